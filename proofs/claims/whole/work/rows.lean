section
-- ===== PART A: goes FIRST, ahead of the names: the tables' words, and 'selects' of the private methods out of them =====
/-- a private method of a class that the tables say can be made, by its rows of tables_1 -/
def lw_okq (q : MethodName × Nat) : Prop := (q.1.cls ≠ "java/lang/invoke/MethodHandle" ∧ q.1.cls ≠ "java/lang/invoke/VarHandle") ∧ Cond.instantiable q.1.cls q.2 ∈ tables_1 ∧ Cond.privateMethod q.1 ∈ tables_1 ∧ Cond.instanceMethod q.1 ∈ tables_1
theorem lw_p0 : lw_okq (⟨"ClusterTool", "waferOf", "(I)LClusterTool$Wafer;"⟩, 8) := ⟨⟨by decide +kernel, by decide +kernel⟩, List.mem_of_getElem? (i := 12) (by decide +kernel), List.mem_of_getElem? (i := 181) (by decide +kernel), List.mem_of_getElem? (i := 182) (by decide +kernel)⟩
theorem lw_p1 : lw_okq (⟨"ClusterTool$Route", "has", "(I)Z"⟩, 4) := ⟨⟨by decide +kernel, by decide +kernel⟩, List.mem_of_getElem? (i := 27) (by decide +kernel), List.mem_of_getElem? (i := 201) (by decide +kernel), List.mem_of_getElem? (i := 202) (by decide +kernel)⟩
theorem lw_p2 : lw_okq (⟨"ClusterTool", "isTaken", "(LClusterTool$Wafer;I)Z"⟩, 8) := ⟨⟨by decide +kernel, by decide +kernel⟩, List.mem_of_getElem? (i := 12) (by decide +kernel), List.mem_of_getElem? (i := 214) (by decide +kernel), List.mem_of_getElem? (i := 215) (by decide +kernel)⟩
theorem lw_p3 : lw_okq (⟨"ClusterTool", "situationAfter", "(LClusterTool$Wafer;I)I"⟩, 8) := ⟨⟨by decide +kernel, by decide +kernel⟩, List.mem_of_getElem? (i := 12) (by decide +kernel), List.mem_of_getElem? (i := 218) (by decide +kernel), List.mem_of_getElem? (i := 219) (by decide +kernel)⟩
theorem lw_p4 : lw_okq (⟨"ClusterTool", "situation", "()I"⟩, 8) := ⟨⟨by decide +kernel, by decide +kernel⟩, List.mem_of_getElem? (i := 12) (by decide +kernel), List.mem_of_getElem? (i := 222) (by decide +kernel), List.mem_of_getElem? (i := 223) (by decide +kernel)⟩
theorem lw_p5 : lw_okq (⟨"ClusterTool$Emptying", "search", "(LClusterTool$Ways;II)Z"⟩, 2) := ⟨⟨by decide +kernel, by decide +kernel⟩, List.mem_of_getElem? (i := 55) (by decide +kernel), List.mem_of_getElem? (i := 237) (by decide +kernel), List.mem_of_getElem? (i := 238) (by decide +kernel)⟩
theorem lw_p6 : lw_okq (⟨"ClusterTool$Emptying", "searchMoves", "(LClusterTool$Ways;II)Z"⟩, 2) := ⟨⟨by decide +kernel, by decide +kernel⟩, List.mem_of_getElem? (i := 55) (by decide +kernel), List.mem_of_getElem? (i := 241) (by decide +kernel), List.mem_of_getElem? (i := 242) (by decide +kernel)⟩
theorem lw_p7 : lw_okq (⟨"ClusterTool", "robotFor", "(II)LClusterTool$Robot;"⟩, 8) := ⟨⟨by decide +kernel, by decide +kernel⟩, List.mem_of_getElem? (i := 12) (by decide +kernel), List.mem_of_getElem? (i := 258) (by decide +kernel), List.mem_of_getElem? (i := 259) (by decide +kernel)⟩
theorem lw_p8 : lw_okq (⟨"ClusterTool", "carry", "(II)V"⟩, 8) := ⟨⟨by decide +kernel, by decide +kernel⟩, List.mem_of_getElem? (i := 12) (by decide +kernel), List.mem_of_getElem? (i := 268) (by decide +kernel), List.mem_of_getElem? (i := 269) (by decide +kernel)⟩
theorem lw_p9 : lw_okq (⟨"ClusterTool", "rankOf", "(I)I"⟩, 8) := ⟨⟨by decide +kernel, by decide +kernel⟩, List.mem_of_getElem? (i := 12) (by decide +kernel), List.mem_of_getElem? (i := 288) (by decide +kernel), List.mem_of_getElem? (i := 289) (by decide +kernel)⟩
theorem lw_p10 : lw_okq (⟨"ClusterTool", "limitOf", "(LClusterTool$Wafer;)I"⟩, 8) := ⟨⟨by decide +kernel, by decide +kernel⟩, List.mem_of_getElem? (i := 12) (by decide +kernel), List.mem_of_getElem? (i := 300) (by decide +kernel), List.mem_of_getElem? (i := 301) (by decide +kernel)⟩
theorem lw_p11 : lw_okq (⟨"ClusterTool", "countFinished", "()I"⟩, 8) := ⟨⟨by decide +kernel, by decide +kernel⟩, List.mem_of_getElem? (i := 12) (by decide +kernel), List.mem_of_getElem? (i := 381) (by decide +kernel), List.mem_of_getElem? (i := 382) (by decide +kernel)⟩
theorem lw_p12 : lw_okq (⟨"ClusterTool", "countLate", "()I"⟩, 8) := ⟨⟨by decide +kernel, by decide +kernel⟩, List.mem_of_getElem? (i := 12) (by decide +kernel), List.mem_of_getElem? (i := 385) (by decide +kernel), List.mem_of_getElem? (i := 386) (by decide +kernel)⟩
theorem lw_p13 : lw_okq (⟨"ClusterToolModel", "situation", "()I"⟩, 24) := ⟨⟨by decide +kernel, by decide +kernel⟩, List.mem_of_getElem? (i := 389) (by decide +kernel), List.mem_of_getElem? (i := 484) (by decide +kernel), List.mem_of_getElem? (i := 485) (by decide +kernel)⟩
theorem lw_p14 : lw_okq (⟨"ClusterToolModel", "digitOf", "(I)I"⟩, 24) := ⟨⟨by decide +kernel, by decide +kernel⟩, List.mem_of_getElem? (i := 389) (by decide +kernel), List.mem_of_getElem? (i := 491) (by decide +kernel), List.mem_of_getElem? (i := 492) (by decide +kernel)⟩
theorem lw_p15 : lw_okq (⟨"ClusterToolModel", "canBeEmptied", "(I)Z"⟩, 24) := ⟨⟨by decide +kernel, by decide +kernel⟩, List.mem_of_getElem? (i := 389) (by decide +kernel), List.mem_of_getElem? (i := 495) (by decide +kernel), List.mem_of_getElem? (i := 496) (by decide +kernel)⟩
def lw_privs_1 : List (MethodName × Nat) := [(⟨"ClusterTool", "waferOf", "(I)LClusterTool$Wafer;"⟩, 8), (⟨"ClusterTool$Route", "has", "(I)Z"⟩, 4), (⟨"ClusterTool", "isTaken", "(LClusterTool$Wafer;I)Z"⟩, 8), (⟨"ClusterTool", "situationAfter", "(LClusterTool$Wafer;I)I"⟩, 8), (⟨"ClusterTool", "situation", "()I"⟩, 8), (⟨"ClusterTool$Emptying", "search", "(LClusterTool$Ways;II)Z"⟩, 2), (⟨"ClusterTool$Emptying", "searchMoves", "(LClusterTool$Ways;II)Z"⟩, 2), (⟨"ClusterTool", "robotFor", "(II)LClusterTool$Robot;"⟩, 8), (⟨"ClusterTool", "carry", "(II)V"⟩, 8), (⟨"ClusterTool", "rankOf", "(I)I"⟩, 8), (⟨"ClusterTool", "limitOf", "(LClusterTool$Wafer;)I"⟩, 8), (⟨"ClusterTool", "countFinished", "()I"⟩, 8), (⟨"ClusterTool", "countLate", "()I"⟩, 8), (⟨"ClusterToolModel", "situation", "()I"⟩, 24), (⟨"ClusterToolModel", "digitOf", "(I)I"⟩, 24), (⟨"ClusterToolModel", "canBeEmptied", "(I)Z"⟩, 24)]
theorem lw_r1 : ∀ q ∈ lw_privs_1, lw_okq q := List.forall_mem_cons.mpr ⟨lw_p0, List.forall_mem_cons.mpr ⟨lw_p1, List.forall_mem_cons.mpr ⟨lw_p2, List.forall_mem_cons.mpr ⟨lw_p3, List.forall_mem_cons.mpr ⟨lw_p4, List.forall_mem_cons.mpr ⟨lw_p5, List.forall_mem_cons.mpr ⟨lw_p6, List.forall_mem_cons.mpr ⟨lw_p7, List.forall_mem_cons.mpr ⟨lw_p8, List.forall_mem_cons.mpr ⟨lw_p9, List.forall_mem_cons.mpr ⟨lw_p10, List.forall_mem_cons.mpr ⟨lw_p11, List.forall_mem_cons.mpr ⟨lw_p12, List.forall_mem_cons.mpr ⟨lw_p13, List.forall_mem_cons.mpr ⟨lw_p14, List.forall_mem_cons.mpr ⟨lw_p15, fun _ h => absurd h List.not_mem_nil⟩⟩⟩⟩⟩⟩⟩⟩⟩⟩⟩⟩⟩⟩⟩⟩
theorem lw_p16 : lw_okq (⟨"ClusterToolModel", "knownOf", "(I)I"⟩, 24) := ⟨⟨by decide +kernel, by decide +kernel⟩, List.mem_of_getElem? (i := 389) (by decide +kernel), List.mem_of_getElem? (i := 499) (by decide +kernel), List.mem_of_getElem? (i := 500) (by decide +kernel)⟩
theorem lw_p17 : lw_okq (⟨"ClusterToolModel", "isEmpty", "(I)Z"⟩, 24) := ⟨⟨by decide +kernel, by decide +kernel⟩, List.mem_of_getElem? (i := 389) (by decide +kernel), List.mem_of_getElem? (i := 503) (by decide +kernel), List.mem_of_getElem? (i := 504) (by decide +kernel)⟩
theorem lw_p18 : lw_okq (⟨"ClusterToolModel", "know", "(II)V"⟩, 24) := ⟨⟨by decide +kernel, by decide +kernel⟩, List.mem_of_getElem? (i := 389) (by decide +kernel), List.mem_of_getElem? (i := 510) (by decide +kernel), List.mem_of_getElem? (i := 511) (by decide +kernel)⟩
theorem lw_p19 : lw_okq (⟨"ClusterToolModel", "after", "(III)I"⟩, 24) := ⟨⟨by decide +kernel, by decide +kernel⟩, List.mem_of_getElem? (i := 389) (by decide +kernel), List.mem_of_getElem? (i := 514) (by decide +kernel), List.mem_of_getElem? (i := 515) (by decide +kernel)⟩
theorem lw_p20 : lw_okq (⟨"ClusterToolModel", "isWay", "(IIII)Z"⟩, 24) := ⟨⟨by decide +kernel, by decide +kernel⟩, List.mem_of_getElem? (i := 389) (by decide +kernel), List.mem_of_getElem? (i := 518) (by decide +kernel), List.mem_of_getElem? (i := 519) (by decide +kernel)⟩
theorem lw_p21 : lw_okq (⟨"ClusterToolModel", "isWafer", "(I)Z"⟩, 24) := ⟨⟨by decide +kernel, by decide +kernel⟩, List.mem_of_getElem? (i := 389) (by decide +kernel), List.mem_of_getElem? (i := 535) (by decide +kernel), List.mem_of_getElem? (i := 536) (by decide +kernel)⟩
theorem lw_p22 : lw_okq (⟨"ClusterToolModel", "isFinished", "(I)Z"⟩, 24) := ⟨⟨by decide +kernel, by decide +kernel⟩, List.mem_of_getElem? (i := 389) (by decide +kernel), List.mem_of_getElem? (i := 539) (by decide +kernel), List.mem_of_getElem? (i := 540) (by decide +kernel)⟩
theorem lw_p23 : lw_okq (⟨"ClusterToolModel", "inPlace", "(I)I"⟩, 24) := ⟨⟨by decide +kernel, by decide +kernel⟩, List.mem_of_getElem? (i := 389) (by decide +kernel), List.mem_of_getElem? (i := 543) (by decide +kernel), List.mem_of_getElem? (i := 544) (by decide +kernel)⟩
theorem lw_p24 : lw_okq (⟨"ClusterToolModel", "rank", "(I)I"⟩, 24) := ⟨⟨by decide +kernel, by decide +kernel⟩, List.mem_of_getElem? (i := 389) (by decide +kernel), List.mem_of_getElem? (i := 563) (by decide +kernel), List.mem_of_getElem? (i := 564) (by decide +kernel)⟩
theorem lw_p25 : lw_okq (⟨"ClusterToolModel", "ages", "(I)Z"⟩, 24) := ⟨⟨by decide +kernel, by decide +kernel⟩, List.mem_of_getElem? (i := 389) (by decide +kernel), List.mem_of_getElem? (i := 578) (by decide +kernel), List.mem_of_getElem? (i := 579) (by decide +kernel)⟩
theorem lw_p26 : lw_okq (⟨"ClusterToolModel", "isVisit", "(II)Z"⟩, 24) := ⟨⟨by decide +kernel, by decide +kernel⟩, List.mem_of_getElem? (i := 389) (by decide +kernel), List.mem_of_getElem? (i := 602) (by decide +kernel), List.mem_of_getElem? (i := 603) (by decide +kernel)⟩
def lw_privs_2 : List (MethodName × Nat) := [(⟨"ClusterToolModel", "knownOf", "(I)I"⟩, 24), (⟨"ClusterToolModel", "isEmpty", "(I)Z"⟩, 24), (⟨"ClusterToolModel", "know", "(II)V"⟩, 24), (⟨"ClusterToolModel", "after", "(III)I"⟩, 24), (⟨"ClusterToolModel", "isWay", "(IIII)Z"⟩, 24), (⟨"ClusterToolModel", "isWafer", "(I)Z"⟩, 24), (⟨"ClusterToolModel", "isFinished", "(I)Z"⟩, 24), (⟨"ClusterToolModel", "inPlace", "(I)I"⟩, 24), (⟨"ClusterToolModel", "rank", "(I)I"⟩, 24), (⟨"ClusterToolModel", "ages", "(I)Z"⟩, 24), (⟨"ClusterToolModel", "isVisit", "(II)Z"⟩, 24)]
theorem lw_r2 : ∀ q ∈ lw_privs_2, lw_okq q := List.forall_mem_cons.mpr ⟨lw_p16, List.forall_mem_cons.mpr ⟨lw_p17, List.forall_mem_cons.mpr ⟨lw_p18, List.forall_mem_cons.mpr ⟨lw_p19, List.forall_mem_cons.mpr ⟨lw_p20, List.forall_mem_cons.mpr ⟨lw_p21, List.forall_mem_cons.mpr ⟨lw_p22, List.forall_mem_cons.mpr ⟨lw_p23, List.forall_mem_cons.mpr ⟨lw_p24, List.forall_mem_cons.mpr ⟨lw_p25, List.forall_mem_cons.mpr ⟨lw_p26, fun _ h => absurd h List.not_mem_nil⟩⟩⟩⟩⟩⟩⟩⟩⟩⟩⟩
def lw_privs : List (MethodName × Nat) := lw_privs_1 ++ (lw_privs_2)
def lw_tbl : List Cond := k2_sels lw_privs ++ tables_1
theorem lw_privs_ok : ∀ q ∈ lw_privs, lw_okq q := by
  show ∀ q ∈ lw_privs_1 ++ (lw_privs_2), lw_okq q
  exact List.forall_mem_append.mpr ⟨lw_r1, lw_r2⟩
end
section
/-! Names: classes, fields, methods; words by their places. Printed by names.py (own work), out of the listing and the tables. -/
def R_ClusterTool : String := "ClusterTool"
def R_Ways : String := "ClusterTool$Ways"
def R_Emptying : String := "ClusterTool$Emptying"
def R_Robot : String := "ClusterTool$Robot"
def R_Route : String := "ClusterTool$Route"
def R_Wafer : String := "ClusterTool$Wafer"
def R_Model : String := "ClusterToolModel"
def R_Situation : String := "ClusterTool$Situation"
def R_Arrays : String := "java/util/Arrays"
def F_ClusterTool : u_T := fun k => match k with
  | 0 => ("ClusterTool", "ways", "LClusterTool$Ways;", true)
  | 1 => ("ClusterTool", "emptying", "LClusterTool$Emptying;", true)
  | 2 => ("ClusterTool", "front", "LClusterTool$Robot;", true)
  | 3 => ("ClusterTool", "back", "LClusterTool$Robot;", true)
  | 4 => ("ClusterTool", "wafers", "[LClusterTool$Wafer;", true)
  | 5 => ("ClusterTool", "inside", "[I", true)
  | 6 => ("ClusterTool", "loaded", "I", false)
  | _ => ("ClusterTool", "clock", "I", false)
def t_ClusterTool : Nat → FieldType := fun k => match k with
  | 0 => .object "ClusterTool$Ways"
  | 1 => .object "ClusterTool$Emptying"
  | 2 => .object "ClusterTool$Robot"
  | 3 => .object "ClusterTool$Robot"
  | 4 => .array (.object "ClusterTool$Wafer")
  | 5 => .array .int
  | 6 => .int
  | _ => .int
theorem n_ClusterTool : ∀ a, a < 8 → ∀ b, b < 8 → a ≠ b → (F_ClusterTool a).2.1 ≠ (F_ClusterTool b).2.1 := by decide +kernel
theorem t_ClusterTool_ok : ∀ k, k < 8 → parseFieldDescriptor (F_ClusterTool k).2.2.1 = some (t_ClusterTool k) := by decide +kernel
def F_Ways : u_T := fun k => match k with
  | 0 => ("ClusterTool$Ways", "routes", "[LClusterTool$Route;", true)
  | _ => ("ClusterTool$Ways", "downs", "I", false)
def t_Ways : Nat → FieldType := fun k => match k with
  | 0 => .array (.object "ClusterTool$Route")
  | _ => .int
theorem n_Ways : ∀ a, a < 2 → ∀ b, b < 2 → a ≠ b → (F_Ways a).2.1 ≠ (F_Ways b).2.1 := by decide +kernel
theorem t_Ways_ok : ∀ k, k < 2 → parseFieldDescriptor (F_Ways k).2.2.1 = some (t_Ways k) := by decide +kernel
def F_Emptying : u_T := fun k => match k with
  | 0 => ("ClusterTool$Emptying", "known", "[J", true)
  | _ => ("ClusterTool$Emptying", "possible", "[J", true)
def t_Emptying : Nat → FieldType := fun k => match k with
  | 0 => .array .long
  | _ => .array .long
theorem n_Emptying : ∀ a, a < 2 → ∀ b, b < 2 → a ≠ b → (F_Emptying a).2.1 ≠ (F_Emptying b).2.1 := by decide +kernel
theorem t_Emptying_ok : ∀ k, k < 2 → parseFieldDescriptor (F_Emptying k).2.2.1 = some (t_Emptying k) := by decide +kernel
def F_Robot : u_T := fun k => match k with
  | 0 => ("ClusterTool$Robot", "busy", "Z", false)
  | _ => ("ClusterTool$Robot", "moves", "I", false)
def t_Robot : Nat → FieldType := fun k => match k with
  | 0 => .boolean
  | _ => .int
theorem n_Robot : ∀ a, a < 2 → ∀ b, b < 2 → a ≠ b → (F_Robot a).2.1 ≠ (F_Robot b).2.1 := by decide +kernel
theorem t_Robot_ok : ∀ k, k < 2 → parseFieldDescriptor (F_Robot k).2.2.1 = some (t_Robot k) := by decide +kernel
def F_Route : u_T := fun k => match k with
  | 0 => ("ClusterTool$Route", "masks", "[I", true)
  | 1 => ("ClusterTool$Route", "times", "[I", true)
  | 2 => ("ClusterTool$Route", "limits", "[I", true)
  | _ => ("ClusterTool$Route", "length", "I", false)
def t_Route : Nat → FieldType := fun k => match k with
  | 0 => .array .int
  | 1 => .array .int
  | 2 => .array .int
  | _ => .int
theorem n_Route : ∀ a, a < 4 → ∀ b, b < 4 → a ≠ b → (F_Route a).2.1 ≠ (F_Route b).2.1 := by decide +kernel
theorem t_Route_ok : ∀ k, k < 4 → parseFieldDescriptor (F_Route k).2.2.1 = some (t_Route k) := by decide +kernel
def F_Wafer : u_T := fun k => match k with
  | 0 => ("ClusterTool$Wafer", "route", "I", true)
  | 1 => ("ClusterTool$Wafer", "chambers", "[I", true)
  | 2 => ("ClusterTool$Wafer", "begins", "[I", true)
  | 3 => ("ClusterTool$Wafer", "ends", "[I", true)
  | 4 => ("ClusterTool$Wafer", "place", "I", false)
  | 5 => ("ClusterTool$Wafer", "stage", "I", false)
  | 6 => ("ClusterTool$Wafer", "left", "I", false)
  | 7 => ("ClusterTool$Wafer", "waited", "I", false)
  | 8 => ("ClusterTool$Wafer", "finished", "Z", false)
  | _ => ("ClusterTool$Wafer", "late", "Z", false)
def t_Wafer : Nat → FieldType := fun k => match k with
  | 0 => .int
  | 1 => .array .int
  | 2 => .array .int
  | 3 => .array .int
  | 4 => .int
  | 5 => .int
  | 6 => .int
  | 7 => .int
  | 8 => .boolean
  | _ => .boolean
theorem n_Wafer : ∀ a, a < 10 → ∀ b, b < 10 → a ≠ b → (F_Wafer a).2.1 ≠ (F_Wafer b).2.1 := by decide +kernel
theorem t_Wafer_ok : ∀ k, k < 10 → parseFieldDescriptor (F_Wafer k).2.2.1 = some (t_Wafer k) := by decide +kernel
def F_Model : u_T := fun k => match k with
  | 0 => ("ClusterToolModel", "visits", "[I", true)
  | 1 => ("ClusterToolModel", "masks", "[I", true)
  | 2 => ("ClusterToolModel", "times", "[I", true)
  | 3 => ("ClusterToolModel", "limits", "[I", true)
  | 4 => ("ClusterToolModel", "wafers", "I", false)
  | 5 => ("ClusterToolModel", "routes", "[I", true)
  | 6 => ("ClusterToolModel", "stages", "[I", true)
  | 7 => ("ClusterToolModel", "places", "[I", true)
  | 8 => ("ClusterToolModel", "lefts", "[I", true)
  | 9 => ("ClusterToolModel", "since", "[I", true)
  | 10 => ("ClusterToolModel", "late", "[Z", true)
  | 11 => ("ClusterToolModel", "chambers", "[I", true)
  | 12 => ("ClusterToolModel", "begun", "[I", true)
  | 13 => ("ClusterToolModel", "over", "[I", true)
  | 14 => ("ClusterToolModel", "downs", "[Z", true)
  | 15 => ("ClusterToolModel", "clock", "I", false)
  | 16 => ("ClusterToolModel", "frontMoved", "Z", false)
  | 17 => ("ClusterToolModel", "backMoved", "Z", false)
  | 18 => ("ClusterToolModel", "frontMoves", "I", false)
  | 19 => ("ClusterToolModel", "backMoves", "I", false)
  | 20 => ("ClusterToolModel", "known", "[I", true)
  | 21 => ("ClusterToolModel", "stale", "Z", false)
  | 22 => ("ClusterToolModel", "trail", "[I", true)
  | _ => ("ClusterToolModel", "turn", "[I", true)
def t_Model : Nat → FieldType := fun k => match k with
  | 0 => .array .int
  | 1 => .array .int
  | 2 => .array .int
  | 3 => .array .int
  | 4 => .int
  | 5 => .array .int
  | 6 => .array .int
  | 7 => .array .int
  | 8 => .array .int
  | 9 => .array .int
  | 10 => .array .boolean
  | 11 => .array .int
  | 12 => .array .int
  | 13 => .array .int
  | 14 => .array .boolean
  | 15 => .int
  | 16 => .boolean
  | 17 => .boolean
  | 18 => .int
  | 19 => .int
  | 20 => .array .int
  | 21 => .boolean
  | 22 => .array .int
  | _ => .array .int
theorem n_Model : ∀ a, a < 24 → ∀ b, b < 24 → a ≠ b → (F_Model a).2.1 ≠ (F_Model b).2.1 := by decide +kernel
theorem t_Model_ok : ∀ k, k < 24 → parseFieldDescriptor (F_Model k).2.2.1 = some (t_Model k) := by decide +kernel
abbrev classes : List vw_C := [(R_ClusterTool, F_ClusterTool, 8), (R_Ways, F_Ways, 2), (R_Emptying, F_Emptying, 2), (R_Robot, F_Robot, 2), (R_Route, F_Route, 4), (R_Wafer, F_Wafer, 10), (R_Model, F_Model, 24)]
abbrev b_T_init : ByteArray := prog_1_method_1_code
def y_T_init : MethodName := ⟨R_ClusterTool, "<init>", "()V"⟩
abbrev b_T_carry : ByteArray := prog_1_method_26_code
def y_T_carry : MethodName := ⟨R_ClusterTool, "carry", "(II)V"⟩
abbrev b_T_count : ByteArray := prog_1_method_18_code
def y_T_count : MethodName := ⟨R_ClusterTool, "count", "(I)I"⟩
abbrev b_T_countFinished : ByteArray := prog_1_method_28_code
def y_T_countFinished : MethodName := ⟨R_ClusterTool, "countFinished", "()I"⟩
abbrev b_T_countLate : ByteArray := prog_1_method_29_code
def y_T_countLate : MethodName := ⟨R_ClusterTool, "countLate", "()I"⟩
abbrev b_T_down : ByteArray := prog_1_method_9_code
def y_T_down : MethodName := ⟨R_ClusterTool, "down", "(IZ)Z"⟩
abbrev b_T_go : ByteArray := prog_1_method_7_code
def y_T_go : MethodName := ⟨R_ClusterTool, "go", "()I"⟩
abbrev b_T_in : ByteArray := prog_1_method_11_code
def y_T_in : MethodName := ⟨R_ClusterTool, "in", "(I)I"⟩
abbrev b_T_isTaken : ByteArray := prog_1_method_22_code
def y_T_isTaken : MethodName := ⟨R_ClusterTool, "isTaken", "(LClusterTool$Wafer;I)Z"⟩
abbrev b_T_isWithin : ByteArray := prog_1_method_19_code
def y_T_isWithin : MethodName := ⟨R_ClusterTool, "isWithin", "(III)Z"⟩
abbrev b_T_left : ByteArray := prog_1_method_16_code
def y_T_left : MethodName := ⟨R_ClusterTool, "left", "(I)I"⟩
abbrev b_T_limitOf : ByteArray := prog_1_method_21_code
def y_T_limitOf : MethodName := ⟨R_ClusterTool, "limitOf", "(LClusterTool$Wafer;)I"⟩
abbrev b_T_load : ByteArray := prog_1_method_3_code
def y_T_load : MethodName := ⟨R_ClusterTool, "load", "(I)I"⟩
abbrev b_T_may : ByteArray := prog_1_method_4_code
def y_T_may : MethodName := ⟨R_ClusterTool, "may", "(II)I"⟩
abbrev b_T_move : ByteArray := prog_1_method_5_code
def y_T_move : MethodName := ⟨R_ClusterTool, "move", "(II)I"⟩
abbrev b_T_next : ByteArray := prog_1_method_6_code
def y_T_next : MethodName := ⟨R_ClusterTool, "next", "()I"⟩
abbrev b_T_place : ByteArray := prog_1_method_12_code
def y_T_place : MethodName := ⟨R_ClusterTool, "place", "(I)I"⟩
abbrev b_T_rankOf : ByteArray := prog_1_method_27_code
def y_T_rankOf : MethodName := ⟨R_ClusterTool, "rankOf", "(I)I"⟩
abbrev b_T_robotFor : ByteArray := prog_1_method_25_code
def y_T_robotFor : MethodName := ⟨R_ClusterTool, "robotFor", "(II)LClusterTool$Robot;"⟩
abbrev b_T_safe : ByteArray := prog_1_method_10_code
def y_T_safe : MethodName := ⟨R_ClusterTool, "safe", "()Z"⟩
abbrev b_T_situation : ByteArray := prog_1_method_23_code
def y_T_situation : MethodName := ⟨R_ClusterTool, "situation", "()I"⟩
abbrev b_T_situationAfter : ByteArray := prog_1_method_24_code
def y_T_situationAfter : MethodName := ⟨R_ClusterTool, "situationAfter", "(LClusterTool$Wafer;I)I"⟩
abbrev b_T_stage : ByteArray := prog_1_method_13_code
def y_T_stage : MethodName := ⟨R_ClusterTool, "stage", "(I)I"⟩
abbrev b_T_stay : ByteArray := prog_1_method_17_code
def y_T_stay : MethodName := ⟨R_ClusterTool, "stay", "(I)I"⟩
abbrev b_T_tick : ByteArray := prog_1_method_8_code
def y_T_tick : MethodName := ⟨R_ClusterTool, "tick", "(I)I"⟩
abbrev b_T_visit : ByteArray := prog_1_method_2_code
def y_T_visit : MethodName := ⟨R_ClusterTool, "visit", "(IIII)I"⟩
abbrev b_T_visited : ByteArray := prog_1_method_14_code
def y_T_visited : MethodName := ⟨R_ClusterTool, "visited", "(II)I"⟩
abbrev b_T_waferOf : ByteArray := prog_1_method_20_code
def y_T_waferOf : MethodName := ⟨R_ClusterTool, "waferOf", "(I)LClusterTool$Wafer;"⟩
abbrev b_T_when : ByteArray := prog_1_method_15_code
def y_T_when : MethodName := ⟨R_ClusterTool, "when", "(IIZ)I"⟩
abbrev b_E_init : ByteArray := prog_2_method_1_code
def y_E_init : MethodName := ⟨R_Emptying, "<init>", "()V"⟩
abbrev b_E_forget : ByteArray := prog_2_method_2_code
def y_E_forget : MethodName := ⟨R_Emptying, "forget", "()V"⟩
abbrev b_E_search : ByteArray := prog_2_method_3_code
def y_E_search : MethodName := ⟨R_Emptying, "search", "(LClusterTool$Ways;II)Z"⟩
abbrev b_E_searchMoves : ByteArray := prog_2_method_4_code
def y_E_searchMoves : MethodName := ⟨R_Emptying, "searchMoves", "(LClusterTool$Ways;II)Z"⟩
abbrev b_B_init : ByteArray := prog_3_method_1_code
def y_B_init : MethodName := ⟨R_Robot, "<init>", "()V"⟩
abbrev b_U_init : ByteArray := prog_4_method_1_code
def y_U_init : MethodName := ⟨R_Route, "<init>", "()V"⟩
abbrev b_U_append : ByteArray := prog_4_method_2_code
def y_U_append : MethodName := ⟨R_Route, "append", "(III)V"⟩
abbrev b_U_has : ByteArray := prog_4_method_6_code
def y_U_has : MethodName := ⟨R_Route, "has", "(I)Z"⟩
abbrev b_U_limitAt : ByteArray := prog_4_method_5_code
def y_U_limitAt : MethodName := ⟨R_Route, "limitAt", "(I)I"⟩
abbrev b_U_maskAt : ByteArray := prog_4_method_3_code
def y_U_maskAt : MethodName := ⟨R_Route, "maskAt", "(I)I"⟩
abbrev b_U_timeAt : ByteArray := prog_4_method_4_code
def y_U_timeAt : MethodName := ⟨R_Route, "timeAt", "(I)I"⟩
abbrev b_S_after : ByteArray := prog_5_method_6_code
def y_S_after : MethodName := ⟨R_Situation, "after", "(IIIII)I"⟩
abbrev b_S_isFree : ByteArray := prog_5_method_7_code
def y_S_isFree : MethodName := ⟨R_Situation, "isFree", "(III)Z"⟩
abbrev b_S_markAt : ByteArray := prog_5_method_3_code
def y_S_markAt : MethodName := ⟨R_Situation, "markAt", "(II)I"⟩
abbrev b_S_routeIn : ByteArray := prog_5_method_4_code
def y_S_routeIn : MethodName := ⟨R_Situation, "routeIn", "(I)I"⟩
abbrev b_S_stageIn : ByteArray := prog_5_method_5_code
def y_S_stageIn : MethodName := ⟨R_Situation, "stageIn", "(I)I"⟩
abbrev b_S_with : ByteArray := prog_5_method_2_code
def y_S_with : MethodName := ⟨R_Situation, "with", "(IIII)I"⟩
abbrev b_W_init : ByteArray := prog_6_method_1_code
def y_W_init : MethodName := ⟨R_Wafer, "<init>", "(IZ)V"⟩
abbrev b_W_arrive : ByteArray := prog_6_method_3_code
def y_W_arrive : MethodName := ⟨R_Wafer, "arrive", "(I)V"⟩
abbrev b_W_begin : ByteArray := prog_6_method_4_code
def y_W_begin : MethodName := ⟨R_Wafer, "begin", "(II)V"⟩
abbrev b_W_hasBegun : ByteArray := prog_6_method_2_code
def y_W_hasBegun : MethodName := ⟨R_Wafer, "hasBegun", "(I)Z"⟩
abbrev b_W_spend : ByteArray := prog_6_method_5_code
def y_W_spend : MethodName := ⟨R_Wafer, "spend", "(II)V"⟩
abbrev b_W_turnsLate : ByteArray := prog_6_method_6_code
def y_W_turnsLate : MethodName := ⟨R_Wafer, "turnsLate", "(I)Z"⟩
abbrev b_Y_init : ByteArray := prog_7_method_1_code
def y_Y_init : MethodName := ⟨R_Ways, "<init>", "()V"⟩
abbrev b_Y_beyond : ByteArray := prog_7_method_9_code
def y_Y_beyond : MethodName := ⟨R_Ways, "beyond", "(I)I"⟩
abbrev b_Y_isBack : ByteArray := prog_7_method_2_code
def y_Y_isBack : MethodName := ⟨R_Ways, "isBack", "(I)Z"⟩
abbrev b_Y_isDown : ByteArray := prog_7_method_4_code
def y_Y_isDown : MethodName := ⟨R_Ways, "isDown", "(I)Z"⟩
abbrev b_Y_isHomeward : ByteArray := prog_7_method_8_code
def y_Y_isHomeward : MethodName := ⟨R_Ways, "isHomeward", "(II)Z"⟩
abbrev b_Y_isReach : ByteArray := prog_7_method_7_code
def y_Y_isReach : MethodName := ⟨R_Ways, "isReach", "(II)Z"⟩
abbrev b_Y_leads : ByteArray := prog_7_method_6_code
def y_Y_leads : MethodName := ⟨R_Ways, "leads", "(IIII)Z"⟩
abbrev b_Y_routeOf : ByteArray := prog_7_method_3_code
def y_Y_routeOf : MethodName := ⟨R_Ways, "routeOf", "(I)LClusterTool$Route;"⟩
abbrev b_Y_turn : ByteArray := prog_7_method_5_code
def y_Y_turn : MethodName := ⟨R_Ways, "turn", "(I)V"⟩
abbrev b_M_init : ByteArray := prog_9_method_1_code
def y_M_init : MethodName := ⟨R_Model, "<init>", "()V"⟩
abbrev b_M_after : ByteArray := prog_9_method_16_code
def y_M_after : MethodName := ⟨R_Model, "after", "(III)I"⟩
abbrev b_M_ages : ByteArray := prog_9_method_29_code
def y_M_ages : MethodName := ⟨R_Model, "ages", "(I)Z"⟩
abbrev b_M_areNear : ByteArray := prog_9_method_9_code
def y_M_areNear : MethodName := ⟨R_Model, "areNear", "(II)Z"⟩
abbrev b_M_byFront : ByteArray := prog_9_method_22_code
def y_M_byFront : MethodName := ⟨R_Model, "byFront", "(II)Z"⟩
abbrev b_M_canBeEmptied : ByteArray := prog_9_method_19_code
def y_M_canBeEmptied : MethodName := ⟨R_Model, "canBeEmptied", "(I)Z"⟩
abbrev b_M_count : ByteArray := prog_9_method_39_code
def y_M_count : MethodName := ⟨R_Model, "count", "(I)I"⟩
abbrev b_M_digit : ByteArray := prog_9_method_12_code
def y_M_digit : MethodName := ⟨R_Model, "digit", "(II)I"⟩
abbrev b_M_digitOf : ByteArray := prog_9_method_13_code
def y_M_digitOf : MethodName := ⟨R_Model, "digitOf", "(I)I"⟩
abbrev b_M_down : ByteArray := prog_9_method_31_code
def y_M_down : MethodName := ⟨R_Model, "down", "(IZ)Z"⟩
abbrev b_M_go : ByteArray := prog_9_method_28_code
def y_M_go : MethodName := ⟨R_Model, "go", "()I"⟩
abbrev b_M_in : ByteArray := prog_9_method_32_code
def y_M_in : MethodName := ⟨R_Model, "in", "(I)I"⟩
abbrev b_M_inPlace : ByteArray := prog_9_method_21_code
def y_M_inPlace : MethodName := ⟨R_Model, "inPlace", "(I)I"⟩
abbrev b_M_isBack : ByteArray := prog_9_method_8_code
def y_M_isBack : MethodName := ⟨R_Model, "isBack", "(I)Z"⟩
abbrev b_M_isEmpty : ByteArray := prog_9_method_15_code
def y_M_isEmpty : MethodName := ⟨R_Model, "isEmpty", "(I)Z"⟩
abbrev b_M_isFinished : ByteArray := prog_9_method_6_code
def y_M_isFinished : MethodName := ⟨R_Model, "isFinished", "(I)Z"⟩
abbrev b_M_isFront : ByteArray := prog_9_method_7_code
def y_M_isFront : MethodName := ⟨R_Model, "isFront", "(I)Z"⟩
abbrev b_M_isRoute : ByteArray := prog_9_method_2_code
def y_M_isRoute : MethodName := ⟨R_Model, "isRoute", "(I)Z"⟩
abbrev b_M_isVisit : ByteArray := prog_9_method_35_code
def y_M_isVisit : MethodName := ⟨R_Model, "isVisit", "(II)Z"⟩
abbrev b_M_isWafer : ByteArray := prog_9_method_5_code
def y_M_isWafer : MethodName := ⟨R_Model, "isWafer", "(I)Z"⟩
abbrev b_M_isWay : ByteArray := prog_9_method_10_code
def y_M_isWay : MethodName := ⟨R_Model, "isWay", "(IIII)Z"⟩
abbrev b_M_know : ByteArray := prog_9_method_18_code
def y_M_know : MethodName := ⟨R_Model, "know", "(II)V"⟩
abbrev b_M_knownOf : ByteArray := prog_9_method_17_code
def y_M_knownOf : MethodName := ⟨R_Model, "knownOf", "(I)I"⟩
abbrev b_M_left : ByteArray := prog_9_method_38_code
def y_M_left : MethodName := ⟨R_Model, "left", "(I)I"⟩
abbrev b_M_load : ByteArray := prog_9_method_4_code
def y_M_load : MethodName := ⟨R_Model, "load", "(I)I"⟩
abbrev b_M_may : ByteArray := prog_9_method_23_code
def y_M_may : MethodName := ⟨R_Model, "may", "(II)I"⟩
abbrev b_M_move : ByteArray := prog_9_method_24_code
def y_M_move : MethodName := ⟨R_Model, "move", "(II)I"⟩
abbrev b_M_next : ByteArray := prog_9_method_27_code
def y_M_next : MethodName := ⟨R_Model, "next", "()I"⟩
abbrev b_M_place : ByteArray := prog_9_method_33_code
def y_M_place : MethodName := ⟨R_Model, "place", "(I)I"⟩
abbrev b_M_power : ByteArray := prog_9_method_11_code
def y_M_power : MethodName := ⟨R_Model, "power", "(I)I"⟩
abbrev b_M_rank : ByteArray := prog_9_method_26_code
def y_M_rank : MethodName := ⟨R_Model, "rank", "(I)I"⟩
abbrev b_M_safe : ByteArray := prog_9_method_20_code
def y_M_safe : MethodName := ⟨R_Model, "safe", "()Z"⟩
abbrev b_M_situation : ByteArray := prog_9_method_14_code
def y_M_situation : MethodName := ⟨R_Model, "situation", "()I"⟩
abbrev b_M_stage : ByteArray := prog_9_method_34_code
def y_M_stage : MethodName := ⟨R_Model, "stage", "(I)I"⟩
abbrev b_M_stay : ByteArray := prog_9_method_25_code
def y_M_stay : MethodName := ⟨R_Model, "stay", "(I)I"⟩
abbrev b_M_tick : ByteArray := prog_9_method_30_code
def y_M_tick : MethodName := ⟨R_Model, "tick", "(I)I"⟩
abbrev b_M_visit : ByteArray := prog_9_method_3_code
def y_M_visit : MethodName := ⟨R_Model, "visit", "(IIII)I"⟩
abbrev b_M_visited : ByteArray := prog_9_method_36_code
def y_M_visited : MethodName := ⟨R_Model, "visited", "(II)I"⟩
abbrev b_M_when : ByteArray := prog_9_method_37_code
def y_M_when : MethodName := ⟨R_Model, "when", "(IIZ)I"⟩
abbrev b_J_fill : ByteArray := prog_11_method_101_code
def y_J_fill : MethodName := ⟨R_Arrays, "fill", "([JJ)V"⟩
/-- the words that every contract takes: all good words of the tables -/
def WA : List Cond := lw_tbl.filter goodWord
theorem wd_1 {w c0 : Cond} (j : Nat) (h : tables_1_1[j]? = some w) (hg : goodWord w = true) : w ∈ c0 :: WA :=
  List.mem_cons_of_mem _ (List.mem_filter.mpr ⟨List.mem_append_right _ (List.mem_append_left _ (List.mem_of_getElem? h)), hg⟩)
theorem wd_2 {w c0 : Cond} (j : Nat) (h : tables_1_2[j]? = some w) (hg : goodWord w = true) : w ∈ c0 :: WA :=
  List.mem_cons_of_mem _ (List.mem_filter.mpr ⟨List.mem_append_right _ (List.mem_append_right _ (List.mem_append_left _ (List.mem_of_getElem? h))), hg⟩)
theorem wd_3 {w c0 : Cond} (j : Nat) (h : tables_1_3[j]? = some w) (hg : goodWord w = true) : w ∈ c0 :: WA :=
  List.mem_cons_of_mem _ (List.mem_filter.mpr ⟨List.mem_append_right _ (List.mem_append_right _ (List.mem_append_right _ (List.mem_of_getElem? h))), hg⟩)
theorem wd_s {y : MethodName} {n : Nat} {c0 : Cond} (j : Nat) (h : lw_privs[j]? = some (y, n)) : Cond.selects y.cls y y ∈ c0 :: WA :=
  List.mem_cons_of_mem _ (List.mem_filter.mpr ⟨List.mem_append_left _ (List.mem_map.mpr ⟨(y, n), List.mem_of_getElem? h, rfl⟩), rfl⟩)
theorem wa_all {c0 c1 : Cond} {L : List Cond} (hL : ∀ w ∈ L, w ∈ c0 :: WA ∧ goodWord w = true) (h1 : c1 ∈ c0 :: WA) (hg : goodWord c1 = true) : GoodIn (c0 :: WA) (L ++ (c1 :: WA)) := by
  intro w hw
  rcases List.mem_append.mp hw with h | h
  · exact ⟨(hL w h).1, good_of_word (hL w h).2⟩
  · rcases List.mem_cons.mp h with rfl | h
    · exact ⟨h1, good_of_word hg⟩
    · exact ⟨List.mem_cons_of_mem _ h, good_of_word (List.mem_filter.mp h).2⟩
theorem gC {c0 c1 : Cond} (h1 : c1 ∈ c0 :: WA) (hg : goodWord c1 = true) : GoodIn (c0 :: WA) (c1 :: WA) := wa_all (L := []) (fun w h => by cases h) h1 hg
theorem gS {c0 : Cond} {own : String} {idx : Nat} {y : MethodName} {b : ByteArray} {n : Nat} {r : Option FieldType} (i1 : Cond.methodLink own idx y ∈ c0 :: WA) (i2 : Cond.static y ∈ c0 :: WA) (i3 : Cond.initialized own ∈ c0 :: WA) (i4 : Cond.code y b n r ∈ c0 :: WA) : GoodIn (c0 :: WA) (wsS own idx y (Cond.code y b n r :: WA)) := by
  unfold wsS
  refine wa_all (fun w hw => ?_) i4 rfl
  simp only [List.mem_cons, List.not_mem_nil, or_false] at hw
  rcases hw with rfl | rfl | rfl
  · exact ⟨i1, rfl⟩
  · exact ⟨i2, rfl⟩
  · exact ⟨i3, rfl⟩
theorem gT {c0 : Cond} {own : String} {idx : Nat} {y : MethodName} {b : ByteArray} {n : Nat} {r : Option FieldType} (i1 : Cond.methodLink own idx y ∈ c0 :: WA) (i2 : Cond.static y ∈ c0 :: WA) (i3 : Cond.initialized y.cls ∈ c0 :: WA) (i4 : Cond.code y b n r ∈ c0 :: WA) : GoodIn (c0 :: WA) (va_wsS own idx y (Cond.code y b n r :: WA)) := by
  unfold va_wsS
  refine wa_all (fun w hw => ?_) i4 rfl
  simp only [List.mem_cons, List.not_mem_nil, or_false] at hw
  rcases hw with rfl | rfl | rfl
  · exact ⟨i1, rfl⟩
  · exact ⟨i2, rfl⟩
  · exact ⟨i3, rfl⟩
theorem gV {c0 : Cond} {own C : String} {idx : Nat} {y : MethodName} {b : ByteArray} {n : Nat} {r : Option FieldType} (i1 : Cond.methodLink own idx y ∈ c0 :: WA) (i2 : Cond.instanceMethod y ∈ c0 :: WA) (i3 : Cond.selects C y y ∈ c0 :: WA) (i5 : Cond.initialized C ∈ c0 :: WA) (i4 : Cond.code y b n r ∈ c0 :: WA) : GoodIn (c0 :: WA) (wsV own idx C y (Cond.code y b n r :: WA)) := by
  unfold wsV
  refine wa_all (fun w hw => ?_) i4 rfl
  simp only [List.mem_cons, List.not_mem_nil, or_false] at hw
  rcases hw with rfl | rfl | rfl | rfl
  · exact ⟨i1, rfl⟩
  · exact ⟨i2, rfl⟩
  · exact ⟨i3, rfl⟩
  · exact ⟨i5, rfl⟩
theorem hin_ClusterTool {c0 : Cond} : ∀ w ∈ u_ws R_ClusterTool F_ClusterTool 8, w ∈ c0 :: WA := by
  intro w hw
  obtain ⟨k, hk, rfl⟩ := List.mem_map.mp hw
  have hk := List.mem_range.mp hk
  rcases (show k = 0 ∨ k = 1 ∨ k = 2 ∨ k = 3 ∨ k = 4 ∨ k = 5 ∨ k = 6 ∨ k = 7 by omega) with rfl | rfl | rfl | rfl | rfl | rfl | rfl | rfl
  · exact wd_1 93 rfl rfl
  · exact wd_1 95 rfl rfl
  · exact wd_1 97 rfl rfl
  · exact wd_1 99 rfl rfl
  · exact wd_1 101 rfl rfl
  · exact wd_1 103 rfl rfl
  · exact wd_1 105 rfl rfl
  · exact wd_1 107 rfl rfl
theorem hin_Ways {c0 : Cond} : ∀ w ∈ u_ws R_Ways F_Ways 2, w ∈ c0 :: WA := by
  intro w hw
  obtain ⟨k, hk, rfl⟩ := List.mem_map.mp hw
  have hk := List.mem_range.mp hk
  rcases (show k = 0 ∨ k = 1 by omega) with rfl | rfl
  · exact wd_1 49 rfl rfl
  · exact wd_1 51 rfl rfl
theorem hin_Emptying {c0 : Cond} : ∀ w ∈ u_ws R_Emptying F_Emptying 2, w ∈ c0 :: WA := by
  intro w hw
  obtain ⟨k, hk, rfl⟩ := List.mem_map.mp hw
  have hk := List.mem_range.mp hk
  rcases (show k = 0 ∨ k = 1 by omega) with rfl | rfl
  · exact wd_1 62 rfl rfl
  · exact wd_1 64 rfl rfl
theorem hin_Robot {c0 : Cond} : ∀ w ∈ u_ws R_Robot F_Robot 2, w ∈ c0 :: WA := by
  intro w hw
  obtain ⟨k, hk, rfl⟩ := List.mem_map.mp hw
  have hk := List.mem_range.mp hk
  rcases (show k = 0 ∨ k = 1 by omega) with rfl | rfl
  · exact wd_1 78 rfl rfl
  · exact wd_1 80 rfl rfl
theorem hin_Route {c0 : Cond} : ∀ w ∈ u_ws R_Route F_Route 4, w ∈ c0 :: WA := by
  intro w hw
  obtain ⟨k, hk, rfl⟩ := List.mem_map.mp hw
  have hk := List.mem_range.mp hk
  rcases (show k = 0 ∨ k = 1 ∨ k = 2 ∨ k = 3 by omega) with rfl | rfl | rfl | rfl
  · exact wd_1 37 rfl rfl
  · exact wd_1 39 rfl rfl
  · exact wd_1 41 rfl rfl
  · exact wd_1 43 rfl rfl
theorem hin_Wafer {c0 : Cond} : ∀ w ∈ u_ws R_Wafer F_Wafer 10, w ∈ c0 :: WA := by
  intro w hw
  obtain ⟨k, hk, rfl⟩ := List.mem_map.mp hw
  have hk := List.mem_range.mp hk
  rcases (show k = 0 ∨ k = 1 ∨ k = 2 ∨ k = 3 ∨ k = 4 ∨ k = 5 ∨ k = 6 ∨ k = 7 ∨ k = 8 ∨ k = 9 by omega) with rfl | rfl | rfl | rfl | rfl | rfl | rfl | rfl | rfl | rfl
  · exact wd_1 155 rfl rfl
  · exact wd_1 157 rfl rfl
  · exact wd_1 159 rfl rfl
  · exact wd_1 161 rfl rfl
  · exact wd_1 163 rfl rfl
  · exact wd_1 165 rfl rfl
  · exact wd_1 167 rfl rfl
  · exact wd_1 169 rfl rfl
  · exact wd_1 171 rfl rfl
  · exact wd_1 173 rfl rfl
theorem hin_Model {c0 : Cond} : ∀ w ∈ u_ws R_Model F_Model 24, w ∈ c0 :: WA := by
  intro w hw
  obtain ⟨k, hk, rfl⟩ := List.mem_map.mp hw
  have hk := List.mem_range.mp hk
  rcases (show k = 0 ∨ k = 1 ∨ k = 2 ∨ k = 3 ∨ k = 4 ∨ k = 5 ∨ k = 6 ∨ k = 7 ∨ k = 8 ∨ k = 9 ∨ k = 10 ∨ k = 11 ∨ k = 12 ∨ k = 13 ∨ k = 14 ∨ k = 15 ∨ k = 16 ∨ k = 17 ∨ k = 18 ∨ k = 19 ∨ k = 20 ∨ k = 21 ∨ k = 22 ∨ k = 23 by omega) with rfl | rfl | rfl | rfl | rfl | rfl | rfl | rfl | rfl | rfl | rfl | rfl | rfl | rfl | rfl | rfl | rfl | rfl | rfl | rfl | rfl | rfl | rfl | rfl
  · exact wd_2 178 rfl rfl
  · exact wd_2 180 rfl rfl
  · exact wd_2 182 rfl rfl
  · exact wd_2 184 rfl rfl
  · exact wd_2 186 rfl rfl
  · exact wd_2 188 rfl rfl
  · exact wd_2 190 rfl rfl
  · exact wd_2 192 rfl rfl
  · exact wd_2 194 rfl rfl
  · exact wd_2 196 rfl rfl
  · exact wd_2 198 rfl rfl
  · exact wd_2 200 rfl rfl
  · exact wd_2 202 rfl rfl
  · exact wd_2 204 rfl rfl
  · exact wd_2 206 rfl rfl
  · exact wd_2 208 rfl rfl
  · exact wd_2 210 rfl rfl
  · exact wd_2 212 rfl rfl
  · exact wd_2 214 rfl rfl
  · exact wd_2 216 rfl rfl
  · exact wd_2 218 rfl rfl
  · exact wd_2 220 rfl rfl
  · exact wd_2 222 rfl rfl
  · exact wd_2 224 rfl rfl
/-- the words on nest mates -/
def NL : List Cond := [.methodLinkNest "ClusterTool" 9 ⟨"ClusterTool$Ways", "<init>", "()V"⟩ "ClusterTool", .methodLinkNest "ClusterTool$Ways" 11 ⟨"ClusterTool$Route", "<init>", "()V"⟩ "ClusterTool", .fieldLinkNest "ClusterTool" 54 "ClusterTool$Route" "length" "I" "ClusterTool", .methodLinkNest "ClusterTool" 18 ⟨"ClusterTool$Emptying", "<init>", "()V"⟩ "ClusterTool", .methodLinkNest "ClusterTool" 25 ⟨"ClusterTool$Robot", "<init>", "()V"⟩ "ClusterTool", .fieldLinkNest "ClusterTool" 110 "ClusterTool$Robot" "busy" "Z" "ClusterTool", .fieldLinkNest "ClusterTool" 179 "ClusterTool$Robot" "moves" "I" "ClusterTool", .methodLinkNest "ClusterTool$Ways" 22 ⟨"ClusterTool", "isWithin", "(III)Z"⟩ "ClusterTool", .fieldLinkNest "ClusterTool" 81 "ClusterTool$Wafer" "route" "I" "ClusterTool", .fieldLinkNest "ClusterTool" 156 "ClusterTool$Wafer" "chambers" "[I" "ClusterTool", .fieldLinkNest "ClusterTool" 162 "ClusterTool$Wafer" "begins" "[I" "ClusterTool", .fieldLinkNest "ClusterTool" 159 "ClusterTool$Wafer" "ends" "[I" "ClusterTool", .fieldLinkNest "ClusterTool" 87 "ClusterTool$Wafer" "place" "I" "ClusterTool", .fieldLinkNest "ClusterTool" 84 "ClusterTool$Wafer" "stage" "I" "ClusterTool", .fieldLinkNest "ClusterTool" 78 "ClusterTool$Wafer" "left" "I" "ClusterTool", .fieldLinkNest "ClusterTool" 165 "ClusterTool$Wafer" "waited" "I" "ClusterTool", .fieldLinkNest "ClusterTool" 74 "ClusterTool$Wafer" "finished" "Z" "ClusterTool", .fieldLinkNest "ClusterTool" 212 "ClusterTool$Wafer" "late" "Z" "ClusterTool", .methodLinkNest "ClusterTool" 102 ⟨"ClusterTool$Emptying", "search", "(LClusterTool$Ways;II)Z"⟩ "ClusterTool", .methodLinkNest "ClusterTool$Wafer" 44 ⟨"ClusterTool", "isWithin", "(III)Z"⟩ "ClusterTool"]
theorem hd_T_init : y_T_init.cls ≠ "java/lang/invoke/MethodHandle" ∧ y_T_init.cls ≠ "java/lang/invoke/VarHandle" ∧ (parseMethodDescriptor y_T_init.desc).map (fun d => d.parameters.length) = some 0 := by decide +kernel
theorem hd_T_carry : y_T_carry.cls ≠ "java/lang/invoke/MethodHandle" ∧ y_T_carry.cls ≠ "java/lang/invoke/VarHandle" ∧ (parseMethodDescriptor y_T_carry.desc).map (fun d => d.parameters.length) = some 2 := by decide +kernel
theorem hd_T_count : y_T_count.cls ≠ "java/lang/invoke/MethodHandle" ∧ y_T_count.cls ≠ "java/lang/invoke/VarHandle" ∧ (parseMethodDescriptor y_T_count.desc).map (fun d => d.parameters.length) = some 1 := by decide +kernel
theorem hd_T_countFinished : y_T_countFinished.cls ≠ "java/lang/invoke/MethodHandle" ∧ y_T_countFinished.cls ≠ "java/lang/invoke/VarHandle" ∧ (parseMethodDescriptor y_T_countFinished.desc).map (fun d => d.parameters.length) = some 0 := by decide +kernel
theorem hd_T_countLate : y_T_countLate.cls ≠ "java/lang/invoke/MethodHandle" ∧ y_T_countLate.cls ≠ "java/lang/invoke/VarHandle" ∧ (parseMethodDescriptor y_T_countLate.desc).map (fun d => d.parameters.length) = some 0 := by decide +kernel
theorem hd_T_down : y_T_down.cls ≠ "java/lang/invoke/MethodHandle" ∧ y_T_down.cls ≠ "java/lang/invoke/VarHandle" ∧ (parseMethodDescriptor y_T_down.desc).map (fun d => d.parameters.length) = some 2 := by decide +kernel
theorem hd_T_go : y_T_go.cls ≠ "java/lang/invoke/MethodHandle" ∧ y_T_go.cls ≠ "java/lang/invoke/VarHandle" ∧ (parseMethodDescriptor y_T_go.desc).map (fun d => d.parameters.length) = some 0 := by decide +kernel
theorem hd_T_in : y_T_in.cls ≠ "java/lang/invoke/MethodHandle" ∧ y_T_in.cls ≠ "java/lang/invoke/VarHandle" ∧ (parseMethodDescriptor y_T_in.desc).map (fun d => d.parameters.length) = some 1 := by decide +kernel
theorem hd_T_isTaken : y_T_isTaken.cls ≠ "java/lang/invoke/MethodHandle" ∧ y_T_isTaken.cls ≠ "java/lang/invoke/VarHandle" ∧ (parseMethodDescriptor y_T_isTaken.desc).map (fun d => d.parameters.length) = some 2 := by decide +kernel
theorem hd_T_isWithin : y_T_isWithin.cls ≠ "java/lang/invoke/MethodHandle" ∧ y_T_isWithin.cls ≠ "java/lang/invoke/VarHandle" ∧ (parseMethodDescriptor y_T_isWithin.desc).map (fun d => d.parameters.length) = some 3 := by decide +kernel
theorem hd_T_left : y_T_left.cls ≠ "java/lang/invoke/MethodHandle" ∧ y_T_left.cls ≠ "java/lang/invoke/VarHandle" ∧ (parseMethodDescriptor y_T_left.desc).map (fun d => d.parameters.length) = some 1 := by decide +kernel
theorem hd_T_limitOf : y_T_limitOf.cls ≠ "java/lang/invoke/MethodHandle" ∧ y_T_limitOf.cls ≠ "java/lang/invoke/VarHandle" ∧ (parseMethodDescriptor y_T_limitOf.desc).map (fun d => d.parameters.length) = some 1 := by decide +kernel
theorem hd_T_load : y_T_load.cls ≠ "java/lang/invoke/MethodHandle" ∧ y_T_load.cls ≠ "java/lang/invoke/VarHandle" ∧ (parseMethodDescriptor y_T_load.desc).map (fun d => d.parameters.length) = some 1 := by decide +kernel
theorem hd_T_may : y_T_may.cls ≠ "java/lang/invoke/MethodHandle" ∧ y_T_may.cls ≠ "java/lang/invoke/VarHandle" ∧ (parseMethodDescriptor y_T_may.desc).map (fun d => d.parameters.length) = some 2 := by decide +kernel
theorem hd_T_move : y_T_move.cls ≠ "java/lang/invoke/MethodHandle" ∧ y_T_move.cls ≠ "java/lang/invoke/VarHandle" ∧ (parseMethodDescriptor y_T_move.desc).map (fun d => d.parameters.length) = some 2 := by decide +kernel
theorem hd_T_next : y_T_next.cls ≠ "java/lang/invoke/MethodHandle" ∧ y_T_next.cls ≠ "java/lang/invoke/VarHandle" ∧ (parseMethodDescriptor y_T_next.desc).map (fun d => d.parameters.length) = some 0 := by decide +kernel
theorem hd_T_place : y_T_place.cls ≠ "java/lang/invoke/MethodHandle" ∧ y_T_place.cls ≠ "java/lang/invoke/VarHandle" ∧ (parseMethodDescriptor y_T_place.desc).map (fun d => d.parameters.length) = some 1 := by decide +kernel
theorem hd_T_rankOf : y_T_rankOf.cls ≠ "java/lang/invoke/MethodHandle" ∧ y_T_rankOf.cls ≠ "java/lang/invoke/VarHandle" ∧ (parseMethodDescriptor y_T_rankOf.desc).map (fun d => d.parameters.length) = some 1 := by decide +kernel
theorem hd_T_robotFor : y_T_robotFor.cls ≠ "java/lang/invoke/MethodHandle" ∧ y_T_robotFor.cls ≠ "java/lang/invoke/VarHandle" ∧ (parseMethodDescriptor y_T_robotFor.desc).map (fun d => d.parameters.length) = some 2 := by decide +kernel
theorem hd_T_safe : y_T_safe.cls ≠ "java/lang/invoke/MethodHandle" ∧ y_T_safe.cls ≠ "java/lang/invoke/VarHandle" ∧ (parseMethodDescriptor y_T_safe.desc).map (fun d => d.parameters.length) = some 0 := by decide +kernel
theorem hd_T_situation : y_T_situation.cls ≠ "java/lang/invoke/MethodHandle" ∧ y_T_situation.cls ≠ "java/lang/invoke/VarHandle" ∧ (parseMethodDescriptor y_T_situation.desc).map (fun d => d.parameters.length) = some 0 := by decide +kernel
theorem hd_T_situationAfter : y_T_situationAfter.cls ≠ "java/lang/invoke/MethodHandle" ∧ y_T_situationAfter.cls ≠ "java/lang/invoke/VarHandle" ∧ (parseMethodDescriptor y_T_situationAfter.desc).map (fun d => d.parameters.length) = some 2 := by decide +kernel
theorem hd_T_stage : y_T_stage.cls ≠ "java/lang/invoke/MethodHandle" ∧ y_T_stage.cls ≠ "java/lang/invoke/VarHandle" ∧ (parseMethodDescriptor y_T_stage.desc).map (fun d => d.parameters.length) = some 1 := by decide +kernel
theorem hd_T_stay : y_T_stay.cls ≠ "java/lang/invoke/MethodHandle" ∧ y_T_stay.cls ≠ "java/lang/invoke/VarHandle" ∧ (parseMethodDescriptor y_T_stay.desc).map (fun d => d.parameters.length) = some 1 := by decide +kernel
theorem hd_T_tick : y_T_tick.cls ≠ "java/lang/invoke/MethodHandle" ∧ y_T_tick.cls ≠ "java/lang/invoke/VarHandle" ∧ (parseMethodDescriptor y_T_tick.desc).map (fun d => d.parameters.length) = some 1 := by decide +kernel
theorem hd_T_visit : y_T_visit.cls ≠ "java/lang/invoke/MethodHandle" ∧ y_T_visit.cls ≠ "java/lang/invoke/VarHandle" ∧ (parseMethodDescriptor y_T_visit.desc).map (fun d => d.parameters.length) = some 4 := by decide +kernel
theorem hd_T_visited : y_T_visited.cls ≠ "java/lang/invoke/MethodHandle" ∧ y_T_visited.cls ≠ "java/lang/invoke/VarHandle" ∧ (parseMethodDescriptor y_T_visited.desc).map (fun d => d.parameters.length) = some 2 := by decide +kernel
theorem hd_T_waferOf : y_T_waferOf.cls ≠ "java/lang/invoke/MethodHandle" ∧ y_T_waferOf.cls ≠ "java/lang/invoke/VarHandle" ∧ (parseMethodDescriptor y_T_waferOf.desc).map (fun d => d.parameters.length) = some 1 := by decide +kernel
theorem hd_T_when : y_T_when.cls ≠ "java/lang/invoke/MethodHandle" ∧ y_T_when.cls ≠ "java/lang/invoke/VarHandle" ∧ (parseMethodDescriptor y_T_when.desc).map (fun d => d.parameters.length) = some 3 := by decide +kernel
theorem hd_E_init : y_E_init.cls ≠ "java/lang/invoke/MethodHandle" ∧ y_E_init.cls ≠ "java/lang/invoke/VarHandle" ∧ (parseMethodDescriptor y_E_init.desc).map (fun d => d.parameters.length) = some 0 := by decide +kernel
theorem hd_E_forget : y_E_forget.cls ≠ "java/lang/invoke/MethodHandle" ∧ y_E_forget.cls ≠ "java/lang/invoke/VarHandle" ∧ (parseMethodDescriptor y_E_forget.desc).map (fun d => d.parameters.length) = some 0 := by decide +kernel
theorem hd_E_search : y_E_search.cls ≠ "java/lang/invoke/MethodHandle" ∧ y_E_search.cls ≠ "java/lang/invoke/VarHandle" ∧ (parseMethodDescriptor y_E_search.desc).map (fun d => d.parameters.length) = some 3 := by decide +kernel
theorem hd_E_searchMoves : y_E_searchMoves.cls ≠ "java/lang/invoke/MethodHandle" ∧ y_E_searchMoves.cls ≠ "java/lang/invoke/VarHandle" ∧ (parseMethodDescriptor y_E_searchMoves.desc).map (fun d => d.parameters.length) = some 3 := by decide +kernel
theorem hd_B_init : y_B_init.cls ≠ "java/lang/invoke/MethodHandle" ∧ y_B_init.cls ≠ "java/lang/invoke/VarHandle" ∧ (parseMethodDescriptor y_B_init.desc).map (fun d => d.parameters.length) = some 0 := by decide +kernel
theorem hd_U_init : y_U_init.cls ≠ "java/lang/invoke/MethodHandle" ∧ y_U_init.cls ≠ "java/lang/invoke/VarHandle" ∧ (parseMethodDescriptor y_U_init.desc).map (fun d => d.parameters.length) = some 0 := by decide +kernel
theorem hd_U_append : y_U_append.cls ≠ "java/lang/invoke/MethodHandle" ∧ y_U_append.cls ≠ "java/lang/invoke/VarHandle" ∧ (parseMethodDescriptor y_U_append.desc).map (fun d => d.parameters.length) = some 3 := by decide +kernel
theorem hd_U_has : y_U_has.cls ≠ "java/lang/invoke/MethodHandle" ∧ y_U_has.cls ≠ "java/lang/invoke/VarHandle" ∧ (parseMethodDescriptor y_U_has.desc).map (fun d => d.parameters.length) = some 1 := by decide +kernel
theorem hd_U_limitAt : y_U_limitAt.cls ≠ "java/lang/invoke/MethodHandle" ∧ y_U_limitAt.cls ≠ "java/lang/invoke/VarHandle" ∧ (parseMethodDescriptor y_U_limitAt.desc).map (fun d => d.parameters.length) = some 1 := by decide +kernel
theorem hd_U_maskAt : y_U_maskAt.cls ≠ "java/lang/invoke/MethodHandle" ∧ y_U_maskAt.cls ≠ "java/lang/invoke/VarHandle" ∧ (parseMethodDescriptor y_U_maskAt.desc).map (fun d => d.parameters.length) = some 1 := by decide +kernel
theorem hd_U_timeAt : y_U_timeAt.cls ≠ "java/lang/invoke/MethodHandle" ∧ y_U_timeAt.cls ≠ "java/lang/invoke/VarHandle" ∧ (parseMethodDescriptor y_U_timeAt.desc).map (fun d => d.parameters.length) = some 1 := by decide +kernel
theorem hd_S_after : y_S_after.cls ≠ "java/lang/invoke/MethodHandle" ∧ y_S_after.cls ≠ "java/lang/invoke/VarHandle" ∧ (parseMethodDescriptor y_S_after.desc).map (fun d => d.parameters.length) = some 5 := by decide +kernel
theorem hd_S_isFree : y_S_isFree.cls ≠ "java/lang/invoke/MethodHandle" ∧ y_S_isFree.cls ≠ "java/lang/invoke/VarHandle" ∧ (parseMethodDescriptor y_S_isFree.desc).map (fun d => d.parameters.length) = some 3 := by decide +kernel
theorem hd_S_markAt : y_S_markAt.cls ≠ "java/lang/invoke/MethodHandle" ∧ y_S_markAt.cls ≠ "java/lang/invoke/VarHandle" ∧ (parseMethodDescriptor y_S_markAt.desc).map (fun d => d.parameters.length) = some 2 := by decide +kernel
theorem hd_S_routeIn : y_S_routeIn.cls ≠ "java/lang/invoke/MethodHandle" ∧ y_S_routeIn.cls ≠ "java/lang/invoke/VarHandle" ∧ (parseMethodDescriptor y_S_routeIn.desc).map (fun d => d.parameters.length) = some 1 := by decide +kernel
theorem hd_S_stageIn : y_S_stageIn.cls ≠ "java/lang/invoke/MethodHandle" ∧ y_S_stageIn.cls ≠ "java/lang/invoke/VarHandle" ∧ (parseMethodDescriptor y_S_stageIn.desc).map (fun d => d.parameters.length) = some 1 := by decide +kernel
theorem hd_S_with : y_S_with.cls ≠ "java/lang/invoke/MethodHandle" ∧ y_S_with.cls ≠ "java/lang/invoke/VarHandle" ∧ (parseMethodDescriptor y_S_with.desc).map (fun d => d.parameters.length) = some 4 := by decide +kernel
theorem hd_W_init : y_W_init.cls ≠ "java/lang/invoke/MethodHandle" ∧ y_W_init.cls ≠ "java/lang/invoke/VarHandle" ∧ (parseMethodDescriptor y_W_init.desc).map (fun d => d.parameters.length) = some 2 := by decide +kernel
theorem hd_W_arrive : y_W_arrive.cls ≠ "java/lang/invoke/MethodHandle" ∧ y_W_arrive.cls ≠ "java/lang/invoke/VarHandle" ∧ (parseMethodDescriptor y_W_arrive.desc).map (fun d => d.parameters.length) = some 1 := by decide +kernel
theorem hd_W_begin : y_W_begin.cls ≠ "java/lang/invoke/MethodHandle" ∧ y_W_begin.cls ≠ "java/lang/invoke/VarHandle" ∧ (parseMethodDescriptor y_W_begin.desc).map (fun d => d.parameters.length) = some 2 := by decide +kernel
theorem hd_W_hasBegun : y_W_hasBegun.cls ≠ "java/lang/invoke/MethodHandle" ∧ y_W_hasBegun.cls ≠ "java/lang/invoke/VarHandle" ∧ (parseMethodDescriptor y_W_hasBegun.desc).map (fun d => d.parameters.length) = some 1 := by decide +kernel
theorem hd_W_spend : y_W_spend.cls ≠ "java/lang/invoke/MethodHandle" ∧ y_W_spend.cls ≠ "java/lang/invoke/VarHandle" ∧ (parseMethodDescriptor y_W_spend.desc).map (fun d => d.parameters.length) = some 2 := by decide +kernel
theorem hd_W_turnsLate : y_W_turnsLate.cls ≠ "java/lang/invoke/MethodHandle" ∧ y_W_turnsLate.cls ≠ "java/lang/invoke/VarHandle" ∧ (parseMethodDescriptor y_W_turnsLate.desc).map (fun d => d.parameters.length) = some 1 := by decide +kernel
theorem hd_Y_init : y_Y_init.cls ≠ "java/lang/invoke/MethodHandle" ∧ y_Y_init.cls ≠ "java/lang/invoke/VarHandle" ∧ (parseMethodDescriptor y_Y_init.desc).map (fun d => d.parameters.length) = some 0 := by decide +kernel
theorem hd_Y_beyond : y_Y_beyond.cls ≠ "java/lang/invoke/MethodHandle" ∧ y_Y_beyond.cls ≠ "java/lang/invoke/VarHandle" ∧ (parseMethodDescriptor y_Y_beyond.desc).map (fun d => d.parameters.length) = some 1 := by decide +kernel
theorem hd_Y_isBack : y_Y_isBack.cls ≠ "java/lang/invoke/MethodHandle" ∧ y_Y_isBack.cls ≠ "java/lang/invoke/VarHandle" ∧ (parseMethodDescriptor y_Y_isBack.desc).map (fun d => d.parameters.length) = some 1 := by decide +kernel
theorem hd_Y_isDown : y_Y_isDown.cls ≠ "java/lang/invoke/MethodHandle" ∧ y_Y_isDown.cls ≠ "java/lang/invoke/VarHandle" ∧ (parseMethodDescriptor y_Y_isDown.desc).map (fun d => d.parameters.length) = some 1 := by decide +kernel
theorem hd_Y_isHomeward : y_Y_isHomeward.cls ≠ "java/lang/invoke/MethodHandle" ∧ y_Y_isHomeward.cls ≠ "java/lang/invoke/VarHandle" ∧ (parseMethodDescriptor y_Y_isHomeward.desc).map (fun d => d.parameters.length) = some 2 := by decide +kernel
theorem hd_Y_isReach : y_Y_isReach.cls ≠ "java/lang/invoke/MethodHandle" ∧ y_Y_isReach.cls ≠ "java/lang/invoke/VarHandle" ∧ (parseMethodDescriptor y_Y_isReach.desc).map (fun d => d.parameters.length) = some 2 := by decide +kernel
theorem hd_Y_leads : y_Y_leads.cls ≠ "java/lang/invoke/MethodHandle" ∧ y_Y_leads.cls ≠ "java/lang/invoke/VarHandle" ∧ (parseMethodDescriptor y_Y_leads.desc).map (fun d => d.parameters.length) = some 4 := by decide +kernel
theorem hd_Y_routeOf : y_Y_routeOf.cls ≠ "java/lang/invoke/MethodHandle" ∧ y_Y_routeOf.cls ≠ "java/lang/invoke/VarHandle" ∧ (parseMethodDescriptor y_Y_routeOf.desc).map (fun d => d.parameters.length) = some 1 := by decide +kernel
theorem hd_Y_turn : y_Y_turn.cls ≠ "java/lang/invoke/MethodHandle" ∧ y_Y_turn.cls ≠ "java/lang/invoke/VarHandle" ∧ (parseMethodDescriptor y_Y_turn.desc).map (fun d => d.parameters.length) = some 1 := by decide +kernel
theorem hd_M_init : y_M_init.cls ≠ "java/lang/invoke/MethodHandle" ∧ y_M_init.cls ≠ "java/lang/invoke/VarHandle" ∧ (parseMethodDescriptor y_M_init.desc).map (fun d => d.parameters.length) = some 0 := by decide +kernel
theorem hd_M_after : y_M_after.cls ≠ "java/lang/invoke/MethodHandle" ∧ y_M_after.cls ≠ "java/lang/invoke/VarHandle" ∧ (parseMethodDescriptor y_M_after.desc).map (fun d => d.parameters.length) = some 3 := by decide +kernel
theorem hd_M_ages : y_M_ages.cls ≠ "java/lang/invoke/MethodHandle" ∧ y_M_ages.cls ≠ "java/lang/invoke/VarHandle" ∧ (parseMethodDescriptor y_M_ages.desc).map (fun d => d.parameters.length) = some 1 := by decide +kernel
theorem hd_M_areNear : y_M_areNear.cls ≠ "java/lang/invoke/MethodHandle" ∧ y_M_areNear.cls ≠ "java/lang/invoke/VarHandle" ∧ (parseMethodDescriptor y_M_areNear.desc).map (fun d => d.parameters.length) = some 2 := by decide +kernel
theorem hd_M_byFront : y_M_byFront.cls ≠ "java/lang/invoke/MethodHandle" ∧ y_M_byFront.cls ≠ "java/lang/invoke/VarHandle" ∧ (parseMethodDescriptor y_M_byFront.desc).map (fun d => d.parameters.length) = some 2 := by decide +kernel
theorem hd_M_canBeEmptied : y_M_canBeEmptied.cls ≠ "java/lang/invoke/MethodHandle" ∧ y_M_canBeEmptied.cls ≠ "java/lang/invoke/VarHandle" ∧ (parseMethodDescriptor y_M_canBeEmptied.desc).map (fun d => d.parameters.length) = some 1 := by decide +kernel
theorem hd_M_count : y_M_count.cls ≠ "java/lang/invoke/MethodHandle" ∧ y_M_count.cls ≠ "java/lang/invoke/VarHandle" ∧ (parseMethodDescriptor y_M_count.desc).map (fun d => d.parameters.length) = some 1 := by decide +kernel
theorem hd_M_digit : y_M_digit.cls ≠ "java/lang/invoke/MethodHandle" ∧ y_M_digit.cls ≠ "java/lang/invoke/VarHandle" ∧ (parseMethodDescriptor y_M_digit.desc).map (fun d => d.parameters.length) = some 2 := by decide +kernel
theorem hd_M_digitOf : y_M_digitOf.cls ≠ "java/lang/invoke/MethodHandle" ∧ y_M_digitOf.cls ≠ "java/lang/invoke/VarHandle" ∧ (parseMethodDescriptor y_M_digitOf.desc).map (fun d => d.parameters.length) = some 1 := by decide +kernel
theorem hd_M_down : y_M_down.cls ≠ "java/lang/invoke/MethodHandle" ∧ y_M_down.cls ≠ "java/lang/invoke/VarHandle" ∧ (parseMethodDescriptor y_M_down.desc).map (fun d => d.parameters.length) = some 2 := by decide +kernel
theorem hd_M_go : y_M_go.cls ≠ "java/lang/invoke/MethodHandle" ∧ y_M_go.cls ≠ "java/lang/invoke/VarHandle" ∧ (parseMethodDescriptor y_M_go.desc).map (fun d => d.parameters.length) = some 0 := by decide +kernel
theorem hd_M_in : y_M_in.cls ≠ "java/lang/invoke/MethodHandle" ∧ y_M_in.cls ≠ "java/lang/invoke/VarHandle" ∧ (parseMethodDescriptor y_M_in.desc).map (fun d => d.parameters.length) = some 1 := by decide +kernel
theorem hd_M_inPlace : y_M_inPlace.cls ≠ "java/lang/invoke/MethodHandle" ∧ y_M_inPlace.cls ≠ "java/lang/invoke/VarHandle" ∧ (parseMethodDescriptor y_M_inPlace.desc).map (fun d => d.parameters.length) = some 1 := by decide +kernel
theorem hd_M_isBack : y_M_isBack.cls ≠ "java/lang/invoke/MethodHandle" ∧ y_M_isBack.cls ≠ "java/lang/invoke/VarHandle" ∧ (parseMethodDescriptor y_M_isBack.desc).map (fun d => d.parameters.length) = some 1 := by decide +kernel
theorem hd_M_isEmpty : y_M_isEmpty.cls ≠ "java/lang/invoke/MethodHandle" ∧ y_M_isEmpty.cls ≠ "java/lang/invoke/VarHandle" ∧ (parseMethodDescriptor y_M_isEmpty.desc).map (fun d => d.parameters.length) = some 1 := by decide +kernel
theorem hd_M_isFinished : y_M_isFinished.cls ≠ "java/lang/invoke/MethodHandle" ∧ y_M_isFinished.cls ≠ "java/lang/invoke/VarHandle" ∧ (parseMethodDescriptor y_M_isFinished.desc).map (fun d => d.parameters.length) = some 1 := by decide +kernel
theorem hd_M_isFront : y_M_isFront.cls ≠ "java/lang/invoke/MethodHandle" ∧ y_M_isFront.cls ≠ "java/lang/invoke/VarHandle" ∧ (parseMethodDescriptor y_M_isFront.desc).map (fun d => d.parameters.length) = some 1 := by decide +kernel
theorem hd_M_isRoute : y_M_isRoute.cls ≠ "java/lang/invoke/MethodHandle" ∧ y_M_isRoute.cls ≠ "java/lang/invoke/VarHandle" ∧ (parseMethodDescriptor y_M_isRoute.desc).map (fun d => d.parameters.length) = some 1 := by decide +kernel
theorem hd_M_isVisit : y_M_isVisit.cls ≠ "java/lang/invoke/MethodHandle" ∧ y_M_isVisit.cls ≠ "java/lang/invoke/VarHandle" ∧ (parseMethodDescriptor y_M_isVisit.desc).map (fun d => d.parameters.length) = some 2 := by decide +kernel
theorem hd_M_isWafer : y_M_isWafer.cls ≠ "java/lang/invoke/MethodHandle" ∧ y_M_isWafer.cls ≠ "java/lang/invoke/VarHandle" ∧ (parseMethodDescriptor y_M_isWafer.desc).map (fun d => d.parameters.length) = some 1 := by decide +kernel
theorem hd_M_isWay : y_M_isWay.cls ≠ "java/lang/invoke/MethodHandle" ∧ y_M_isWay.cls ≠ "java/lang/invoke/VarHandle" ∧ (parseMethodDescriptor y_M_isWay.desc).map (fun d => d.parameters.length) = some 4 := by decide +kernel
theorem hd_M_know : y_M_know.cls ≠ "java/lang/invoke/MethodHandle" ∧ y_M_know.cls ≠ "java/lang/invoke/VarHandle" ∧ (parseMethodDescriptor y_M_know.desc).map (fun d => d.parameters.length) = some 2 := by decide +kernel
theorem hd_M_knownOf : y_M_knownOf.cls ≠ "java/lang/invoke/MethodHandle" ∧ y_M_knownOf.cls ≠ "java/lang/invoke/VarHandle" ∧ (parseMethodDescriptor y_M_knownOf.desc).map (fun d => d.parameters.length) = some 1 := by decide +kernel
theorem hd_M_left : y_M_left.cls ≠ "java/lang/invoke/MethodHandle" ∧ y_M_left.cls ≠ "java/lang/invoke/VarHandle" ∧ (parseMethodDescriptor y_M_left.desc).map (fun d => d.parameters.length) = some 1 := by decide +kernel
theorem hd_M_load : y_M_load.cls ≠ "java/lang/invoke/MethodHandle" ∧ y_M_load.cls ≠ "java/lang/invoke/VarHandle" ∧ (parseMethodDescriptor y_M_load.desc).map (fun d => d.parameters.length) = some 1 := by decide +kernel
theorem hd_M_may : y_M_may.cls ≠ "java/lang/invoke/MethodHandle" ∧ y_M_may.cls ≠ "java/lang/invoke/VarHandle" ∧ (parseMethodDescriptor y_M_may.desc).map (fun d => d.parameters.length) = some 2 := by decide +kernel
theorem hd_M_move : y_M_move.cls ≠ "java/lang/invoke/MethodHandle" ∧ y_M_move.cls ≠ "java/lang/invoke/VarHandle" ∧ (parseMethodDescriptor y_M_move.desc).map (fun d => d.parameters.length) = some 2 := by decide +kernel
theorem hd_M_next : y_M_next.cls ≠ "java/lang/invoke/MethodHandle" ∧ y_M_next.cls ≠ "java/lang/invoke/VarHandle" ∧ (parseMethodDescriptor y_M_next.desc).map (fun d => d.parameters.length) = some 0 := by decide +kernel
theorem hd_M_place : y_M_place.cls ≠ "java/lang/invoke/MethodHandle" ∧ y_M_place.cls ≠ "java/lang/invoke/VarHandle" ∧ (parseMethodDescriptor y_M_place.desc).map (fun d => d.parameters.length) = some 1 := by decide +kernel
theorem hd_M_power : y_M_power.cls ≠ "java/lang/invoke/MethodHandle" ∧ y_M_power.cls ≠ "java/lang/invoke/VarHandle" ∧ (parseMethodDescriptor y_M_power.desc).map (fun d => d.parameters.length) = some 1 := by decide +kernel
theorem hd_M_rank : y_M_rank.cls ≠ "java/lang/invoke/MethodHandle" ∧ y_M_rank.cls ≠ "java/lang/invoke/VarHandle" ∧ (parseMethodDescriptor y_M_rank.desc).map (fun d => d.parameters.length) = some 1 := by decide +kernel
theorem hd_M_safe : y_M_safe.cls ≠ "java/lang/invoke/MethodHandle" ∧ y_M_safe.cls ≠ "java/lang/invoke/VarHandle" ∧ (parseMethodDescriptor y_M_safe.desc).map (fun d => d.parameters.length) = some 0 := by decide +kernel
theorem hd_M_situation : y_M_situation.cls ≠ "java/lang/invoke/MethodHandle" ∧ y_M_situation.cls ≠ "java/lang/invoke/VarHandle" ∧ (parseMethodDescriptor y_M_situation.desc).map (fun d => d.parameters.length) = some 0 := by decide +kernel
theorem hd_M_stage : y_M_stage.cls ≠ "java/lang/invoke/MethodHandle" ∧ y_M_stage.cls ≠ "java/lang/invoke/VarHandle" ∧ (parseMethodDescriptor y_M_stage.desc).map (fun d => d.parameters.length) = some 1 := by decide +kernel
theorem hd_M_stay : y_M_stay.cls ≠ "java/lang/invoke/MethodHandle" ∧ y_M_stay.cls ≠ "java/lang/invoke/VarHandle" ∧ (parseMethodDescriptor y_M_stay.desc).map (fun d => d.parameters.length) = some 1 := by decide +kernel
theorem hd_M_tick : y_M_tick.cls ≠ "java/lang/invoke/MethodHandle" ∧ y_M_tick.cls ≠ "java/lang/invoke/VarHandle" ∧ (parseMethodDescriptor y_M_tick.desc).map (fun d => d.parameters.length) = some 1 := by decide +kernel
theorem hd_M_visit : y_M_visit.cls ≠ "java/lang/invoke/MethodHandle" ∧ y_M_visit.cls ≠ "java/lang/invoke/VarHandle" ∧ (parseMethodDescriptor y_M_visit.desc).map (fun d => d.parameters.length) = some 4 := by decide +kernel
theorem hd_M_visited : y_M_visited.cls ≠ "java/lang/invoke/MethodHandle" ∧ y_M_visited.cls ≠ "java/lang/invoke/VarHandle" ∧ (parseMethodDescriptor y_M_visited.desc).map (fun d => d.parameters.length) = some 2 := by decide +kernel
theorem hd_M_when : y_M_when.cls ≠ "java/lang/invoke/MethodHandle" ∧ y_M_when.cls ≠ "java/lang/invoke/VarHandle" ∧ (parseMethodDescriptor y_M_when.desc).map (fun d => d.parameters.length) = some 3 := by decide +kernel
theorem hd_J_fill : y_J_fill.cls ≠ "java/lang/invoke/MethodHandle" ∧ y_J_fill.cls ≠ "java/lang/invoke/VarHandle" ∧ (parseMethodDescriptor y_J_fill.desc).map (fun d => d.parameters.length) = some 2 := by decide +kernel
end
section
/-! Openings of contracts and starts of calls. Own work. -/
theorem vx_met {l : Launch} {y : MethodName} {ws ws' : List Cond} {rm : Room} {av : List Value} {B : State → Prop} {Qc : Array Value → State → Outcome → State → Prop} {mc ms : Nat} {free : Addr → Prop} {cc : ByteArray} {maxL : Nat} {ret : Option FieldType}
    (hy : plainName y.cls = true) (hw : ws = Cond.code y cc maxL ret :: ws') (hn : (lg_sl av).length ≤ maxL)
    (body : ∀ (p : Program) (e : Env) (s : State) (m : MethodId) (below : List Frame) (meth : Method) (c : Code) (ls : Array Slot), p.tables.exec = Jvm.exec → c.code = cc → meth.sig.returnType = ret → (∀ w ∈ ws, w.before av.toArray s = true) → s.vm.findClass y.cls = some m.cls → meth.locks = false → meth.name = y.name → c.maxLocals = maxL → B s → lv_has ls maxL (lv_args 0 av) →
      W p l e rm s m av.toArray below meth c s.heap [] 0 0 (MQ below Qc av.toArray s mc ms free) (F0 m 0 ls [])) : Met l y ws rm (va_Pc av B) Qc mc ms free := by
  refine Met.ofW (cc := cc) (maxL := maxL) (ret := ret) hy hw ?_
  intro p e s m args below meth c s₁ Bd hml hv
  obtain ⟨rfl, hB⟩ := hv
  have hl := lv_entry av (n := maxL) hn
  rw [lg_entry_eq]
  exact body p e s m below meth c _ Bd.exec Bd.bytes Bd.returns (atoms_spec (ws := ws) Bd.pre) (findClass_of_methodNamed Bd.named) Bd.notSynchronized (name_of_methodNamed Bd.named Bd.method).1 hml hB hl
/-- nest mates' words -/
def isNw : Cond → Bool
  | .fieldLinkNest .. => true
  | .methodLinkNest .. => true
  | _ => false
theorem isNw_warm {w : Cond} {s U : State} (h : isNw w = true) (hW : s.WarmedH U.vm) (hZ : va_Nw w s) : va_Nw w U := by
  cases w <;> first | exact va_Nw.warmF hW hZ | exact va_Nw.warmM hW hZ | exact (Bool.false_ne_true h).elim
theorem isNw_tab {w : Cond} (h : isNw w = true) : w.onTables = true := by
  cases w <;> first | exact (Bool.false_ne_true h).elim | rfl
theorem va_Run.call {p : Program} {l : Launch} {e : Env} {R : Room} {s : State} {m : MethodId} {args : Array Value} {below : List Frame} {meth : Method} {c : Code} {H : Heap} {locs : List Loc} {cells slots mc ms : Nat} {g : JFrame} {rest : List Value} {Qa : State → Outcome → State → Prop} {free : Addr → Prop}
    (h : va_Run p l e R s m args below meth c H locs cells slots mc ms g rest Qa free) : CallRun p l e R s m args below meth c H locs cells slots mc ms g rest Qa free := by
  intro T hT X
  obtain ⟨v, st₀, t, T', L, h0, X', hL, e1, -, hq, st⟩ := h T hT X
  exact ⟨v, st₀, t, T', L, h0, X', hL, e1, hq, st⟩
end
section
/-! The state that class and reference share, and their own hidden parts. Own work, printed by state.py. -/
abbrev St : Type := (Nat → Nat) × (Nat → Nat → Nat) × (Nat → Nat → Nat) × (Nat → Nat → Nat) × Nat × (Nat → Nat) × (Nat → Nat) × (Nat → Nat) × (Nat → Nat) × (Nat → Nat) × (Nat → Bool) × (Nat → Nat → Int32) × (Nat → Nat → Int32) × (Nat → Nat → Int32) × Nat × Int32 × Bool × Bool × Int32 × Int32
abbrev sA_len (A : St) : Nat → Nat := A.1
abbrev sA_mk (A : St) : Nat → Nat → Nat := A.2.1
abbrev sA_tm (A : St) : Nat → Nat → Nat := A.2.2.1
abbrev sA_lm (A : St) : Nat → Nat → Nat := A.2.2.2.1
abbrev sA_n (A : St) : Nat := A.2.2.2.2.1
abbrev sA_rt (A : St) : Nat → Nat := A.2.2.2.2.2.1
abbrev sA_pl (A : St) : Nat → Nat := A.2.2.2.2.2.2.1
abbrev sA_sg (A : St) : Nat → Nat := A.2.2.2.2.2.2.2.1
abbrev sA_lf (A : St) : Nat → Nat := A.2.2.2.2.2.2.2.2.1
abbrev sA_sn (A : St) : Nat → Nat := A.2.2.2.2.2.2.2.2.2.1
abbrev sA_la (A : St) : Nat → Bool := A.2.2.2.2.2.2.2.2.2.2.1
abbrev sA_ch (A : St) : Nat → Nat → Int32 := A.2.2.2.2.2.2.2.2.2.2.2.1
abbrev sA_be (A : St) : Nat → Nat → Int32 := A.2.2.2.2.2.2.2.2.2.2.2.2.1
abbrev sA_en (A : St) : Nat → Nat → Int32 := A.2.2.2.2.2.2.2.2.2.2.2.2.2.1
abbrev sA_dn (A : St) : Nat := A.2.2.2.2.2.2.2.2.2.2.2.2.2.2.1
abbrev sA_ck (A : St) : Int32 := A.2.2.2.2.2.2.2.2.2.2.2.2.2.2.2.1
abbrev sA_fb (A : St) : Bool := A.2.2.2.2.2.2.2.2.2.2.2.2.2.2.2.2.1
abbrev sA_bb (A : St) : Bool := A.2.2.2.2.2.2.2.2.2.2.2.2.2.2.2.2.2.1
abbrev sA_fm (A : St) : Int32 := A.2.2.2.2.2.2.2.2.2.2.2.2.2.2.2.2.2.2.1
abbrev sA_bm (A : St) : Int32 := A.2.2.2.2.2.2.2.2.2.2.2.2.2.2.2.2.2.2.2
abbrev sU_len (A : St) (z : Nat → Nat) : St := (z, A.2.1, A.2.2.1, A.2.2.2.1, A.2.2.2.2.1, A.2.2.2.2.2.1, A.2.2.2.2.2.2.1, A.2.2.2.2.2.2.2.1, A.2.2.2.2.2.2.2.2.1, A.2.2.2.2.2.2.2.2.2.1, A.2.2.2.2.2.2.2.2.2.2.1, A.2.2.2.2.2.2.2.2.2.2.2.1, A.2.2.2.2.2.2.2.2.2.2.2.2.1, A.2.2.2.2.2.2.2.2.2.2.2.2.2.1, A.2.2.2.2.2.2.2.2.2.2.2.2.2.2.1, A.2.2.2.2.2.2.2.2.2.2.2.2.2.2.2.1, A.2.2.2.2.2.2.2.2.2.2.2.2.2.2.2.2.1, A.2.2.2.2.2.2.2.2.2.2.2.2.2.2.2.2.2.1, A.2.2.2.2.2.2.2.2.2.2.2.2.2.2.2.2.2.2.1, A.2.2.2.2.2.2.2.2.2.2.2.2.2.2.2.2.2.2.2)
abbrev sU_mk (A : St) (z : Nat → Nat → Nat) : St := (A.1, z, A.2.2.1, A.2.2.2.1, A.2.2.2.2.1, A.2.2.2.2.2.1, A.2.2.2.2.2.2.1, A.2.2.2.2.2.2.2.1, A.2.2.2.2.2.2.2.2.1, A.2.2.2.2.2.2.2.2.2.1, A.2.2.2.2.2.2.2.2.2.2.1, A.2.2.2.2.2.2.2.2.2.2.2.1, A.2.2.2.2.2.2.2.2.2.2.2.2.1, A.2.2.2.2.2.2.2.2.2.2.2.2.2.1, A.2.2.2.2.2.2.2.2.2.2.2.2.2.2.1, A.2.2.2.2.2.2.2.2.2.2.2.2.2.2.2.1, A.2.2.2.2.2.2.2.2.2.2.2.2.2.2.2.2.1, A.2.2.2.2.2.2.2.2.2.2.2.2.2.2.2.2.2.1, A.2.2.2.2.2.2.2.2.2.2.2.2.2.2.2.2.2.2.1, A.2.2.2.2.2.2.2.2.2.2.2.2.2.2.2.2.2.2.2)
abbrev sU_tm (A : St) (z : Nat → Nat → Nat) : St := (A.1, A.2.1, z, A.2.2.2.1, A.2.2.2.2.1, A.2.2.2.2.2.1, A.2.2.2.2.2.2.1, A.2.2.2.2.2.2.2.1, A.2.2.2.2.2.2.2.2.1, A.2.2.2.2.2.2.2.2.2.1, A.2.2.2.2.2.2.2.2.2.2.1, A.2.2.2.2.2.2.2.2.2.2.2.1, A.2.2.2.2.2.2.2.2.2.2.2.2.1, A.2.2.2.2.2.2.2.2.2.2.2.2.2.1, A.2.2.2.2.2.2.2.2.2.2.2.2.2.2.1, A.2.2.2.2.2.2.2.2.2.2.2.2.2.2.2.1, A.2.2.2.2.2.2.2.2.2.2.2.2.2.2.2.2.1, A.2.2.2.2.2.2.2.2.2.2.2.2.2.2.2.2.2.1, A.2.2.2.2.2.2.2.2.2.2.2.2.2.2.2.2.2.2.1, A.2.2.2.2.2.2.2.2.2.2.2.2.2.2.2.2.2.2.2)
abbrev sU_lm (A : St) (z : Nat → Nat → Nat) : St := (A.1, A.2.1, A.2.2.1, z, A.2.2.2.2.1, A.2.2.2.2.2.1, A.2.2.2.2.2.2.1, A.2.2.2.2.2.2.2.1, A.2.2.2.2.2.2.2.2.1, A.2.2.2.2.2.2.2.2.2.1, A.2.2.2.2.2.2.2.2.2.2.1, A.2.2.2.2.2.2.2.2.2.2.2.1, A.2.2.2.2.2.2.2.2.2.2.2.2.1, A.2.2.2.2.2.2.2.2.2.2.2.2.2.1, A.2.2.2.2.2.2.2.2.2.2.2.2.2.2.1, A.2.2.2.2.2.2.2.2.2.2.2.2.2.2.2.1, A.2.2.2.2.2.2.2.2.2.2.2.2.2.2.2.2.1, A.2.2.2.2.2.2.2.2.2.2.2.2.2.2.2.2.2.1, A.2.2.2.2.2.2.2.2.2.2.2.2.2.2.2.2.2.2.1, A.2.2.2.2.2.2.2.2.2.2.2.2.2.2.2.2.2.2.2)
abbrev sU_n (A : St) (z : Nat) : St := (A.1, A.2.1, A.2.2.1, A.2.2.2.1, z, A.2.2.2.2.2.1, A.2.2.2.2.2.2.1, A.2.2.2.2.2.2.2.1, A.2.2.2.2.2.2.2.2.1, A.2.2.2.2.2.2.2.2.2.1, A.2.2.2.2.2.2.2.2.2.2.1, A.2.2.2.2.2.2.2.2.2.2.2.1, A.2.2.2.2.2.2.2.2.2.2.2.2.1, A.2.2.2.2.2.2.2.2.2.2.2.2.2.1, A.2.2.2.2.2.2.2.2.2.2.2.2.2.2.1, A.2.2.2.2.2.2.2.2.2.2.2.2.2.2.2.1, A.2.2.2.2.2.2.2.2.2.2.2.2.2.2.2.2.1, A.2.2.2.2.2.2.2.2.2.2.2.2.2.2.2.2.2.1, A.2.2.2.2.2.2.2.2.2.2.2.2.2.2.2.2.2.2.1, A.2.2.2.2.2.2.2.2.2.2.2.2.2.2.2.2.2.2.2)
abbrev sU_rt (A : St) (z : Nat → Nat) : St := (A.1, A.2.1, A.2.2.1, A.2.2.2.1, A.2.2.2.2.1, z, A.2.2.2.2.2.2.1, A.2.2.2.2.2.2.2.1, A.2.2.2.2.2.2.2.2.1, A.2.2.2.2.2.2.2.2.2.1, A.2.2.2.2.2.2.2.2.2.2.1, A.2.2.2.2.2.2.2.2.2.2.2.1, A.2.2.2.2.2.2.2.2.2.2.2.2.1, A.2.2.2.2.2.2.2.2.2.2.2.2.2.1, A.2.2.2.2.2.2.2.2.2.2.2.2.2.2.1, A.2.2.2.2.2.2.2.2.2.2.2.2.2.2.2.1, A.2.2.2.2.2.2.2.2.2.2.2.2.2.2.2.2.1, A.2.2.2.2.2.2.2.2.2.2.2.2.2.2.2.2.2.1, A.2.2.2.2.2.2.2.2.2.2.2.2.2.2.2.2.2.2.1, A.2.2.2.2.2.2.2.2.2.2.2.2.2.2.2.2.2.2.2)
abbrev sU_pl (A : St) (z : Nat → Nat) : St := (A.1, A.2.1, A.2.2.1, A.2.2.2.1, A.2.2.2.2.1, A.2.2.2.2.2.1, z, A.2.2.2.2.2.2.2.1, A.2.2.2.2.2.2.2.2.1, A.2.2.2.2.2.2.2.2.2.1, A.2.2.2.2.2.2.2.2.2.2.1, A.2.2.2.2.2.2.2.2.2.2.2.1, A.2.2.2.2.2.2.2.2.2.2.2.2.1, A.2.2.2.2.2.2.2.2.2.2.2.2.2.1, A.2.2.2.2.2.2.2.2.2.2.2.2.2.2.1, A.2.2.2.2.2.2.2.2.2.2.2.2.2.2.2.1, A.2.2.2.2.2.2.2.2.2.2.2.2.2.2.2.2.1, A.2.2.2.2.2.2.2.2.2.2.2.2.2.2.2.2.2.1, A.2.2.2.2.2.2.2.2.2.2.2.2.2.2.2.2.2.2.1, A.2.2.2.2.2.2.2.2.2.2.2.2.2.2.2.2.2.2.2)
abbrev sU_sg (A : St) (z : Nat → Nat) : St := (A.1, A.2.1, A.2.2.1, A.2.2.2.1, A.2.2.2.2.1, A.2.2.2.2.2.1, A.2.2.2.2.2.2.1, z, A.2.2.2.2.2.2.2.2.1, A.2.2.2.2.2.2.2.2.2.1, A.2.2.2.2.2.2.2.2.2.2.1, A.2.2.2.2.2.2.2.2.2.2.2.1, A.2.2.2.2.2.2.2.2.2.2.2.2.1, A.2.2.2.2.2.2.2.2.2.2.2.2.2.1, A.2.2.2.2.2.2.2.2.2.2.2.2.2.2.1, A.2.2.2.2.2.2.2.2.2.2.2.2.2.2.2.1, A.2.2.2.2.2.2.2.2.2.2.2.2.2.2.2.2.1, A.2.2.2.2.2.2.2.2.2.2.2.2.2.2.2.2.2.1, A.2.2.2.2.2.2.2.2.2.2.2.2.2.2.2.2.2.2.1, A.2.2.2.2.2.2.2.2.2.2.2.2.2.2.2.2.2.2.2)
abbrev sU_lf (A : St) (z : Nat → Nat) : St := (A.1, A.2.1, A.2.2.1, A.2.2.2.1, A.2.2.2.2.1, A.2.2.2.2.2.1, A.2.2.2.2.2.2.1, A.2.2.2.2.2.2.2.1, z, A.2.2.2.2.2.2.2.2.2.1, A.2.2.2.2.2.2.2.2.2.2.1, A.2.2.2.2.2.2.2.2.2.2.2.1, A.2.2.2.2.2.2.2.2.2.2.2.2.1, A.2.2.2.2.2.2.2.2.2.2.2.2.2.1, A.2.2.2.2.2.2.2.2.2.2.2.2.2.2.1, A.2.2.2.2.2.2.2.2.2.2.2.2.2.2.2.1, A.2.2.2.2.2.2.2.2.2.2.2.2.2.2.2.2.1, A.2.2.2.2.2.2.2.2.2.2.2.2.2.2.2.2.2.1, A.2.2.2.2.2.2.2.2.2.2.2.2.2.2.2.2.2.2.1, A.2.2.2.2.2.2.2.2.2.2.2.2.2.2.2.2.2.2.2)
abbrev sU_sn (A : St) (z : Nat → Nat) : St := (A.1, A.2.1, A.2.2.1, A.2.2.2.1, A.2.2.2.2.1, A.2.2.2.2.2.1, A.2.2.2.2.2.2.1, A.2.2.2.2.2.2.2.1, A.2.2.2.2.2.2.2.2.1, z, A.2.2.2.2.2.2.2.2.2.2.1, A.2.2.2.2.2.2.2.2.2.2.2.1, A.2.2.2.2.2.2.2.2.2.2.2.2.1, A.2.2.2.2.2.2.2.2.2.2.2.2.2.1, A.2.2.2.2.2.2.2.2.2.2.2.2.2.2.1, A.2.2.2.2.2.2.2.2.2.2.2.2.2.2.2.1, A.2.2.2.2.2.2.2.2.2.2.2.2.2.2.2.2.1, A.2.2.2.2.2.2.2.2.2.2.2.2.2.2.2.2.2.1, A.2.2.2.2.2.2.2.2.2.2.2.2.2.2.2.2.2.2.1, A.2.2.2.2.2.2.2.2.2.2.2.2.2.2.2.2.2.2.2)
abbrev sU_la (A : St) (z : Nat → Bool) : St := (A.1, A.2.1, A.2.2.1, A.2.2.2.1, A.2.2.2.2.1, A.2.2.2.2.2.1, A.2.2.2.2.2.2.1, A.2.2.2.2.2.2.2.1, A.2.2.2.2.2.2.2.2.1, A.2.2.2.2.2.2.2.2.2.1, z, A.2.2.2.2.2.2.2.2.2.2.2.1, A.2.2.2.2.2.2.2.2.2.2.2.2.1, A.2.2.2.2.2.2.2.2.2.2.2.2.2.1, A.2.2.2.2.2.2.2.2.2.2.2.2.2.2.1, A.2.2.2.2.2.2.2.2.2.2.2.2.2.2.2.1, A.2.2.2.2.2.2.2.2.2.2.2.2.2.2.2.2.1, A.2.2.2.2.2.2.2.2.2.2.2.2.2.2.2.2.2.1, A.2.2.2.2.2.2.2.2.2.2.2.2.2.2.2.2.2.2.1, A.2.2.2.2.2.2.2.2.2.2.2.2.2.2.2.2.2.2.2)
abbrev sU_ch (A : St) (z : Nat → Nat → Int32) : St := (A.1, A.2.1, A.2.2.1, A.2.2.2.1, A.2.2.2.2.1, A.2.2.2.2.2.1, A.2.2.2.2.2.2.1, A.2.2.2.2.2.2.2.1, A.2.2.2.2.2.2.2.2.1, A.2.2.2.2.2.2.2.2.2.1, A.2.2.2.2.2.2.2.2.2.2.1, z, A.2.2.2.2.2.2.2.2.2.2.2.2.1, A.2.2.2.2.2.2.2.2.2.2.2.2.2.1, A.2.2.2.2.2.2.2.2.2.2.2.2.2.2.1, A.2.2.2.2.2.2.2.2.2.2.2.2.2.2.2.1, A.2.2.2.2.2.2.2.2.2.2.2.2.2.2.2.2.1, A.2.2.2.2.2.2.2.2.2.2.2.2.2.2.2.2.2.1, A.2.2.2.2.2.2.2.2.2.2.2.2.2.2.2.2.2.2.1, A.2.2.2.2.2.2.2.2.2.2.2.2.2.2.2.2.2.2.2)
abbrev sU_be (A : St) (z : Nat → Nat → Int32) : St := (A.1, A.2.1, A.2.2.1, A.2.2.2.1, A.2.2.2.2.1, A.2.2.2.2.2.1, A.2.2.2.2.2.2.1, A.2.2.2.2.2.2.2.1, A.2.2.2.2.2.2.2.2.1, A.2.2.2.2.2.2.2.2.2.1, A.2.2.2.2.2.2.2.2.2.2.1, A.2.2.2.2.2.2.2.2.2.2.2.1, z, A.2.2.2.2.2.2.2.2.2.2.2.2.2.1, A.2.2.2.2.2.2.2.2.2.2.2.2.2.2.1, A.2.2.2.2.2.2.2.2.2.2.2.2.2.2.2.1, A.2.2.2.2.2.2.2.2.2.2.2.2.2.2.2.2.1, A.2.2.2.2.2.2.2.2.2.2.2.2.2.2.2.2.2.1, A.2.2.2.2.2.2.2.2.2.2.2.2.2.2.2.2.2.2.1, A.2.2.2.2.2.2.2.2.2.2.2.2.2.2.2.2.2.2.2)
abbrev sU_en (A : St) (z : Nat → Nat → Int32) : St := (A.1, A.2.1, A.2.2.1, A.2.2.2.1, A.2.2.2.2.1, A.2.2.2.2.2.1, A.2.2.2.2.2.2.1, A.2.2.2.2.2.2.2.1, A.2.2.2.2.2.2.2.2.1, A.2.2.2.2.2.2.2.2.2.1, A.2.2.2.2.2.2.2.2.2.2.1, A.2.2.2.2.2.2.2.2.2.2.2.1, A.2.2.2.2.2.2.2.2.2.2.2.2.1, z, A.2.2.2.2.2.2.2.2.2.2.2.2.2.2.1, A.2.2.2.2.2.2.2.2.2.2.2.2.2.2.2.1, A.2.2.2.2.2.2.2.2.2.2.2.2.2.2.2.2.1, A.2.2.2.2.2.2.2.2.2.2.2.2.2.2.2.2.2.1, A.2.2.2.2.2.2.2.2.2.2.2.2.2.2.2.2.2.2.1, A.2.2.2.2.2.2.2.2.2.2.2.2.2.2.2.2.2.2.2)
abbrev sU_dn (A : St) (z : Nat) : St := (A.1, A.2.1, A.2.2.1, A.2.2.2.1, A.2.2.2.2.1, A.2.2.2.2.2.1, A.2.2.2.2.2.2.1, A.2.2.2.2.2.2.2.1, A.2.2.2.2.2.2.2.2.1, A.2.2.2.2.2.2.2.2.2.1, A.2.2.2.2.2.2.2.2.2.2.1, A.2.2.2.2.2.2.2.2.2.2.2.1, A.2.2.2.2.2.2.2.2.2.2.2.2.1, A.2.2.2.2.2.2.2.2.2.2.2.2.2.1, z, A.2.2.2.2.2.2.2.2.2.2.2.2.2.2.2.1, A.2.2.2.2.2.2.2.2.2.2.2.2.2.2.2.2.1, A.2.2.2.2.2.2.2.2.2.2.2.2.2.2.2.2.2.1, A.2.2.2.2.2.2.2.2.2.2.2.2.2.2.2.2.2.2.1, A.2.2.2.2.2.2.2.2.2.2.2.2.2.2.2.2.2.2.2)
abbrev sU_ck (A : St) (z : Int32) : St := (A.1, A.2.1, A.2.2.1, A.2.2.2.1, A.2.2.2.2.1, A.2.2.2.2.2.1, A.2.2.2.2.2.2.1, A.2.2.2.2.2.2.2.1, A.2.2.2.2.2.2.2.2.1, A.2.2.2.2.2.2.2.2.2.1, A.2.2.2.2.2.2.2.2.2.2.1, A.2.2.2.2.2.2.2.2.2.2.2.1, A.2.2.2.2.2.2.2.2.2.2.2.2.1, A.2.2.2.2.2.2.2.2.2.2.2.2.2.1, A.2.2.2.2.2.2.2.2.2.2.2.2.2.2.1, z, A.2.2.2.2.2.2.2.2.2.2.2.2.2.2.2.2.1, A.2.2.2.2.2.2.2.2.2.2.2.2.2.2.2.2.2.1, A.2.2.2.2.2.2.2.2.2.2.2.2.2.2.2.2.2.2.1, A.2.2.2.2.2.2.2.2.2.2.2.2.2.2.2.2.2.2.2)
abbrev sU_fb (A : St) (z : Bool) : St := (A.1, A.2.1, A.2.2.1, A.2.2.2.1, A.2.2.2.2.1, A.2.2.2.2.2.1, A.2.2.2.2.2.2.1, A.2.2.2.2.2.2.2.1, A.2.2.2.2.2.2.2.2.1, A.2.2.2.2.2.2.2.2.2.1, A.2.2.2.2.2.2.2.2.2.2.1, A.2.2.2.2.2.2.2.2.2.2.2.1, A.2.2.2.2.2.2.2.2.2.2.2.2.1, A.2.2.2.2.2.2.2.2.2.2.2.2.2.1, A.2.2.2.2.2.2.2.2.2.2.2.2.2.2.1, A.2.2.2.2.2.2.2.2.2.2.2.2.2.2.2.1, z, A.2.2.2.2.2.2.2.2.2.2.2.2.2.2.2.2.2.1, A.2.2.2.2.2.2.2.2.2.2.2.2.2.2.2.2.2.2.1, A.2.2.2.2.2.2.2.2.2.2.2.2.2.2.2.2.2.2.2)
abbrev sU_bb (A : St) (z : Bool) : St := (A.1, A.2.1, A.2.2.1, A.2.2.2.1, A.2.2.2.2.1, A.2.2.2.2.2.1, A.2.2.2.2.2.2.1, A.2.2.2.2.2.2.2.1, A.2.2.2.2.2.2.2.2.1, A.2.2.2.2.2.2.2.2.2.1, A.2.2.2.2.2.2.2.2.2.2.1, A.2.2.2.2.2.2.2.2.2.2.2.1, A.2.2.2.2.2.2.2.2.2.2.2.2.1, A.2.2.2.2.2.2.2.2.2.2.2.2.2.1, A.2.2.2.2.2.2.2.2.2.2.2.2.2.2.1, A.2.2.2.2.2.2.2.2.2.2.2.2.2.2.2.1, A.2.2.2.2.2.2.2.2.2.2.2.2.2.2.2.2.1, z, A.2.2.2.2.2.2.2.2.2.2.2.2.2.2.2.2.2.2.1, A.2.2.2.2.2.2.2.2.2.2.2.2.2.2.2.2.2.2.2)
abbrev sU_fm (A : St) (z : Int32) : St := (A.1, A.2.1, A.2.2.1, A.2.2.2.1, A.2.2.2.2.1, A.2.2.2.2.2.1, A.2.2.2.2.2.2.1, A.2.2.2.2.2.2.2.1, A.2.2.2.2.2.2.2.2.1, A.2.2.2.2.2.2.2.2.2.1, A.2.2.2.2.2.2.2.2.2.2.1, A.2.2.2.2.2.2.2.2.2.2.2.1, A.2.2.2.2.2.2.2.2.2.2.2.2.1, A.2.2.2.2.2.2.2.2.2.2.2.2.2.1, A.2.2.2.2.2.2.2.2.2.2.2.2.2.2.1, A.2.2.2.2.2.2.2.2.2.2.2.2.2.2.2.1, A.2.2.2.2.2.2.2.2.2.2.2.2.2.2.2.2.1, A.2.2.2.2.2.2.2.2.2.2.2.2.2.2.2.2.2.1, z, A.2.2.2.2.2.2.2.2.2.2.2.2.2.2.2.2.2.2.2)
abbrev sU_bm (A : St) (z : Int32) : St := (A.1, A.2.1, A.2.2.1, A.2.2.2.1, A.2.2.2.2.1, A.2.2.2.2.2.1, A.2.2.2.2.2.2.1, A.2.2.2.2.2.2.2.1, A.2.2.2.2.2.2.2.2.1, A.2.2.2.2.2.2.2.2.2.1, A.2.2.2.2.2.2.2.2.2.2.1, A.2.2.2.2.2.2.2.2.2.2.2.1, A.2.2.2.2.2.2.2.2.2.2.2.2.1, A.2.2.2.2.2.2.2.2.2.2.2.2.2.1, A.2.2.2.2.2.2.2.2.2.2.2.2.2.2.1, A.2.2.2.2.2.2.2.2.2.2.2.2.2.2.2.1, A.2.2.2.2.2.2.2.2.2.2.2.2.2.2.2.2.1, A.2.2.2.2.2.2.2.2.2.2.2.2.2.2.2.2.2.1, A.2.2.2.2.2.2.2.2.2.2.2.2.2.2.2.2.2.2.1, z)
abbrev Gc : Type := (Nat → Nat) × (Nat → Int32) × (Nat → Bool) × (Nat → Int32) × (Nat → Int64) × (Nat → Int64)
abbrev gA_ad (G : Gc) : Nat → Nat := G.1
abbrev gA_wt (G : Gc) : Nat → Int32 := G.2.1
abbrev gA_fi (G : Gc) : Nat → Bool := G.2.2.1
abbrev gA_ins (G : Gc) : Nat → Int32 := G.2.2.2.1
abbrev gA_kn (G : Gc) : Nat → Int64 := G.2.2.2.2.1
abbrev gA_ps (G : Gc) : Nat → Int64 := G.2.2.2.2.2
abbrev gU_ad (G : Gc) (z : Nat → Nat) : Gc := (z, G.2.1, G.2.2.1, G.2.2.2.1, G.2.2.2.2.1, G.2.2.2.2.2)
abbrev gU_wt (G : Gc) (z : Nat → Int32) : Gc := (G.1, z, G.2.2.1, G.2.2.2.1, G.2.2.2.2.1, G.2.2.2.2.2)
abbrev gU_fi (G : Gc) (z : Nat → Bool) : Gc := (G.1, G.2.1, z, G.2.2.2.1, G.2.2.2.2.1, G.2.2.2.2.2)
abbrev gU_ins (G : Gc) (z : Nat → Int32) : Gc := (G.1, G.2.1, G.2.2.1, z, G.2.2.2.2.1, G.2.2.2.2.2)
abbrev gU_kn (G : Gc) (z : Nat → Int64) : Gc := (G.1, G.2.1, G.2.2.1, G.2.2.2.1, z, G.2.2.2.2.2)
abbrev gU_ps (G : Gc) (z : Nat → Int64) : Gc := (G.1, G.2.1, G.2.2.1, G.2.2.2.1, G.2.2.2.2.1, z)
abbrev Gr : Type := (Nat → Nat) × (Nat → Int32) × (Nat → Int32) × (Nat → Int32) × Bool
abbrev rA_ad (G : Gr) : Nat → Nat := G.1
abbrev rA_kn (G : Gr) : Nat → Int32 := G.2.1
abbrev rA_tr (G : Gr) : Nat → Int32 := G.2.2.1
abbrev rA_tu (G : Gr) : Nat → Int32 := G.2.2.2.1
abbrev rA_st (G : Gr) : Bool := G.2.2.2.2
abbrev rU_ad (G : Gr) (z : Nat → Nat) : Gr := (z, G.2.1, G.2.2.1, G.2.2.2.1, G.2.2.2.2)
abbrev rU_kn (G : Gr) (z : Nat → Int32) : Gr := (G.1, z, G.2.2.1, G.2.2.2.1, G.2.2.2.2)
abbrev rU_tr (G : Gr) (z : Nat → Int32) : Gr := (G.1, G.2.1, z, G.2.2.2.1, G.2.2.2.2)
abbrev rU_tu (G : Gr) (z : Nat → Int32) : Gr := (G.1, G.2.1, G.2.2.1, z, G.2.2.2.2)
abbrev rU_st (G : Gr) (z : Bool) : Gr := (G.1, G.2.1, G.2.2.1, G.2.2.2.1, z)
/-! The class's world: a fixed list of cells and four cells a wafer. Own work. -/
def b2i : Bool → Int32
  | true => 1
  | false => 0
theorem b2i_f {b : Bool} (h : b2i b = 0) : b = false := by cases b <;> first | rfl | (exfalso; revert h; decide)
theorem b2i_t {b : Bool} (h : ¬ b2i b = 0) : b = true := by cases b <;> first | rfl | exact absurd rfl h
theorem b2i_nar (b : Bool) : narrow .boolean (.int (b2i b)) = .int (b2i b) := by cases b <;> rfl
theorem b2i_fit (b : Bool) : fits .boolean (.int (b2i b)) = true := by cases b <;> rfl
theorem nt_of {b : Bool} (h : b = false) : ¬ b = true := by rw [h]; decide
def oc {α β : Type} (o : Option α) (a : β) (f : α → β) : β := match o with
  | none => a
  | some i => f i
theorem oc_none {α β : Type} {o : Option α} {a : β} {f : α → β} (h : o = none) : oc o a f = a := by subst h; rfl
theorem oc_some {α β : Type} {o : Option α} {a : β} {f : α → β} {i : α} (h : o = some i) : oc o a f = f i := by subst h; rfl
/-- the tables' numbers: of the classes and slots; of int[], long[], boolean[], Wafer[], Route[] -/
abbrev Xt : Type := va_G × ClassId × ClassId × ClassId × ClassId × ClassId
abbrev x_I (X : Xt) : ClassId := X.2.1
abbrev x_J (X : Xt) : ClassId := X.2.2.1
abbrev x_Z (X : Xt) : ClassId := X.2.2.2.1
abbrev x_W (X : Xt) : ClassId := X.2.2.2.2.1
abbrev x_R (X : Xt) : ClassId := X.2.2.2.2.2
abbrev tysX (X : Xt) : List (ClassId × FieldType) := [(x_I X, .int), (x_J X, .long), (x_Z X, .boolean), (x_W X, .object "ClusterTool$Wafer"), (x_R X, .object "ClusterTool$Route")]
abbrev aI (n : Nat) (f : Nat → Int32) : vp_A := (n, .inl f)
abbrev aJ (n : Nat) (f : Nat → Int64) : vp_A := (n, .inr (.inl f))
abbrev aQ (n : Nat) (f : Nat → Option Nat) : vp_A := (n, .inr (.inr (.inr (.inr f))))
def wRefs (G : Gc) (A : St) : Nat → Option Nat := fun i => if i < sA_n A then some (gA_ad G (18 + 4 * i)) else none
def rRefs (G : Gc) : Nat → Option Nat := fun r => if r = 0 then some (gA_ad G 8) else if r = 1 then some (gA_ad G 12) else none
def o_tool (G : Gc) (A : St) : List Value := [.ref (gA_ad G 1), .ref (gA_ad G 2), .ref (gA_ad G 3), .ref (gA_ad G 4), .ref (gA_ad G 5), .ref (gA_ad G 6), .int (nI (sA_n A)), .int (sA_ck A)]
def o_ways (G : Gc) (A : St) : List Value := [.ref (gA_ad G 7), .int (nI (sA_dn A))]
def o_emp (G : Gc) : List Value := [.ref (gA_ad G 16), .ref (gA_ad G 17)]
def o_front (A : St) : List Value := [.int (b2i (sA_fb A)), .int (sA_fm A)]
def o_back (A : St) : List Value := [.int (b2i (sA_bb A)), .int (sA_bm A)]
def o_route (G : Gc) (A : St) (r : Nat) : List Value := [.ref (gA_ad G (9 + 4 * r)), .ref (gA_ad G (10 + 4 * r)), .ref (gA_ad G (11 + 4 * r)), .int (nI (sA_len A r))]
def o_waf (G : Gc) (A : St) (i : Nat) : List Value := [.int (nI (sA_rt A i)), .ref (gA_ad G (18 + 4 * i + 1)), .ref (gA_ad G (18 + 4 * i + 2)), .ref (gA_ad G (18 + 4 * i + 3)), .int (nI (sA_pl A i)), .int (nI (sA_sg A i)), .int (nI (sA_lf A i)), .int (gA_wt G i), .int (b2i (gA_fi G i)), .int (b2i (sA_la A i))]
def wE (X : Xt) (G : Gc) (A : St) (i : Nat) : Nat → va_E
  | 0 => .inr (5, o_waf G A i)
  | 1 => .inl (x_I X, aI 3 (sA_ch A i))
  | 2 => .inl (x_I X, aI 3 (sA_be A i))
  | _ => .inl (x_I X, aI 3 (sA_en A i))
def wcell (X : Xt) (G : Gc) (A : St) (k : Nat) : Nat × va_E := (gA_ad G (18 + k), wE X G A (k / 4) (k % 4))
def cwF (X : Xt) (G : Gc) (A : St) : va_W := [
  (gA_ad G 0, .inr (0, o_tool G A)),
  (gA_ad G 1, .inr (1, o_ways G A)),
  (gA_ad G 2, .inr (2, o_emp G)),
  (gA_ad G 3, .inr (3, o_front A)),
  (gA_ad G 4, .inr (3, o_back A)),
  (gA_ad G 5, .inl (x_W X, aQ 25 (wRefs G A))),
  (gA_ad G 6, .inl (x_I X, aI 5 (gA_ins G))),
  (gA_ad G 7, .inl (x_R X, aQ 2 (rRefs G))),
  (gA_ad G 8, .inr (4, o_route G A 0)),
  (gA_ad G 9, .inl (x_I X, aI 3 (fun i => nI (sA_mk A 0 i)))),
  (gA_ad G 10, .inl (x_I X, aI 3 (fun i => nI (sA_tm A 0 i)))),
  (gA_ad G 11, .inl (x_I X, aI 3 (fun i => nI (sA_lm A 0 i)))),
  (gA_ad G 12, .inr (4, o_route G A 1)),
  (gA_ad G 13, .inl (x_I X, aI 3 (fun i => nI (sA_mk A 1 i)))),
  (gA_ad G 14, .inl (x_I X, aI 3 (fun i => nI (sA_tm A 1 i)))),
  (gA_ad G 15, .inl (x_I X, aI 3 (fun i => nI (sA_lm A 1 i)))),
  (gA_ad G 16, .inl (x_J X, aJ 1024 (gA_kn G))),
  (gA_ad G 17, .inl (x_J X, aJ 1024 (gA_ps G)))]
def cw (X : Xt) (G : Gc) (A : St) : va_W := cwF X G A ++ (List.range (4 * sA_n A)).map (wcell X G A)
section CW
variable {X : Xt} {G : Gc} {A : St} {i r : Nat}
theorem cw_0 : (cw X G A)[0]? = some (gA_ad G 0, .inr (0, o_tool G A)) := rfl
theorem cw_1 : (cw X G A)[1]? = some (gA_ad G 1, .inr (1, o_ways G A)) := rfl
theorem cw_2 : (cw X G A)[2]? = some (gA_ad G 2, .inr (2, o_emp G)) := rfl
theorem cw_3 : (cw X G A)[3]? = some (gA_ad G 3, .inr (3, o_front A)) := rfl
theorem cw_4 : (cw X G A)[4]? = some (gA_ad G 4, .inr (3, o_back A)) := rfl
theorem cw_5 : (cw X G A)[5]? = some (gA_ad G 5, .inl (x_W X, aQ 25 (wRefs G A))) := rfl
theorem cw_6 : (cw X G A)[6]? = some (gA_ad G 6, .inl (x_I X, aI 5 (gA_ins G))) := rfl
theorem cw_7 : (cw X G A)[7]? = some (gA_ad G 7, .inl (x_R X, aQ 2 (rRefs G))) := rfl
theorem cw_16 : (cw X G A)[16]? = some (gA_ad G 16, .inl (x_J X, aJ 1024 (gA_kn G))) := rfl
theorem cw_17 : (cw X G A)[17]? = some (gA_ad G 17, .inl (x_J X, aJ 1024 (gA_ps G))) := rfl
theorem cw_r (hr : r < 2) : (cw X G A)[8 + 4 * r]? = some (gA_ad G (8 + 4 * r), .inr (4, o_route G A r)) := by
  rcases (show r = 0 ∨ r = 1 by omega) with rfl | rfl <;> rfl
theorem cw_rm (hr : r < 2) : (cw X G A)[9 + 4 * r]? = some (gA_ad G (9 + 4 * r), .inl (x_I X, aI 3 (fun i => nI (sA_mk A r i)))) := by
  rcases (show r = 0 ∨ r = 1 by omega) with rfl | rfl <;> rfl
theorem cw_rt (hr : r < 2) : (cw X G A)[10 + 4 * r]? = some (gA_ad G (10 + 4 * r), .inl (x_I X, aI 3 (fun i => nI (sA_tm A r i)))) := by
  rcases (show r = 0 ∨ r = 1 by omega) with rfl | rfl <;> rfl
theorem cw_rl (hr : r < 2) : (cw X G A)[11 + 4 * r]? = some (gA_ad G (11 + 4 * r), .inl (x_I X, aI 3 (fun i => nI (sA_lm A r i)))) := by
  rcases (show r = 0 ∨ r = 1 by omega) with rfl | rfl <;> rfl
theorem cw_k {k : Nat} (hk : k < 4 * sA_n A) : (cw X G A)[18 + k]? = some (wcell X G A k) := by
  unfold cw
  rw [List.getElem?_append_right (by show 18 ≤ 18 + k; omega)]
  show ((List.range (4 * sA_n A)).map (wcell X G A))[18 + k - 18]? = _
  rw [Nat.add_sub_cancel_left, List.getElem?_map, List.getElem?_range hk]
  rfl
theorem cw_w (hi : i < sA_n A) : (cw X G A)[18 + 4 * i]? = some (gA_ad G (18 + 4 * i), .inr (5, o_waf G A i)) := by
  rw [cw_k (by omega)]
  unfold wcell
  rw [show 4 * i / 4 = i by omega, show 4 * i % 4 = 0 by omega]
  rfl
theorem cw_wc (hi : i < sA_n A) : (cw X G A)[18 + 4 * i + 1]? = some (gA_ad G (18 + 4 * i + 1), .inl (x_I X, aI 3 (sA_ch A i))) := by
  rw [Nat.add_assoc, cw_k (by omega)]
  unfold wcell
  rw [show (4 * i + 1) / 4 = i by omega, show (4 * i + 1) % 4 = 1 by omega]
  rfl
theorem cw_wb (hi : i < sA_n A) : (cw X G A)[18 + 4 * i + 2]? = some (gA_ad G (18 + 4 * i + 2), .inl (x_I X, aI 3 (sA_be A i))) := by
  rw [Nat.add_assoc, cw_k (by omega)]
  unfold wcell
  rw [show (4 * i + 2) / 4 = i by omega, show (4 * i + 2) % 4 = 2 by omega]
  rfl
theorem cw_we (hi : i < sA_n A) : (cw X G A)[18 + 4 * i + 3]? = some (gA_ad G (18 + 4 * i + 3), .inl (x_I X, aI 3 (sA_en A i))) := by
  rw [Nat.add_assoc, cw_k (by omega)]
  unfold wcell
  rw [show (4 * i + 3) / 4 = i by omega, show (4 * i + 3) % 4 = 3 by omega]
  rfl
theorem wc_set {G' : Gc} {A' : St} {t : Nat} {e : Nat × va_E} (ht : t < 4) (hself : wcell X G' A' (4 * i + t) = e) (hoth : ∀ j u, u < 4 → ¬ (j = i ∧ u = t) → wcell X G' A' (4 * j + u) = wcell X G A (4 * j + u)) (hn : sA_n A' = sA_n A) (hF : cwF X G' A' = cwF X G A) : (cw X G A).set (18 + (4 * i + t)) e = cw X G' A' := by
  unfold cw
  rw [hn, hF, List.set_append_right _ _ (by show 18 ≤ _; omega)]
  congr 1
  show ((List.range (4 * sA_n A)).map (wcell X G A)).set (18 + (4 * i + t) - 18) e = _
  rw [Nat.add_sub_cancel_left]
  apply List.ext_getElem?
  intro k
  by_cases hk : k = 4 * i + t
  · subst hk
    by_cases hl : 4 * i + t < 4 * sA_n A
    · rw [List.getElem?_set_self (by simpa using hl), List.getElem?_map, List.getElem?_range hl, Option.map_some, hself]
    · rw [List.getElem?_eq_none (by simpa using hl), List.getElem?_eq_none (by simpa using hl)]
  · rw [List.getElem?_set_ne (Ne.symm hk), List.getElem?_map, List.getElem?_map]
    by_cases hl : k < 4 * sA_n A
    · rw [List.getElem?_range hl, Option.map_some, Option.map_some]
      have h := hoth (k / 4) (k % 4) (by omega) (by omega)
      rw [show 4 * (k / 4) + k % 4 = k by omega] at h
      rw [h]
    · rw [List.getElem?_eq_none (by simpa using hl)]
      rfl
theorem wcell_at {t : Nat} (ht : t < 4) : wcell X G A (4 * i + t) = (gA_ad G (18 + (4 * i + t)), wE X G A i t) := by
  unfold wcell
  rw [show (4 * i + t) / 4 = i by omega, show (4 * i + t) % 4 = t by omega]
end CW
end
section
/-! Behind a store the world is a world again. Own work, printed by sets.py. -/
theorem upd_nI (f : Nat → Nat) (k v : Nat) : upd (fun i => nI (f i)) k (nI v) = fun i => nI (va_up f k v i) := by
  funext j
  unfold upd va_up
  split <;> rfl
theorem upd_b2i (f : Nat → Bool) (k : Nat) (v : Bool) : upd (fun i => b2i (f i)) k (b2i v) = fun i => b2i (va_up f k v i) := by
  funext j
  unfold upd va_up
  split <;> rfl
section CWS
variable {X : Xt} {G : Gc} {A : St} {i r k : Nat}
theorem cw_s_pl {v : Nat} : (cw X G A).set (18 + 4 * i) (gA_ad G (18 + 4 * i), .inr (5, (o_waf G A i).set 4 (.int (nI v)))) = cw X G (sU_pl A (va_up (sA_pl A) i v)) := by
  refine wc_set (i := i) (t := 0) (by omega) ?_ ?_ rfl rfl
  · rw [wcell_at (by omega)]
    simp only [wE, o_waf, sA_rt, sA_pl, sA_sg, sA_lf, sA_la, sA_ch, sA_be, sA_en, gA_ad, gA_wt, gA_fi, sU_pl, List.set_cons_succ, List.set_cons_zero, va_up_self]
    rfl
  · intro j u hu hne
    rw [wcell_at hu, wcell_at hu]
    rcases (show u = 0 ∨ u = 1 ∨ u = 2 ∨ u = 3 by omega) with rfl | rfl | rfl | rfl
    · have hj : j ≠ i := fun e => hne ⟨e, rfl⟩
      simp only [wE, o_waf, sA_rt, sA_pl, sA_sg, sA_lf, sA_la, sA_ch, sA_be, sA_en, gA_ad, gA_wt, gA_fi, sU_pl, va_up_ne _ _ hj]
    · rfl
    · rfl
    · rfl
theorem cw_s_sg {v : Nat} : (cw X G A).set (18 + 4 * i) (gA_ad G (18 + 4 * i), .inr (5, (o_waf G A i).set 5 (.int (nI v)))) = cw X G (sU_sg A (va_up (sA_sg A) i v)) := by
  refine wc_set (i := i) (t := 0) (by omega) ?_ ?_ rfl rfl
  · rw [wcell_at (by omega)]
    simp only [wE, o_waf, sA_rt, sA_pl, sA_sg, sA_lf, sA_la, sA_ch, sA_be, sA_en, gA_ad, gA_wt, gA_fi, sU_sg, List.set_cons_succ, List.set_cons_zero, va_up_self]
    rfl
  · intro j u hu hne
    rw [wcell_at hu, wcell_at hu]
    rcases (show u = 0 ∨ u = 1 ∨ u = 2 ∨ u = 3 by omega) with rfl | rfl | rfl | rfl
    · have hj : j ≠ i := fun e => hne ⟨e, rfl⟩
      simp only [wE, o_waf, sA_rt, sA_pl, sA_sg, sA_lf, sA_la, sA_ch, sA_be, sA_en, gA_ad, gA_wt, gA_fi, sU_sg, va_up_ne _ _ hj]
    · rfl
    · rfl
    · rfl
theorem cw_s_lf {v : Nat} : (cw X G A).set (18 + 4 * i) (gA_ad G (18 + 4 * i), .inr (5, (o_waf G A i).set 6 (.int (nI v)))) = cw X G (sU_lf A (va_up (sA_lf A) i v)) := by
  refine wc_set (i := i) (t := 0) (by omega) ?_ ?_ rfl rfl
  · rw [wcell_at (by omega)]
    simp only [wE, o_waf, sA_rt, sA_pl, sA_sg, sA_lf, sA_la, sA_ch, sA_be, sA_en, gA_ad, gA_wt, gA_fi, sU_lf, List.set_cons_succ, List.set_cons_zero, va_up_self]
    rfl
  · intro j u hu hne
    rw [wcell_at hu, wcell_at hu]
    rcases (show u = 0 ∨ u = 1 ∨ u = 2 ∨ u = 3 by omega) with rfl | rfl | rfl | rfl
    · have hj : j ≠ i := fun e => hne ⟨e, rfl⟩
      simp only [wE, o_waf, sA_rt, sA_pl, sA_sg, sA_lf, sA_la, sA_ch, sA_be, sA_en, gA_ad, gA_wt, gA_fi, sU_lf, va_up_ne _ _ hj]
    · rfl
    · rfl
    · rfl
theorem cw_s_wt {v : Int32} : (cw X G A).set (18 + 4 * i) (gA_ad G (18 + 4 * i), .inr (5, (o_waf G A i).set 7 (.int v))) = cw X (gU_wt G (va_up (gA_wt G) i v)) A := by
  refine wc_set (i := i) (t := 0) (by omega) ?_ ?_ rfl rfl
  · rw [wcell_at (by omega)]
    simp only [wE, o_waf, sA_rt, sA_pl, sA_sg, sA_lf, sA_la, sA_ch, sA_be, sA_en, gA_ad, gA_wt, gA_fi, gU_wt, List.set_cons_succ, List.set_cons_zero, va_up_self]
    rfl
  · intro j u hu hne
    rw [wcell_at hu, wcell_at hu]
    rcases (show u = 0 ∨ u = 1 ∨ u = 2 ∨ u = 3 by omega) with rfl | rfl | rfl | rfl
    · have hj : j ≠ i := fun e => hne ⟨e, rfl⟩
      simp only [wE, o_waf, sA_rt, sA_pl, sA_sg, sA_lf, sA_la, sA_ch, sA_be, sA_en, gA_ad, gA_wt, gA_fi, gU_wt, va_up_ne _ _ hj]
    · rfl
    · rfl
    · rfl
theorem cw_s_fi {v : Bool} : (cw X G A).set (18 + 4 * i) (gA_ad G (18 + 4 * i), .inr (5, (o_waf G A i).set 8 (.int (b2i v)))) = cw X (gU_fi G (va_up (gA_fi G) i v)) A := by
  refine wc_set (i := i) (t := 0) (by omega) ?_ ?_ rfl rfl
  · rw [wcell_at (by omega)]
    simp only [wE, o_waf, sA_rt, sA_pl, sA_sg, sA_lf, sA_la, sA_ch, sA_be, sA_en, gA_ad, gA_wt, gA_fi, gU_fi, List.set_cons_succ, List.set_cons_zero, va_up_self]
    rfl
  · intro j u hu hne
    rw [wcell_at hu, wcell_at hu]
    rcases (show u = 0 ∨ u = 1 ∨ u = 2 ∨ u = 3 by omega) with rfl | rfl | rfl | rfl
    · have hj : j ≠ i := fun e => hne ⟨e, rfl⟩
      simp only [wE, o_waf, sA_rt, sA_pl, sA_sg, sA_lf, sA_la, sA_ch, sA_be, sA_en, gA_ad, gA_wt, gA_fi, gU_fi, va_up_ne _ _ hj]
    · rfl
    · rfl
    · rfl
theorem cw_s_la {v : Bool} : (cw X G A).set (18 + 4 * i) (gA_ad G (18 + 4 * i), .inr (5, (o_waf G A i).set 9 (.int (b2i v)))) = cw X G (sU_la A (va_up (sA_la A) i v)) := by
  refine wc_set (i := i) (t := 0) (by omega) ?_ ?_ rfl rfl
  · rw [wcell_at (by omega)]
    simp only [wE, o_waf, sA_rt, sA_pl, sA_sg, sA_lf, sA_la, sA_ch, sA_be, sA_en, gA_ad, gA_wt, gA_fi, sU_la, List.set_cons_succ, List.set_cons_zero, va_up_self]
    rfl
  · intro j u hu hne
    rw [wcell_at hu, wcell_at hu]
    rcases (show u = 0 ∨ u = 1 ∨ u = 2 ∨ u = 3 by omega) with rfl | rfl | rfl | rfl
    · have hj : j ≠ i := fun e => hne ⟨e, rfl⟩
      simp only [wE, o_waf, sA_rt, sA_pl, sA_sg, sA_lf, sA_la, sA_ch, sA_be, sA_en, gA_ad, gA_wt, gA_fi, sU_la, va_up_ne _ _ hj]
    · rfl
    · rfl
    · rfl
theorem cw_s_ch {x : Int32} : (cw X G A).set (18 + 4 * i + 1) (gA_ad G (18 + 4 * i + 1), .inl (x_I X, aI 3 (upd (sA_ch A i) k x))) = cw X G (sU_ch A (va_up (sA_ch A) i (upd (sA_ch A i) k x))) := by
  refine wc_set (i := i) (t := 1) (by omega) ?_ ?_ rfl rfl
  · rw [wcell_at (by omega)]
    simp only [wE, sA_rt, sA_pl, sA_sg, sA_lf, sA_la, sA_ch, sA_be, sA_en, gA_ad, gA_wt, gA_fi, sU_ch, va_up_self]
    rfl
  · intro j u hu hne
    rw [wcell_at hu, wcell_at hu]
    rcases (show u = 0 ∨ u = 1 ∨ u = 2 ∨ u = 3 by omega) with rfl | rfl | rfl | rfl
    · rfl
    · have hj : j ≠ i := fun e => hne ⟨e, rfl⟩
      simp only [wE, sA_rt, sA_pl, sA_sg, sA_lf, sA_la, sA_ch, sA_be, sA_en, gA_ad, gA_wt, gA_fi, sU_ch, va_up_ne _ _ hj]
    · rfl
    · rfl
theorem cw_s_be {x : Int32} : (cw X G A).set (18 + 4 * i + 2) (gA_ad G (18 + 4 * i + 2), .inl (x_I X, aI 3 (upd (sA_be A i) k x))) = cw X G (sU_be A (va_up (sA_be A) i (upd (sA_be A i) k x))) := by
  refine wc_set (i := i) (t := 2) (by omega) ?_ ?_ rfl rfl
  · rw [wcell_at (by omega)]
    simp only [wE, sA_rt, sA_pl, sA_sg, sA_lf, sA_la, sA_ch, sA_be, sA_en, gA_ad, gA_wt, gA_fi, sU_be, va_up_self]
    rfl
  · intro j u hu hne
    rw [wcell_at hu, wcell_at hu]
    rcases (show u = 0 ∨ u = 1 ∨ u = 2 ∨ u = 3 by omega) with rfl | rfl | rfl | rfl
    · rfl
    · rfl
    · have hj : j ≠ i := fun e => hne ⟨e, rfl⟩
      simp only [wE, sA_rt, sA_pl, sA_sg, sA_lf, sA_la, sA_ch, sA_be, sA_en, gA_ad, gA_wt, gA_fi, sU_be, va_up_ne _ _ hj]
    · rfl
theorem cw_s_en {x : Int32} : (cw X G A).set (18 + 4 * i + 3) (gA_ad G (18 + 4 * i + 3), .inl (x_I X, aI 3 (upd (sA_en A i) k x))) = cw X G (sU_en A (va_up (sA_en A) i (upd (sA_en A i) k x))) := by
  refine wc_set (i := i) (t := 3) (by omega) ?_ ?_ rfl rfl
  · rw [wcell_at (by omega)]
    simp only [wE, sA_rt, sA_pl, sA_sg, sA_lf, sA_la, sA_ch, sA_be, sA_en, gA_ad, gA_wt, gA_fi, sU_en, va_up_self]
    rfl
  · intro j u hu hne
    rw [wcell_at hu, wcell_at hu]
    rcases (show u = 0 ∨ u = 1 ∨ u = 2 ∨ u = 3 by omega) with rfl | rfl | rfl | rfl
    · rfl
    · rfl
    · rfl
    · have hj : j ≠ i := fun e => hne ⟨e, rfl⟩
      simp only [wE, sA_rt, sA_pl, sA_sg, sA_lf, sA_la, sA_ch, sA_be, sA_en, gA_ad, gA_wt, gA_fi, sU_en, va_up_ne _ _ hj]
theorem cw_s_ck {v : Int32} : (cw X G A).set 0 (gA_ad G 0, .inr (0, (o_tool G A).set 7 (.int v))) = cw X G (sU_ck A v) := rfl
theorem cw_s_dn {v : Nat} : (cw X G A).set 1 (gA_ad G 1, .inr (1, (o_ways G A).set 1 (.int (nI v)))) = cw X G (sU_dn A v) := rfl
theorem cw_s_fb {v : Bool} : (cw X G A).set 3 (gA_ad G 3, .inr (3, (o_front A).set 0 (.int (b2i v)))) = cw X G (sU_fb A v) := rfl
theorem cw_s_fm {v : Int32} : (cw X G A).set 3 (gA_ad G 3, .inr (3, (o_front A).set 1 (.int v))) = cw X G (sU_fm A v) := rfl
theorem cw_s_bb {v : Bool} : (cw X G A).set 4 (gA_ad G 4, .inr (3, (o_back A).set 0 (.int (b2i v)))) = cw X G (sU_bb A v) := rfl
theorem cw_s_bm {v : Int32} : (cw X G A).set 4 (gA_ad G 4, .inr (3, (o_back A).set 1 (.int v))) = cw X G (sU_bm A v) := rfl
theorem cw_s_ins {v : Int32} : (cw X G A).set 6 (gA_ad G 6, .inl (x_I X, aI 5 (upd (gA_ins G) k v))) = cw X (gU_ins G (upd (gA_ins G) k v)) A := rfl
theorem cw_s_kn {v : Int64} : (cw X G A).set 16 (gA_ad G 16, .inl (x_J X, aJ 1024 (vp_updL (gA_kn G) k v))) = cw X (gU_kn G (vp_updL (gA_kn G) k v)) A := rfl
theorem cw_s_ps {v : Int64} : (cw X G A).set 17 (gA_ad G 17, .inl (x_J X, aJ 1024 (vp_updL (gA_ps G) k v))) = cw X (gU_ps G (vp_updL (gA_ps G) k v)) A := rfl
theorem cw_s_kn0 {f : Nat → Int64} : (cw X G A).set 16 (gA_ad G 16, .inl (x_J X, aJ 1024 f)) = cw X (gU_kn G f) A := rfl
theorem cw_s_ps0 {f : Nat → Int64} : (cw X G A).set 17 (gA_ad G 17, .inl (x_J X, aJ 1024 f)) = cw X (gU_ps G f) A := rfl
theorem cw_s_len {v : Nat} (hr : r < 2) : (cw X G A).set (8 + 4 * r) (gA_ad G (8 + 4 * r), .inr (4, (o_route G A r).set 3 (.int (nI v)))) = cw X G (sU_len A (va_up (sA_len A) r v)) := by
  rcases (show r = 0 ∨ r = 1 by omega) with rfl | rfl <;> rfl
theorem cw_s_mk {v : Nat} (hr : r < 2) : (cw X G A).set (9 + 4 * r) (gA_ad G (9 + 4 * r), .inl (x_I X, aI 3 (upd (fun i => nI (sA_mk A r i)) k (nI v)))) = cw X G (sU_mk A (va_up (sA_mk A) r (va_up (sA_mk A r) k v))) := by
  rw [upd_nI]
  rcases (show r = 0 ∨ r = 1 by omega) with rfl | rfl <;> rfl
theorem cw_s_tm {v : Nat} (hr : r < 2) : (cw X G A).set (10 + 4 * r) (gA_ad G (10 + 4 * r), .inl (x_I X, aI 3 (upd (fun i => nI (sA_tm A r i)) k (nI v)))) = cw X G (sU_tm A (va_up (sA_tm A) r (va_up (sA_tm A r) k v))) := by
  rw [upd_nI]
  rcases (show r = 0 ∨ r = 1 by omega) with rfl | rfl <;> rfl
theorem cw_s_lm {v : Nat} (hr : r < 2) : (cw X G A).set (11 + 4 * r) (gA_ad G (11 + 4 * r), .inl (x_I X, aI 3 (upd (fun i => nI (sA_lm A r i)) k (nI v)))) = cw X G (sU_lm A (va_up (sA_lm A) r (va_up (sA_lm A r) k v))) := by
  rw [upd_nI]
  rcases (show r = 0 ∨ r = 1 by omega) with rfl | rfl <;> rfl
end CWS
/-! The reference's world. -/
def o_mod (G : Gr) (A : St) : List Value := [.ref (rA_ad G 1), .ref (rA_ad G 2), .ref (rA_ad G 3), .ref (rA_ad G 4), .int (nI (sA_n A)), .ref (rA_ad G 5), .ref (rA_ad G 6), .ref (rA_ad G 7), .ref (rA_ad G 8), .ref (rA_ad G 9), .ref (rA_ad G 10), .ref (rA_ad G 11), .ref (rA_ad G 12), .ref (rA_ad G 13), .ref (rA_ad G 14), .int (sA_ck A), .int (b2i (sA_fb A)), .int (b2i (sA_bb A)), .int (sA_fm A), .int (sA_bm A), .ref (rA_ad G 15), .int (b2i (rA_st G)), .ref (rA_ad G 16), .ref (rA_ad G 17)]
def rw_ (X : Xt) (G : Gr) (A : St) : va_W := [
  (rA_ad G 0, .inr (6, o_mod G A)),
  (rA_ad G 1, .inl (x_I X, aI 2 (fun r => nI (sA_len A r)))),
  (rA_ad G 2, .inl (x_I X, aI 6 (fun x => nI (sA_mk A (x / 3) (x % 3))))),
  (rA_ad G 3, .inl (x_I X, aI 6 (fun x => nI (sA_tm A (x / 3) (x % 3))))),
  (rA_ad G 4, .inl (x_I X, aI 6 (fun x => nI (sA_lm A (x / 3) (x % 3))))),
  (rA_ad G 5, .inl (x_I X, aI 25 (fun i => nI (sA_rt A i)))),
  (rA_ad G 6, .inl (x_I X, aI 25 (fun i => nI (sA_sg A i)))),
  (rA_ad G 7, .inl (x_I X, aI 25 (fun i => nI (sA_pl A i)))),
  (rA_ad G 8, .inl (x_I X, aI 25 (fun i => nI (sA_lf A i)))),
  (rA_ad G 9, .inl (x_I X, aI 25 (fun i => nI (sA_sn A i)))),
  (rA_ad G 10, .inl (x_Z X, aI 25 (fun i => b2i (sA_la A i)))),
  (rA_ad G 11, .inl (x_I X, aI 75 (fun x => sA_ch A (x / 3) (x % 3)))),
  (rA_ad G 12, .inl (x_I X, aI 75 (fun x => sA_be A (x / 3) (x % 3)))),
  (rA_ad G 13, .inl (x_I X, aI 75 (fun x => sA_en A (x / 3) (x % 3)))),
  (rA_ad G 14, .inl (x_Z X, aI 4 (fun p => b2i ((sA_dn A).testBit p)))),
  (rA_ad G 15, .inl (x_I X, aI 3691 (rA_kn G))),
  (rA_ad G 16, .inl (x_I X, aI 64 (rA_tr G))),
  (rA_ad G 17, .inl (x_I X, aI 64 (rA_tu G)))]
section RW
variable {X : Xt} {G : Gr} {A : St} {i r k s : Nat}
theorem rw_0 : (rw_ X G A)[0]? = some (rA_ad G 0, .inr (6, o_mod G A)) := rfl
theorem rw_1 : (rw_ X G A)[1]? = some (rA_ad G 1, .inl (x_I X, aI 2 (fun r => nI (sA_len A r)))) := rfl
theorem rw_2 : (rw_ X G A)[2]? = some (rA_ad G 2, .inl (x_I X, aI 6 (fun x => nI (sA_mk A (x / 3) (x % 3))))) := rfl
theorem rw_3 : (rw_ X G A)[3]? = some (rA_ad G 3, .inl (x_I X, aI 6 (fun x => nI (sA_tm A (x / 3) (x % 3))))) := rfl
theorem rw_4 : (rw_ X G A)[4]? = some (rA_ad G 4, .inl (x_I X, aI 6 (fun x => nI (sA_lm A (x / 3) (x % 3))))) := rfl
theorem rw_5 : (rw_ X G A)[5]? = some (rA_ad G 5, .inl (x_I X, aI 25 (fun i => nI (sA_rt A i)))) := rfl
theorem rw_6 : (rw_ X G A)[6]? = some (rA_ad G 6, .inl (x_I X, aI 25 (fun i => nI (sA_sg A i)))) := rfl
theorem rw_7 : (rw_ X G A)[7]? = some (rA_ad G 7, .inl (x_I X, aI 25 (fun i => nI (sA_pl A i)))) := rfl
theorem rw_8 : (rw_ X G A)[8]? = some (rA_ad G 8, .inl (x_I X, aI 25 (fun i => nI (sA_lf A i)))) := rfl
theorem rw_9 : (rw_ X G A)[9]? = some (rA_ad G 9, .inl (x_I X, aI 25 (fun i => nI (sA_sn A i)))) := rfl
theorem rw_10 : (rw_ X G A)[10]? = some (rA_ad G 10, .inl (x_Z X, aI 25 (fun i => b2i (sA_la A i)))) := rfl
theorem rw_11 : (rw_ X G A)[11]? = some (rA_ad G 11, .inl (x_I X, aI 75 (fun x => sA_ch A (x / 3) (x % 3)))) := rfl
theorem rw_12 : (rw_ X G A)[12]? = some (rA_ad G 12, .inl (x_I X, aI 75 (fun x => sA_be A (x / 3) (x % 3)))) := rfl
theorem rw_13 : (rw_ X G A)[13]? = some (rA_ad G 13, .inl (x_I X, aI 75 (fun x => sA_en A (x / 3) (x % 3)))) := rfl
theorem rw_14 : (rw_ X G A)[14]? = some (rA_ad G 14, .inl (x_Z X, aI 4 (fun p => b2i ((sA_dn A).testBit p)))) := rfl
theorem rw_15 : (rw_ X G A)[15]? = some (rA_ad G 15, .inl (x_I X, aI 3691 (rA_kn G))) := rfl
theorem rw_16 : (rw_ X G A)[16]? = some (rA_ad G 16, .inl (x_I X, aI 64 (rA_tr G))) := rfl
theorem rw_17 : (rw_ X G A)[17]? = some (rA_ad G 17, .inl (x_I X, aI 64 (rA_tu G))) := rfl
theorem rw_s_n {v : Nat} : (rw_ X G A).set 0 (rA_ad G 0, .inr (6, (o_mod G A).set 4 (.int (nI v)))) = rw_ X G (sU_n A v) := rfl
theorem rw_s_ck {v : Int32} : (rw_ X G A).set 0 (rA_ad G 0, .inr (6, (o_mod G A).set 15 (.int v))) = rw_ X G (sU_ck A v) := rfl
theorem rw_s_fb {v : Bool} : (rw_ X G A).set 0 (rA_ad G 0, .inr (6, (o_mod G A).set 16 (.int (b2i v)))) = rw_ X G (sU_fb A v) := rfl
theorem rw_s_bb {v : Bool} : (rw_ X G A).set 0 (rA_ad G 0, .inr (6, (o_mod G A).set 17 (.int (b2i v)))) = rw_ X G (sU_bb A v) := rfl
theorem rw_s_fm {v : Int32} : (rw_ X G A).set 0 (rA_ad G 0, .inr (6, (o_mod G A).set 18 (.int v))) = rw_ X G (sU_fm A v) := rfl
theorem rw_s_bm {v : Int32} : (rw_ X G A).set 0 (rA_ad G 0, .inr (6, (o_mod G A).set 19 (.int v))) = rw_ X G (sU_bm A v) := rfl
theorem rw_s_st {v : Bool} : (rw_ X G A).set 0 (rA_ad G 0, .inr (6, (o_mod G A).set 21 (.int (b2i v)))) = rw_ X (rU_st G v) A := rfl
theorem rw_s_rt {v : Nat} : (rw_ X G A).set 5 (rA_ad G 5, .inl (x_I X, aI 25 (upd (fun i => nI (sA_rt A i)) k (nI v)))) = rw_ X G (sU_rt A (va_up (sA_rt A) k v)) := by
  rw [upd_nI]
  rfl
theorem rw_s_sg {v : Nat} : (rw_ X G A).set 6 (rA_ad G 6, .inl (x_I X, aI 25 (upd (fun i => nI (sA_sg A i)) k (nI v)))) = rw_ X G (sU_sg A (va_up (sA_sg A) k v)) := by
  rw [upd_nI]
  rfl
theorem rw_s_pl {v : Nat} : (rw_ X G A).set 7 (rA_ad G 7, .inl (x_I X, aI 25 (upd (fun i => nI (sA_pl A i)) k (nI v)))) = rw_ X G (sU_pl A (va_up (sA_pl A) k v)) := by
  rw [upd_nI]
  rfl
theorem rw_s_lf {v : Nat} : (rw_ X G A).set 8 (rA_ad G 8, .inl (x_I X, aI 25 (upd (fun i => nI (sA_lf A i)) k (nI v)))) = rw_ X G (sU_lf A (va_up (sA_lf A) k v)) := by
  rw [upd_nI]
  rfl
theorem rw_s_sn {v : Nat} : (rw_ X G A).set 9 (rA_ad G 9, .inl (x_I X, aI 25 (upd (fun i => nI (sA_sn A i)) k (nI v)))) = rw_ X G (sU_sn A (va_up (sA_sn A) k v)) := by
  rw [upd_nI]
  rfl
theorem rw_s_len {v : Nat} : (rw_ X G A).set 1 (rA_ad G 1, .inl (x_I X, aI 2 (upd (fun r => nI (sA_len A r)) k (nI v)))) = rw_ X G (sU_len A (va_up (sA_len A) k v)) := by
  rw [upd_nI]
  rfl
theorem rw_s_la {v : Bool} : (rw_ X G A).set 10 (rA_ad G 10, .inl (x_Z X, aI 25 (upd (fun i => b2i (sA_la A i)) k (b2i v)))) = rw_ X G (sU_la A (va_up (sA_la A) k v)) := by
  rw [upd_b2i]
  rfl
theorem rw_s_kn {v : Int32} : (rw_ X G A).set 15 (rA_ad G 15, .inl (x_I X, aI 3691 (upd (rA_kn G) k v))) = rw_ X (rU_kn G (upd (rA_kn G) k v)) A := rfl
theorem rw_s_tr {v : Int32} : (rw_ X G A).set 16 (rA_ad G 16, .inl (x_I X, aI 64 (upd (rA_tr G) k v))) = rw_ X (rU_tr G (upd (rA_tr G) k v)) A := rfl
theorem rw_s_tu {v : Int32} : (rw_ X G A).set 17 (rA_ad G 17, .inl (x_I X, aI 64 (upd (rA_tu G) k v))) = rw_ X (rU_tu G (upd (rA_tu G) k v)) A := rfl
theorem upd_33 (f : Nat → Nat → Int32) (hs : s < 3) (v : Int32) : upd (fun x => f (x / 3) (x % 3)) (3 * i + s) v = fun x => va_up f i (upd (f i) s v) (x / 3) (x % 3) := by
  funext x
  unfold upd va_up
  by_cases h : x = 3 * i + s
  · subst h
    rw [if_pos rfl, show (3 * i + s) / 3 = i by omega, show (3 * i + s) % 3 = s by omega, if_pos rfl]
    simp
  · rw [if_neg h]
    by_cases h1 : x / 3 = i
    · rw [if_pos h1, if_neg (by omega)]
      dsimp only
      rw [h1]
    · rw [if_neg h1]
theorem upd_33n (f : Nat → Nat → Nat) (hs : s < 3) (v : Nat) : upd (fun x => nI (f (x / 3) (x % 3))) (3 * i + s) (nI v) = fun x => nI (va_up f i (va_up (f i) s v) (x / 3) (x % 3)) := by
  funext x
  unfold upd va_up
  by_cases h : x = 3 * i + s
  · subst h
    rw [if_pos rfl, show (3 * i + s) / 3 = i by omega, show (3 * i + s) % 3 = s by omega, if_pos rfl]
    simp
  · rw [if_neg h]
    by_cases h1 : x / 3 = i
    · rw [if_pos h1, if_neg (by omega)]
      dsimp only
      rw [h1]
    · rw [if_neg h1]
theorem rw_s_ch {v : Int32} (hs : s < 3) : (rw_ X G A).set 11 (rA_ad G 11, .inl (x_I X, aI 75 (upd (fun x => sA_ch A (x / 3) (x % 3)) (3 * i + s) v))) = rw_ X G (sU_ch A (va_up (sA_ch A) i (upd (sA_ch A i) s v))) := by
  rw [upd_33 _ hs]
  rfl
theorem rw_s_be {v : Int32} (hs : s < 3) : (rw_ X G A).set 12 (rA_ad G 12, .inl (x_I X, aI 75 (upd (fun x => sA_be A (x / 3) (x % 3)) (3 * i + s) v))) = rw_ X G (sU_be A (va_up (sA_be A) i (upd (sA_be A i) s v))) := by
  rw [upd_33 _ hs]
  rfl
theorem rw_s_en {v : Int32} (hs : s < 3) : (rw_ X G A).set 13 (rA_ad G 13, .inl (x_I X, aI 75 (upd (fun x => sA_en A (x / 3) (x % 3)) (3 * i + s) v))) = rw_ X G (sU_en A (va_up (sA_en A) i (upd (sA_en A i) s v))) := by
  rw [upd_33 _ hs]
  rfl
theorem rw_s_mk {v : Nat} (hs : s < 3) : (rw_ X G A).set 2 (rA_ad G 2, .inl (x_I X, aI 6 (upd (fun x => nI (sA_mk A (x / 3) (x % 3))) (3 * i + s) (nI v)))) = rw_ X G (sU_mk A (va_up (sA_mk A) i (va_up (sA_mk A i) s v))) := by
  rw [upd_33n _ hs]
  rfl
theorem rw_s_tm {v : Nat} (hs : s < 3) : (rw_ X G A).set 3 (rA_ad G 3, .inl (x_I X, aI 6 (upd (fun x => nI (sA_tm A (x / 3) (x % 3))) (3 * i + s) (nI v)))) = rw_ X G (sU_tm A (va_up (sA_tm A) i (va_up (sA_tm A i) s v))) := by
  rw [upd_33n _ hs]
  rfl
theorem rw_s_lm {v : Nat} (hs : s < 3) : (rw_ X G A).set 4 (rA_ad G 4, .inl (x_I X, aI 6 (upd (fun x => nI (sA_lm A (x / 3) (x % 3))) (3 * i + s) (nI v)))) = rw_ X G (sU_lm A (va_up (sA_lm A) i (va_up (sA_lm A i) s v))) := by
  rw [upd_33n _ hs]
  rfl
end RW
end
section
/-! What a method finds of the tables, and pictures of the class's world. Own work. -/
theorem vx_P {D : va_G} {cl : List vw_C} {ws ws' : va_W} {H : Heap} (e : ws = ws') (h : va_P D cl ws H) : va_P D cl ws' H := e ▸ h
theorem vx_D {A : Nat → Prop} {ws ws' : va_W} (e : ws = ws') (h : va_D A ws) : va_D A ws' := e ▸ h
theorem NL_all : ∀ w ∈ NL, isNw w = true := List.all_eq_true.mp (by decide +kernel : NL.all isNw = true)
def KK (X : Xt) (U : State) : Prop := va_K X.1 classes (tysX X) U ∧ (∀ w ∈ NL, va_Nw w U) ∧ va_AO "ClusterTool$Wafer" U ∧ va_AO "ClusterTool$Route" U
theorem KK.warm {X : Xt} {s U : State} (h : KK X s) (hW : s.WarmedH U.vm) : KK X U :=
  ⟨va_K.moved hW.alike h.1, fun w hw => isNw_warm (NL_all w hw) hW (h.2.1 w hw), va_AO.moved hW.alike h.2.2.1, va_AO.moved hW.alike h.2.2.2⟩
theorem KK.calling {X : Xt} {U : State} {g : JFrame} {mk : MethodId} {a : Array Value} (h : KK X U) : KK X (U.calling g mk a) :=
  ⟨va_K.moved (u := U) (U := U.calling g mk a) (Vm.Alike.refl U.vm) h.1, fun w hw => va_Nw.same (u := U) (U := U.calling g mk a) (isNw_tab (NL_all w hw)) rfl (h.2.1 w hw), va_AO.moved (u := U) (U := U.calling g mk a) (Vm.Alike.refl U.vm) h.2.2.1, va_AO.moved (u := U) (U := U.calling g mk a) (Vm.Alike.refl U.vm) h.2.2.2⟩
def PR (X : Xt) (G : Gc) (A : St) (h : Heap) : Prop := va_P X.1 classes (cw X G A) h
def PW (X : Xt) (Af : Nat → Prop) (G : Gc) (A : St) (h : Heap) : Prop := va_P X.1 classes (cw X G A) h ∧ va_D Af (cw X G A)
def QR (X : Xt) (G : Gr) (A : St) (h : Heap) : Prop := va_P X.1 classes (rw_ X G A) h
def QW (X : Xt) (Af : Nat → Prop) (G : Gr) (A : St) (h : Heap) : Prop := va_P X.1 classes (rw_ X G A) h ∧ va_D Af (rw_ X G A)
theorem vx_preS {X : Xt} {s : State} {H : Heap} {As : List Value} {P : Heap → Prop} (hP : P H) (hK : KK X s) : PreS s H (va_Pc As (fun U => P U.heap ∧ KK X U)) As :=
  ⟨fun a U g mk q => ⟨q.1, q.2.1, q.2.2.calling⟩, fun U hU hW => ⟨rfl, by rw [hU]; exact hP, hK.warm hW⟩⟩
theorem vx_preV {X : Xt} {s : State} {H : Heap} {b : Addr} {C : String} {As : List Value} {P : Heap → Prop} (hP : P H) (hK : KK X s) (hb : ∃ cellB : Cell, H[b]? = some cellB ∧ cellB.vm.isStatics = false ∧ s.vm.findClass C = some cellB.cls) : PreV s H C b (va_Pc (.ref b :: As) (fun U => P U.heap ∧ KK X U)) As :=
  ⟨fun a U g mk q => ⟨q.1, q.2.1, q.2.2.calling⟩, hb, fun U hU hW => ⟨rfl, by rw [hU]; exact hP, hK.warm hW⟩⟩
def atC (X : Xt) (Af : Nat → Prop) (u : Gc × St) (t : State) : Prop := PW X Af u.1 u.2 t.heap
def atR (X : Xt) (Af : Nat → Prop) (u : Gr × St) (t : State) : Prop := QW X Af u.1 u.2 t.heap
end
section
/-! The mathematics of emptying: situations are functions from places to marks. Own work. -/
/-- a sum over the five places -/
def s5 (f : Nat → Nat) : Nat := f 0 + f 1 + f 2 + f 3 + f 4
theorem s5_up {f : Nat → Nat} {q v : Nat} (hq : q < 5) : s5 (va_up f q v) + f q = s5 f + v := by
  have h : q = 0 ∨ q = 1 ∨ q = 2 ∨ q = 3 ∨ q = 4 := by omega
  rcases h with rfl | rfl | rfl | rfl | rfl <;> simp [s5, va_up] <;> omega
theorem s5_le {f g : Nat → Nat} (h : ∀ p, p < 5 → f p ≤ g p) : s5 f ≤ s5 g := by
  have h0 := h 0 (by omega)
  have h1 := h 1 (by omega)
  have h2 := h 2 (by omega)
  have h3 := h 3 (by omega)
  have h4 := h 4 (by omega)
  simp only [s5]
  omega
theorem s5_ge {f : Nat → Nat} {q : Nat} (hq : q < 5) : f q ≤ s5 f := by
  have h : q = 0 ∨ q = 1 ∨ q = 2 ∨ q = 3 ∨ q = 4 := by omega
  rcases h with rfl | rfl | rfl | rfl | rfl <;> simp only [s5] <;> omega
/-- an environment of the ways: lengths of the routes, their masks, the bits of the chambers that are down -/
abbrev En : Type := (Nat → Nat) × (Nat → Nat → Nat) × Nat
abbrev e_len (E : En) : Nat → Nat := E.1
abbrev e_mk (E : En) : Nat → Nat → Nat := E.2.1
abbrev e_dn (E : En) : Nat := E.2.2
def e_ok (E : En) : Prop := (∀ r, e_len E r ≤ 3) ∧ (∀ r i, i < e_len E r → 1 ≤ e_mk E r i ∧ e_mk E r i < 16) ∧ e_dn E < 16
/-- the mask of a stage, 0 where the route is over -/
def mskN (E : En) (r s : Nat) : Nat := if s < e_len E r then e_mk E r s else 0
def backN (p : Nat) : Bool := p == 2 || p == 3
def nearN (p q : Nat) : Bool := (!(backN p) && !(backN q)) || ((backN p || p == 4) && (backN q || q == 4))
def homeN (p q : Nat) : Bool := if q = 5 then p != 5 else q == 4 && backN p
def beyN (p : Nat) : Nat := if p = 4 then 0 else if backN p then 3 else 12
/-- is there a way: down bits, the mask of the stage, from, to -/
def leadN (d k p q : Nat) : Bool := !(d.testBit p) && !(d.testBit q) && nearN p q && (if k = 0 then homeN p q else if q < 4 then k.testBit q else q == 4 && (k &&& beyN p) != 0)
/-- a mark at a place: 0 nothing, else 4 * route + stage, and 8 more in the pass -/
abbrev m_r (k : Nat) : Nat := k / 4 % 2
abbrev m_s (k : Nat) : Nat := k % 4
def freeN (S : Nat → Nat) (p q : Nat) : Bool := q == 5 || q == p || S q == 0
def okN (E : En) (S : Nat → Nat) (p q : Nat) : Bool := S p != 0 && freeN S p q && leadN (e_dn E) (mskN E (m_r (S p)) (m_s (S p))) p q
def putM (q r s : Nat) : Nat := (if q = 4 then 8 else 0) + 4 * r + (if q < 4 then s + 1 else s)
def aft (S : Nat → Nat) (p q : Nat) : Nat → Nat := if q = 5 then va_up S p 0 else va_up (va_up S p 0) q (putM q (m_r (S p)) (m_s (S p)))
def isZ (S : Nat → Nat) : Bool := S 0 == 0 && S 1 == 0 && S 2 == 0 && S 3 == 0 && S 4 == 0
def canF (E : En) : Nat → (Nat → Nat) → Bool
  | 0, S => isZ S
  | k + 1, S => isZ S || (List.range 30).any (fun t => okN E S (t / 6) (t % 6) && canF E k (aft S (t / 6) (t % 6)))
def canE (E : En) (S : Nat → Nat) : Bool := canF E 40 S
def pot (p k : Nat) : Nat := if k = 0 then 0 else 2 * (3 - m_s k) + (if p = 4 then 1 else 2)
def phi (S : Nat → Nat) : Nat := s5 (fun p => pot p (S p))
theorem any30 (f : Nat → Nat → Bool) : (List.range 30).any (fun t => f (t / 6) (t % 6)) = true ↔ ∃ p, p < 5 ∧ ∃ q, q < 6 ∧ f p q = true := by
  rw [List.any_eq_true]
  constructor
  · rintro ⟨t, ht, h⟩
    have ht := List.mem_range.mp ht
    exact ⟨t / 6, by omega, t % 6, by omega, h⟩
  · rintro ⟨p, hp, q, hq, h⟩
    refine ⟨6 * p + q, List.mem_range.mpr (by omega), ?_⟩
    have e1 : (6 * p + q) / 6 = p := by omega
    have e2 : (6 * p + q) % 6 = q := by omega
    rw [e1, e2]
    exact h
theorem lead_q4 {d k p q : Nat} (h : leadN d k p q = true) (hq : q < 4) : k ≠ 0 := by
  intro hk
  subst hk
  unfold leadN homeN at h
  simp at h
  have : q ≠ 5 := by omega
  have : q ≠ 4 := by omega
  simp_all
theorem lead_44 {d k p q : Nat} (h : leadN d k p q = true) (hq : q = 4) : p ≠ 4 := by
  intro hp
  subst hp; subst hq
  unfold leadN homeN beyN backN at h
  simp at h
theorem mskN_pos {E : En} {r s : Nat} (h : mskN E r s ≠ 0) (hE : e_ok E) : s < 3 := by
  unfold mskN at h
  split at h
  · have := hE.1 r
    omega
  · exact absurd rfl h
theorem mskN_lt {E : En} {r s : Nat} (hE : e_ok E) : mskN E r s < 16 := by
  unfold mskN
  split
  · next h => exact (hE.2.1 r s h).2
  · omega
theorem pot_put {E : En} {S : Nat → Nat} {p q : Nat} (hE : e_ok E) (hp : p < 5) (hq : q < 5) (h : okN E S p q = true) : pot q (putM q (m_r (S p)) (m_s (S p))) < pot p (S p) := by
  unfold okN at h
  simp only [Bool.and_eq_true, bne_iff_ne, ne_eq] at h
  obtain ⟨⟨h1, -⟩, h3⟩ := h
  by_cases hq4 : q < 4
  · have hs := mskN_pos (lead_q4 h3 hq4) hE
    have hq' : q ≠ 4 := by omega
    simp only [pot, putM, hq4, hq', h1, if_true, if_false, m_r, m_s] at hs ⊢
    split <;> split <;> omega
  · have hq4 : q = 4 := by omega
    have hp4 := lead_44 h3 hq4
    subst hq4
    simp only [pot, putM, hp4, h1, if_true, if_false, m_r, m_s]
    (repeat' split) <;> omega
theorem phi_aft {E : En} {S : Nat → Nat} {p q : Nat} (hE : e_ok E) (hp : p < 5) (hq : q < 6) (h : okN E S p q = true) : phi (aft S p q) < phi S := by
  have hS : S p ≠ 0 := by
    unfold okN at h
    simp only [Bool.and_eq_true, bne_iff_ne, ne_eq] at h
    exact h.1.1
  have hfun : ∀ (T : Nat → Nat) (x v : Nat), (fun y => pot y (va_up T x v y)) = va_up (fun y => pot y (T y)) x (pot x v) := by
    intro T x v
    funext y
    by_cases hy : y = x
    · subst hy; simp [va_up]
    · simp [va_up, hy]
  have hp0 : 0 < pot p (S p) := by
    unfold pot
    rw [if_neg hS]
    split <;> omega
  have h0 : pot p 0 = 0 := by simp [pot]
  have e1 := s5_up (f := fun y => pot y (S y)) (v := pot p 0) hp
  rw [h0] at e1
  by_cases hq5 : q = 5
  · unfold aft phi
    rw [if_pos hq5, hfun, h0]
    omega
  · have hq4 : q < 5 := by omega
    unfold aft phi
    rw [if_neg hq5, hfun, hfun, h0]
    have e2 := s5_up (f := va_up (fun y => pot y (S y)) p 0) (v := pot q (putM q (m_r (S p)) (m_s (S p)))) hq4
    have e3 := pot_put hE hp hq4 h
    omega
theorem isZ_iff {S : Nat → Nat} : isZ S = true ↔ ∀ p, p < 5 → S p = 0 := by
  unfold isZ
  simp only [Bool.and_eq_true, beq_iff_eq]
  constructor
  · rintro ⟨⟨⟨⟨h0, h1⟩, h2⟩, h3⟩, h4⟩ p hp
    have h : p = 0 ∨ p = 1 ∨ p = 2 ∨ p = 3 ∨ p = 4 := by omega
    rcases h with rfl | rfl | rfl | rfl | rfl <;> assumption
  · intro h
    exact ⟨⟨⟨⟨h 0 (by omega), h 1 (by omega)⟩, h 2 (by omega)⟩, h 3 (by omega)⟩, h 4 (by omega)⟩
theorem phi_0 {S : Nat → Nat} (h : phi S = 0) : isZ S = true := by
  rw [isZ_iff]
  intro p hp
  have h1 := s5_ge (f := fun y => pot y (S y)) hp
  unfold phi at h
  rw [h] at h1
  by_cases h2 : S p = 0
  · exact h2
  · exfalso
    simp only [pot, h2, if_false] at h1
    split at h1 <;> omega
theorem can_stab {E : En} (hE : e_ok E) : ∀ (k : Nat) (S : Nat → Nat), phi S ≤ k → canF E (k + 1) S = canF E k S := by
  intro k
  induction k with
  | zero =>
    intro S h
    have hz := phi_0 (Nat.le_zero.mp h)
    simp [canF, hz]
  | succ k ih =>
    intro S h
    have e : ∀ t, t ∈ List.range 30 → (okN E S (t / 6) (t % 6) && canF E (k + 1) (aft S (t / 6) (t % 6))) = (okN E S (t / 6) (t % 6) && canF E k (aft S (t / 6) (t % 6))) := by
      intro t ht
      have ht := List.mem_range.mp ht
      cases hok : okN E S (t / 6) (t % 6) with
      | false => rfl
      | true =>
        have h2 := phi_aft hE (by omega : t / 6 < 5) (by omega : t % 6 < 6) hok
        rw [ih _ (by omega)]
    have e2 : (List.range 30).any (fun t => okN E S (t / 6) (t % 6) && canF E (k + 1) (aft S (t / 6) (t % 6))) = (List.range 30).any (fun t => okN E S (t / 6) (t % 6) && canF E k (aft S (t / 6) (t % 6))) := by
      rw [Bool.eq_iff_iff, List.any_eq_true, List.any_eq_true]
      constructor
      · rintro ⟨t, ht, h3⟩
        exact ⟨t, ht, by rw [← e t ht]; exact h3⟩
      · rintro ⟨t, ht, h3⟩
        exact ⟨t, ht, by rw [e t ht]; exact h3⟩
    rw [canF, canF, e2]
/-- a situation can be emptied: it is, or there is a way behind which it can -/
theorem canE_iff {E : En} (hE : e_ok E) {S : Nat → Nat} (h : phi S ≤ 40) : canE E S = true ↔ isZ S = true ∨ ∃ p, p < 5 ∧ ∃ q, q < 6 ∧ okN E S p q = true ∧ canE E (aft S p q) = true := by
  unfold canE
  rw [← can_stab hE 40 S h, canF, Bool.or_eq_true, any30 (fun p q => okN E S p q && canF E 40 (aft S p q))]
  simp only [Bool.and_eq_true]
/-- marks fit their bits -/
def fitS (S : Nat → Nat) : Prop := (∀ p, p < 4 → S p < 8) ∧ S 4 < 16 ∧ ∀ p, 5 ≤ p → S p = 0
theorem fit_aft {E : En} {S : Nat → Nat} {p q : Nat} (hE : e_ok E) (hS : fitS S) (hp : p < 5) (hq : q < 6) (h : okN E S p q = true) : fitS (aft S p q) := by
  unfold okN at h
  simp only [Bool.and_eq_true, bne_iff_ne, ne_eq] at h
  obtain ⟨-, h3⟩ := h
  obtain ⟨f1, f2, f3⟩ := hS
  have key : fitS (va_up S p 0) := by
    refine ⟨fun x hx => ?_, ?_, fun x hx => ?_⟩
    · by_cases e : x = p
      · simp [va_up, e]
      · simp [va_up, e]; exact f1 x hx
    · by_cases e : 4 = p
      · simp [va_up, e]
      · simp [va_up, e]; exact f2
    · have e : x ≠ p := by omega
      simp [va_up, e]; exact f3 x hx
  unfold aft
  by_cases hq5 : q = 5
  · rw [if_pos hq5]; exact key
  · rw [if_neg hq5]
    obtain ⟨g1, g2, g3⟩ := key
    have hv : putM q (m_r (S p)) (m_s (S p)) < 16 ∧ (q < 4 → putM q (m_r (S p)) (m_s (S p)) < 8) := by
      by_cases hq4 : q < 4
      · have hs := mskN_pos (lead_q4 h3 hq4) hE
        have hq' : q ≠ 4 := by omega
        simp only [putM, hq4, hq', if_true, if_false, m_r, m_s] at hs ⊢
        omega
      · have hq' : q = 4 := by omega
        subst hq'
        simp only [putM, if_true, m_r, m_s]
        simp
        omega
    refine ⟨fun x hx => ?_, ?_, fun x hx => ?_⟩
    · by_cases e : x = q
      · subst e; simp only [va_up, if_true]; exact hv.2 hx
      · rw [va_up_ne _ _ e]; exact g1 x hx
    · by_cases e : 4 = q
      · subst e; simp only [va_up, if_true]; exact hv.1
      · rw [va_up_ne _ _ e]; exact g2
    · have e : x ≠ q := by omega
      rw [va_up_ne _ _ e]; exact g3 x hx
/-- the class's number of a situation -/
def enc (S : Nat → Nat) : Nat := s5 (fun p => S p * 8 ^ p)
theorem enc_eq (S : Nat → Nat) : enc S = S 0 + 8 * S 1 + 64 * S 2 + 512 * S 3 + 4096 * S 4 := by
  simp only [enc, s5]
  omega
theorem enc_lt {S : Nat → Nat} (h : fitS S) : enc S < 65536 := by
  obtain ⟨h1, h2, -⟩ := h
  have a0 := h1 0 (by omega)
  have a1 := h1 1 (by omega)
  have a2 := h1 2 (by omega)
  have a3 := h1 3 (by omega)
  rw [enc_eq]
  omega
theorem enc_up {S : Nat → Nat} {q v : Nat} (hq : q < 5) : enc (va_up S q v) + S q * 8 ^ q = enc S + v * 8 ^ q := by
  have hfun : (fun p => va_up S q v p * 8 ^ p) = va_up (fun p => S p * 8 ^ p) q (v * 8 ^ q) := by
    funext y
    by_cases hy : y = q
    · subst hy; simp [va_up]
    · simp [va_up, hy]
  unfold enc
  rw [hfun]
  exact s5_up (f := fun p => S p * 8 ^ p) hq
/-- the marks of a number -/
def dig (c p : Nat) : Nat := if p < 4 then c / 8 ^ p % 8 else if p = 4 then c / 4096 % 16 else 0
theorem dig_enc {S : Nat → Nat} (h : fitS S) : dig (enc S) = S := by
  obtain ⟨h1, h2, h3⟩ := h
  have a0 := h1 0 (by omega)
  have a1 := h1 1 (by omega)
  have a2 := h1 2 (by omega)
  have a3 := h1 3 (by omega)
  funext p
  rw [enc_eq]
  by_cases hp : p < 5
  · have h : p = 0 ∨ p = 1 ∨ p = 2 ∨ p = 3 ∨ p = 4 := by omega
    rcases h with rfl | rfl | rfl | rfl | rfl <;> simp [dig] <;> omega
  · have e1 : ¬ p < 4 := by omega
    have e2 : ¬ p = 4 := by omega
    simp only [dig, e1, e2, if_false]
    exact (h3 p (by omega)).symm
theorem enc_dig {c : Nat} (h : c < 65536) : enc (dig c) = c := by
  rw [enc_eq]
  simp [dig]
  omega
theorem fit_dig (c : Nat) : fitS (dig c) := by
  refine ⟨fun p hp => ?_, ?_, fun p hp => ?_⟩
  · simp only [dig, hp, if_true]; omega
  · simp [dig]; omega
  · have e1 : ¬ p < 4 := by omega
    have e2 : ¬ p = 4 := by omega
    simp only [dig, e1, e2, if_false]
theorem enc_0 {S : Nat → Nat} : enc S = 0 ↔ isZ S = true := by
  rw [isZ_iff, enc_eq]
  constructor
  · intro h p hp
    have h : p = 0 ∨ p = 1 ∨ p = 2 ∨ p = 3 ∨ p = 4 := by omega
    rcases h with rfl | rfl | rfl | rfl | rfl <;> omega
  · intro h
    have a0 := h 0 (by omega)
    have a1 := h 1 (by omega)
    have a2 := h 2 (by omega)
    have a3 := h 3 (by omega)
    have a4 := h 4 (by omega)
    omega
end
section
/-! What the class keeps of its searches: a bit a situation. Own work. -/
def kb (K : Nat → Int64) (c : Nat) : Bool := (K (c / 64)).toBitVec.getLsbD (c % 64)
def bitL (j : Nat) : Int64 := (1 : Int64) <<< ((nI j).toInt64 &&& 63)
theorem bitL_tb : ∀ j, j < 64 → (bitL j).toBitVec = BitVec.twoPow 64 j := by decide +kernel
theorem i64_ext {x y : Int64} (h : x.toBitVec = y.toBitVec) : x = y := Int64.toBitVec_inj.mp h
theorem and_bit {w : Int64} {j : Nat} (hj : j < 64) : (w &&& bitL j) = 0 ↔ w.toBitVec.getLsbD j = false := by
  rw [← Int64.toBitVec_inj, Int64.toBitVec_and, bitL_tb j hj, BitVec.and_twoPow]
  cases h : w.toBitVec.getLsbD j
  · simp
  · simp only [if_true]
    constructor
    · intro h2
      exfalso
      have h3 := congrArg (fun b : BitVec 64 => b.getLsbD j) h2
      simp [BitVec.getLsbD_twoPow, hj] at h3
    · intro h2
      exact absurd h2 (by decide)
theorem kb_or {K : Nat → Int64} {c c' : Nat} : kb (vp_updL K (c / 64) (K (c / 64) ||| bitL (c % 64))) c' = (kb K c' || c' == c) := by
  unfold kb vp_updL
  by_cases h : c' / 64 = c / 64
  · rw [if_pos h, Int64.toBitVec_or, bitL_tb _ (by omega), BitVec.getLsbD_or, BitVec.getLsbD_twoPow, h]
    congr 1
    by_cases h2 : c' = c
    · subst h2
      have : c' % 64 < 64 := by omega
      simp [this]
    · have h3 : ¬ c % 64 = c' % 64 := by omega
      simp [h3, h2]
  · have h2 : c' ≠ c := fun e => h (by rw [e])
    rw [if_neg h]
    simp [h2]
theorem kb_or0 {K : Nat → Int64} {r : Nat} : vp_updL K r (K r ||| 0) = K := by
  funext j
  unfold vp_updL
  split
  · next h =>
    subst h
    apply i64_ext
    simp
  · rfl
/-- what is kept is true -/
def MI (E : En) (kn ps : Nat → Int64) : Prop := ∀ c, c < 65536 → kb ps c = (kb kn c && canE E (dig c))
theorem kb_zero {K : Nat → Int64} {c : Nat} (h : ∀ k, k < 1024 → K k = 0) (hc : c < 65536) : kb K c = false := by
  unfold kb
  rw [h (c / 64) (by omega)]
  simp
theorem MI_zero {E : En} {kn ps : Nat → Int64} (h1 : ∀ k, k < 1024 → kn k = 0) (h2 : ∀ k, k < 1024 → ps k = 0) : MI E kn ps := by
  intro c hc
  rw [kb_zero h1 hc, kb_zero h2 hc]
  rfl
/-- a new entry -/
theorem MI_add {E : En} {kn ps : Nat → Int64} {c : Nat} (h : MI E kn ps) (hc : c < 65536) (hk : kb kn c = false) (b : Bool) (hb : b = canE E (dig c)) :
    MI E (vp_updL kn (c / 64) (kn (c / 64) ||| bitL (c % 64))) (vp_updL ps (c / 64) (ps (c / 64) ||| (if b = true then bitL (c % 64) else 0))) := by
  intro c' hc'
  rw [kb_or]
  cases b with
  | true =>
    rw [if_pos rfl, kb_or, h c' hc']
    by_cases e : c' = c
    · subst e
      simp [← hb]
    · rw [show (c' == c) = false from beq_eq_false_iff_ne.mpr e]
      simp
  | false =>
    rw [if_neg (by decide), kb_or0, h c' hc']
    by_cases e : c' = c
    · subst e
      simp [← hb, hk]
    · rw [show (c' == c) = false from beq_eq_false_iff_ne.mpr e]
      simp
theorem row_ix {c : Nat} (hc : c < 65536) : (nI c >>> ((6 : Int32) &&& 31)) &&& 1023 = nI (c / 64) := by
  rw [pk_shrN (n := c) (by omega) _ 6 (by decide)]
  rw [pk_andN (n := c / 2 ^ 6) (by omega) (m := 1023) 10 (by decide)]
  congr 1
  omega
theorem bit_ix {c : Nat} (hc : c < 65536) : nI c &&& 63 = nI (c % 64) := pk_andN (n := c) (by omega) (m := 63) 6 (by decide)
theorem lcmp_0 {x : Int64} : lg_cmp x 0 = 0 ↔ x = 0 := by
  unfold lg_cmp
  constructor
  · intro h
    split at h
    · exact absurd h (by decide)
    · split at h
      · assumption
      · exact absurd h (by decide)
  · intro h
    subst h
    decide
end
section
/-! The reference's situations: digits below nine, and what the class sees of them. Own work. -/
def mkD (p d : Nat) : Nat := if d = 0 then 0 else d - 1 + (if p = 4 then 8 else 0)
def dnP (E : En) (p : Nat) : Bool := decide (p < 4) && (e_dn E).testBit p
def toS (E : En) (T : Nat → Nat) : Nat → Nat := fun p => if p < 5 then (if dnP E p then 0 else mkD p (T p)) else 0
/-- digits as they come up -/
def ok9 (E : En) (T : Nat → Nat) : Prop := ∀ p, p < 5 → T p < 9 ∧ (T p ≠ 0 → (T p - 1) % 4 ≤ e_len E ((T p - 1) / 4) ∧ (p < 4 → 1 ≤ (T p - 1) % 4))
def way9 (E : En) (r s p q : Nat) : Bool := leadN (e_dn E) (mskN E r s) p q
def free9 (T : Nat → Nat) (p q : Nat) : Bool := q == 5 || q == p || T q == 0
def mv9 (E : En) (T : Nat → Nat) (p q : Nat) : Bool := T p != 0 && free9 T p q && way9 E ((T p - 1) / 4) ((T p - 1) % 4) p q
def aft9 (T : Nat → Nat) (p q : Nat) : Nat → Nat := if q = 5 then va_up T p 0 else va_up (va_up T p 0) q (if q < 4 then T p + 1 else T p)
theorem lead_dn {E : En} {k p q : Nat} (hE : e_ok E) (h : leadN (e_dn E) k p q = true) : dnP E p = false ∧ dnP E q = false := by
  unfold leadN at h
  simp only [Bool.and_eq_true, Bool.not_eq_true'] at h
  unfold dnP
  rw [h.1.1.1, h.1.1.2]
  simp
theorem mkD_0 {E : En} {T : Nat → Nat} {p : Nat} (h : ok9 E T) (hp : p < 5) : mkD p (T p) = 0 ↔ T p = 0 := by
  unfold mkD
  constructor
  · intro h1
    by_cases h0 : T p = 0
    · exact h0
    · rw [if_neg h0] at h1
      have h2 := (h p hp).2 h0
      by_cases h4 : p = 4
      · rw [if_pos h4] at h1; omega
      · rw [if_neg h4] at h1
        have := h2.2 (by omega)
        omega
  · intro h1
    rw [if_pos h1]
theorem mkD_r {p d : Nat} (h0 : d ≠ 0) (h9 : d < 9) : m_r (mkD p d) = (d - 1) / 4 ∧ m_s (mkD p d) = (d - 1) % 4 := by
  unfold mkD
  rw [if_neg h0]
  simp only [m_r, m_s]
  split <;> omega
theorem okN_9 {E : En} {T : Nat → Nat} {p q : Nat} (hE : e_ok E) (h : ok9 E T) (hp : p < 5) (hq : q < 6) : okN E (toS E T) p q = mv9 E T p q := by
  unfold okN mv9
  by_cases hdp : dnP E p = true
  · have e1 : toS E T p = 0 := by simp [toS, hp, hdp]
    have e2 : way9 E ((T p - 1) / 4) ((T p - 1) % 4) p q = false := by
      cases hw : way9 E ((T p - 1) / 4) ((T p - 1) % 4) p q with
      | false => rfl
      | true =>
        have := (lead_dn hE hw).1
        rw [hdp] at this
        exact absurd this (by decide)
    rw [e1, e2]
    simp
  · have hdp : dnP E p = false := by simpa using hdp
    have e1 : toS E T p = mkD p (T p) := by simp [toS, hp, hdp]
    rw [e1]
    by_cases h0 : T p = 0
    · rw [(mkD_0 h hp).mpr h0, h0]
      simp
    · have hne : mkD p (T p) ≠ 0 := fun z => h0 ((mkD_0 h hp).mp z)
      obtain ⟨r1, r2⟩ := mkD_r (p := p) h0 (h p hp).1
      rw [r1, r2]
      show (_ != 0 && freeN (toS E T) p q && way9 E _ _ p q) = _
      cases hw : way9 E ((T p - 1) / 4) ((T p - 1) % 4) p q with
      | false => simp
      | true =>
        have hdq := (lead_dn hE hw).2
        have ef : freeN (toS E T) p q = free9 T p q := by
          unfold freeN free9
          by_cases hq5 : q = 5
          · simp [hq5]
          · have hq' : q < 5 := by omega
            have e3 : toS E T q = mkD q (T q) := by simp [toS, hq', hdq]
            rw [e3]
            congr 1
            rw [Bool.eq_iff_iff, beq_iff_eq, beq_iff_eq]
            exact mkD_0 h hq'
        rw [ef]
        have e4 : (mkD p (T p) != 0) = (T p != 0) := by
          rw [bne_iff_ne.mpr hne, bne_iff_ne.mpr h0]
        rw [e4]
theorem toS_up {E : En} {T : Nat → Nat} {q v : Nat} (hq : q < 5) (hd : dnP E q = false) : toS E (va_up T q v) = va_up (toS E T) q (mkD q v) := by
  funext x
  by_cases hx : x = q
  · subst hx
    simp [toS, va_up, hq, hd]
  · simp [toS, va_up, hx]
theorem aft_9 {E : En} {T : Nat → Nat} {p q : Nat} (hE : e_ok E) (h : ok9 E T) (hp : p < 5) (hq : q < 6) (hm : mv9 E T p q = true) : toS E (aft9 T p q) = aft (toS E T) p q := by
  unfold mv9 at hm
  simp only [Bool.and_eq_true, bne_iff_ne, ne_eq] at hm
  obtain ⟨⟨h0, -⟩, hw⟩ := hm
  obtain ⟨hdp, hdq⟩ := lead_dn hE hw
  have e1 : toS E T p = mkD p (T p) := by simp [toS, hp, hdp]
  obtain ⟨r1, r2⟩ := mkD_r (p := p) h0 (h p hp).1
  have m0 : mkD p 0 = 0 := by simp [mkD]
  unfold aft9 aft
  by_cases hq5 : q = 5
  · rw [if_pos hq5, if_pos hq5, toS_up hp hdp, m0]
  · have hq' : q < 5 := by omega
    rw [if_neg hq5, if_neg hq5, toS_up hq' hdq, toS_up hp hdp, m0, e1, r1, r2]
    congr 1
    unfold mkD putM
    by_cases hq4 : q < 4
    · rw [if_pos hq4, if_pos hq4, if_neg (by omega), if_neg (by omega)]
      omega
    · have : q = 4 := by omega
      subst this
      rw [if_neg hq4, if_neg hq4, if_neg h0, if_pos rfl]
      omega
theorem ok9_aft {E : En} {T : Nat → Nat} {p q : Nat} (hE : e_ok E) (h : ok9 E T) (hp : p < 5) (hq : q < 6) (hm : mv9 E T p q = true) : ok9 E (aft9 T p q) := by
  unfold mv9 at hm
  simp only [Bool.and_eq_true, bne_iff_ne, ne_eq] at hm
  obtain ⟨⟨h0, -⟩, hw⟩ := hm
  have key : ok9 E (va_up T p 0) := by
    intro x hx
    by_cases e : x = p
    · subst e
      simp [va_up]
    · rw [va_up_ne _ _ e]
      exact h x hx
  unfold aft9
  by_cases hq5 : q = 5
  · rw [if_pos hq5]
    exact key
  · rw [if_neg hq5]
    intro x hx
    by_cases e : x = q
    · subst e
      rw [va_up_self]
      obtain ⟨a1, a2⟩ := h p hp
      obtain ⟨a3, a4⟩ := a2 h0
      by_cases hq4 : x < 4
      · rw [if_pos hq4]
        have hk := lead_q4 hw hq4
        have hs := mskN_pos hk hE
        have hl : (T p - 1) % 4 < e_len E ((T p - 1) / 4) := by
          unfold mskN at hk
          split at hk
          · assumption
          · exact absurd rfl hk
        refine ⟨by omega, fun _ => ?_⟩
        have e1 : (T p + 1 - 1) / 4 = (T p - 1) / 4 := by omega
        have e2 : (T p + 1 - 1) % 4 = (T p - 1) % 4 + 1 := by omega
        rw [e1, e2]
        exact ⟨by omega, fun _ => by omega⟩
      · rw [if_neg hq4]
        exact ⟨a1, fun _ => ⟨a3, fun z => absurd z hq4⟩⟩
    · rw [va_up_ne _ _ e]
      exact key x hx
/-- nothing but what is in chambers that are down -/
def isE9 (E : En) (T : Nat → Nat) : Bool := (T 0 == 0 || dnP E 0) && (T 1 == 0 || dnP E 1) && (T 2 == 0 || dnP E 2) && (T 3 == 0 || dnP E 3) && (T 4 == 0 || dnP E 4)
theorem isE9_Z {E : En} {T : Nat → Nat} (h : ok9 E T) : isE9 E T = isZ (toS E T) := by
  have key : ∀ p, p < 5 → (T p == 0 || dnP E p) = (toS E T p == 0) := by
    intro p hp
    cases hd : dnP E p with
    | true => simp [toS, hp, hd]
    | false =>
      have e1 : toS E T p = mkD p (T p) := by simp [toS, hp, hd]
      rw [e1, Bool.or_false, Bool.eq_iff_iff, beq_iff_eq, beq_iff_eq]
      exact (mkD_0 h hp).symm
  unfold isE9 isZ
  rw [key 0 (by omega), key 1 (by omega), key 2 (by omega), key 3 (by omega), key 4 (by omega)]
def enc9 (T : Nat → Nat) : Nat := s5 (fun p => T p * 9 ^ p)
theorem enc9_eq (T : Nat → Nat) : enc9 T = T 0 + 9 * T 1 + 81 * T 2 + 729 * T 3 + 6561 * T 4 := by
  simp only [enc9, s5]
  omega
def dig9 (c p : Nat) : Nat := if p < 5 then c / 9 ^ p % 9 else 0
theorem dig9_enc {T : Nat → Nat} (h : ∀ p, p < 5 → T p < 9) (h5 : ∀ p, 5 ≤ p → T p = 0) : dig9 (enc9 T) = T := by
  have a0 := h 0 (by omega)
  have a1 := h 1 (by omega)
  have a2 := h 2 (by omega)
  have a3 := h 3 (by omega)
  have a4 := h 4 (by omega)
  funext p
  rw [enc9_eq]
  by_cases hp : p < 5
  · have h : p = 0 ∨ p = 1 ∨ p = 2 ∨ p = 3 ∨ p = 4 := by omega
    rcases h with rfl | rfl | rfl | rfl | rfl <;> simp [dig9] <;> omega
  · simp only [dig9, hp, if_false]
    exact (h5 p (by omega)).symm
theorem enc9_lt {T : Nat → Nat} (h : ∀ p, p < 5 → T p < 9) : enc9 T < 59049 := by
  have a0 := h 0 (by omega)
  have a1 := h 1 (by omega)
  have a2 := h 2 (by omega)
  have a3 := h 3 (by omega)
  have a4 := h 4 (by omega)
  rw [enc9_eq]
  omega
theorem enc9_up {T : Nat → Nat} {q v : Nat} (hq : q < 5) : enc9 (va_up T q v) + T q * 9 ^ q = enc9 T + v * 9 ^ q := by
  have hfun : (fun p => va_up T q v p * 9 ^ p) = va_up (fun p => T p * 9 ^ p) q (v * 9 ^ q) := by
    funext y
    by_cases hy : y = q
    · subst hy; simp [va_up]
    · simp [va_up, hy]
  unfold enc9
  rw [hfun]
  exact s5_up (f := fun p => T p * 9 ^ p) hq
end
section
/-! What class and reference share: the invariant, and the answers. Own work. -/
def envA (A : St) : En := (sA_len A, sA_mk A, sA_dn A)
def fresh (A : St) (i : Nat) : Prop := sA_rt A i = 0 ∧ sA_pl A i = 0 ∧ sA_sg A i = 0 ∧ sA_lf A i = 0 ∧ sA_sn A i = 0 ∧ sA_la A i = false ∧ sA_ch A i = (fun _ => 0) ∧ sA_be A i = (fun _ => 0) ∧ sA_en A i = (fun _ => 0)
/-- a wafer as it may be -/
def wOk (A : St) (i : Nat) : Prop := sA_rt A i < 2 ∧ sA_sg A i ≤ sA_len A (sA_rt A i) ∧ sA_pl A i ≤ 5 ∧ sA_lf A i ≤ 100 ∧ (sA_pl A i < 4 → 1 ≤ sA_sg A i) ∧ (0 < sA_lf A i → sA_pl A i < 4 ∧ sA_en A i (sA_sg A i - 1) = -1) ∧
  (sA_pl A i < 4 → sA_la A i = false → sA_lm A (sA_rt A i) (sA_sg A i - 1) = 0 ∨ sA_sn A i ≤ sA_lm A (sA_rt A i) (sA_sg A i - 1))
def rOk (A : St) : Prop := (∀ r, sA_len A r ≤ 3) ∧ (∀ r i, i < sA_len A r → 1 ≤ sA_mk A r i ∧ sA_mk A r i < 16 ∧ 1 ≤ sA_tm A r i ∧ sA_tm A r i ≤ 100 ∧ sA_lm A r i ≤ 100) ∧ sA_dn A < 16
def uniq (A : St) : Prop := ∀ i j, i < sA_n A → j < sA_n A → sA_pl A i = sA_pl A j → sA_pl A i < 5 → i = j
def Inv (A : St) : Prop := sA_n A ≤ 25 ∧ rOk A ∧ (∀ i, i < sA_n A → wOk A i) ∧ uniq A ∧ ∀ i, sA_n A ≤ i → fresh A i
theorem env_ok {A : St} (h : rOk A) : e_ok (envA A) := ⟨h.1, fun r i hi => ⟨(h.2.1 r i hi).1, (h.2.1 r i hi).2.1⟩, h.2.2⟩
/-- which wafer, which place a number names -/
def widx (A : St) (x : Int32) : Option Nat := if 0 ≤ x ∧ x < nI (sA_n A) then some x.toNatClampNeg else none
def pidx (y : Int32) : Option Nat := if 0 ≤ y ∧ y ≤ 5 then some y.toNatClampNeg else none
theorem i32_nat {x : Int32} (h : 0 ≤ x) : ∃ j : Nat, j < 2 ^ 31 ∧ x = nI j := nI_of (by
  intro h2
  rw [Int32.lt_iff_toInt_lt] at h2
  rw [Int32.le_iff_toInt_le] at h
  omega)
theorem widx_some {A : St} {x : Int32} {i : Nat} (h : widx A x = some i) (hn : sA_n A ≤ 25) : i < sA_n A ∧ x = nI i := by
  unfold widx at h
  split at h
  · next hc =>
    obtain ⟨j, hj, rfl⟩ := i32_nat hc.1
    rw [nI_clamp hj] at h
    cases h
    exact ⟨(nI_ltI hj (by omega)).mp hc.2, rfl⟩
  · cases h
theorem widx_nI {A : St} {i : Nat} (hi : i < sA_n A) (hn : sA_n A ≤ 25) : widx A (nI i) = some i := by
  unfold widx
  rw [if_pos ⟨nI_pos' (by omega), nI_lt hi (by omega)⟩, nI_clamp (by omega)]
theorem pidx_some {y : Int32} {q : Nat} (h : pidx y = some q) : q < 6 ∧ y = nI q := by
  unfold pidx at h
  split at h
  · next hc =>
    obtain ⟨j, hj, rfl⟩ := i32_nat hc.1
    rw [nI_clamp hj] at h
    cases h
    have := (nI_leI (a := q) (b := 5) hj (by omega)).mp hc.2
    exact ⟨by omega, rfl⟩
  · cases h
theorem pidx_nI {q : Nat} (hq : q < 6) : pidx (nI q) = some q := by
  unfold pidx
  rw [if_pos ⟨nI_pos' (by omega), nI_le (a := q) (b := 5) (by omega) (by omega)⟩, nI_clamp (by omega)]
/-- who is in a place, of the first k wafers -/
def occ (A : St) (p : Nat) : Nat → Int32
  | 0 => -1
  | k + 1 => if sA_pl A k = p then nI k else occ A p k
def inP (A : St) (p : Nat) : Int32 := if p < 5 then occ A p (sA_n A) else -1
theorem occ_none {A : St} {p : Nat} : ∀ {k : Nat}, (∀ i, i < k → sA_pl A i ≠ p) → occ A p k = -1
  | 0, _ => rfl
  | k + 1, h => by
    unfold occ
    rw [if_neg (h k (by omega))]
    exact occ_none (fun i hi => h i (by omega))
theorem occ_some {A : St} {p i : Nat} (hp : sA_pl A i = p) : ∀ {k : Nat}, i < k → (∀ j, j < k → sA_pl A j = p → j = i) → occ A p k = nI i
  | 0, h, _ => by omega
  | k + 1, h, hu => by
    unfold occ
    by_cases hk : sA_pl A k = p
    · rw [if_pos hk, hu k (by omega) hk]
    · rw [if_neg hk]
      have : i ≠ k := fun e => hk (e ▸ hp)
      exact occ_some hp (by omega) (fun j hj => hu j (by omega))
theorem inP_cases {A : St} {p : Nat} (hu : uniq A) (hp : p < 5) : (inP A p = -1 ∧ ∀ i, i < sA_n A → sA_pl A i ≠ p) ∨ ∃ i, i < sA_n A ∧ sA_pl A i = p ∧ inP A p = nI i := by
  unfold inP
  rw [if_pos hp]
  by_cases h : ∃ i, i < sA_n A ∧ sA_pl A i = p
  · obtain ⟨i, hi, hpi⟩ := h
    exact Or.inr ⟨i, hi, hpi, occ_some hpi hi (fun j hj hpj => hu j i hj hi (hpj.trans hpi.symm) (by omega))⟩
  · refine Or.inl ⟨occ_none (fun i hi hpi => h ⟨i, hi, hpi⟩), fun i hi hpi => h ⟨i, hi, hpi⟩⟩
theorem inP_at {A : St} {i : Nat} (hu : uniq A) (hi : i < sA_n A) (hp : sA_pl A i < 5) : inP A (sA_pl A i) = nI i := by
  unfold inP
  rw [if_pos hp]
  exact occ_some rfl hi (fun j hj hpj => hu j i hj hi hpj (by omega))
/-- the digit of a wafer; the situation as digits -/
def dgt (A : St) (i : Nat) : Nat := 1 + 4 * sA_rt A i + sA_sg A i
def sitK (A : St) : Nat → Nat → Nat
  | 0, _ => 0
  | k + 1, p => if sA_pl A k = p ∧ p < 5 then dgt A k else sitK A k p
def sit9 (A : St) : Nat → Nat := sitK A (sA_n A)
theorem sitK_5 {A : St} {p : Nat} (hp : ¬ p < 5) : ∀ k, sitK A k p = 0
  | 0 => rfl
  | k + 1 => by
    unfold sitK
    rw [if_neg (fun h => hp h.2)]
    exact sitK_5 hp k
theorem sitK_none {A : St} {p : Nat} : ∀ {k : Nat}, (∀ i, i < k → sA_pl A i ≠ p) → sitK A k p = 0
  | 0, _ => rfl
  | k + 1, h => by
    unfold sitK
    rw [if_neg (fun z => h k (by omega) z.1)]
    exact sitK_none (fun i hi => h i (by omega))
theorem sitK_some {A : St} {p i : Nat} (hp : sA_pl A i = p) (h5 : p < 5) : ∀ {k : Nat}, i < k → (∀ j, j < k → sA_pl A j = p → j = i) → sitK A k p = dgt A i
  | 0, h, _ => by omega
  | k + 1, h, hu => by
    unfold sitK
    by_cases hk : sA_pl A k = p
    · rw [if_pos ⟨hk, h5⟩, hu k (by omega) hk]
    · rw [if_neg (fun z => hk z.1)]
      have : i ≠ k := fun e => hk (e ▸ hp)
      exact sitK_some hp h5 (by omega) (fun j hj => hu j (by omega))
theorem sit9_cases {A : St} {p : Nat} (hu : uniq A) (hp : p < 5) : (sit9 A p = 0 ∧ inP A p = -1) ∨ ∃ i, i < sA_n A ∧ sA_pl A i = p ∧ sit9 A p = dgt A i ∧ inP A p = nI i := by
  rcases inP_cases hu hp with ⟨h1, h2⟩ | ⟨i, hi, hpi, h⟩
  · exact Or.inl ⟨sitK_none h2, h1⟩
  · exact Or.inr ⟨i, hi, hpi, sitK_some hpi hp hi (fun j hj hpj => hu j i hj hi (hpj.trans hpi.symm) (by omega)), h⟩
theorem ok9_sit {A : St} (h : Inv A) : ok9 (envA A) (sit9 A) := by
  obtain ⟨-, hr, hw, hu, -⟩ := h
  intro p hp
  rcases sit9_cases hu hp with ⟨h1, -⟩ | ⟨i, hi, hpi, h1, -⟩
  · rw [h1]
    exact ⟨by omega, fun z => absurd rfl z⟩
  · rw [h1]
    obtain ⟨w1, w2, w3, w4, w5, -⟩ := hw i hi
    have hl := hr.1 (sA_rt A i)
    unfold dgt
    refine ⟨by omega, fun _ => ?_⟩
    have e1 : (1 + 4 * sA_rt A i + sA_sg A i - 1) / 4 = sA_rt A i := by omega
    have e2 : (1 + 4 * sA_rt A i + sA_sg A i - 1) % 4 = sA_sg A i := by omega
    rw [e1, e2]
    exact ⟨w2, fun h4 => w5 (by omega)⟩
/-- the situation behind a move of wafer i to q -/
def sitAft (A : St) (i q : Nat) : Nat → Nat :=
  let S := if sA_pl A i < 5 then va_up (sit9 A) (sA_pl A i) 0 else sit9 A
  if q = 5 then S else va_up S q (if q < 4 then dgt A i + 1 else dgt A i)
def safeF (A : St) : Bool := canE (envA A) (toS (envA A) (sit9 A))
def busyF (A : St) (p q : Nat) : Bool := if backN p || backN q then sA_bb A else sA_fb A
def fin (A : St) (i : Nat) : Bool := sA_pl A i == 5 && sA_sg A i == sA_len A (sA_rt A i)
def mayN (A : St) (i q : Nat) : Int32 :=
  if 0 < sA_lf A i ∨ fin A i = true then 1
  else if leadN (sA_dn A) (mskN (envA A) (sA_rt A i) (sA_sg A i)) (sA_pl A i) q = false then 2
  else if q ≠ sA_pl A i ∧ inP A q ≠ -1 then 3
  else if canE (envA A) (toS (envA A) (sitAft A i q)) = false then 4
  else if busyF A (sA_pl A i) q = true then 5 else 0
def mayF (A : St) (x y : Int32) : Int32 := oc (widx A x) (-1) (fun i => oc (pidx y) (-1) (fun q => mayN A i q))
end
section
/-! What ticks do. Own work. -/
def act (A : St) (i : Nat) : Bool := decide (i < sA_n A) && decide (sA_pl A i < 4) && !((sA_dn A).testBit (sA_pl A i))
def lmt (A : St) (i : Nat) : Nat := sA_lm A (sA_rt A i) (sA_sg A i - 1)
def tkLf (A : St) (t i : Nat) : Nat := if act A i = true then sA_lf A i - t else sA_lf A i
def tkSn (A : St) (t i : Nat) : Nat := if act A i = true then sA_sn A i + (t - sA_lf A i) else sA_sn A i
def tkEn (A : St) (t i : Nat) : Nat → Int32 := if act A i = true ∧ 0 < sA_lf A i ∧ sA_lf A i ≤ t then upd (sA_en A i) (sA_sg A i - 1) (sA_ck A + nI (sA_lf A i)) else sA_en A i
def tkLa (A : St) (t i : Nat) : Bool := sA_la A i || (act A i && decide (0 < lmt A i) && decide (lmt A i < tkSn A t i))
/-- wafers that m says have gone through t' ticks, the others through t -/
def mix (A : St) (m : Nat → Bool) (t' t : Nat) (k : Int32) : St :=
  sU_ck (sU_la (sU_en (sU_sn (sU_lf A (fun i => if m i = true then tkLf A t' i else tkLf A t i)) (fun i => if m i = true then tkSn A t' i else tkSn A t i)) (fun i => if m i = true then tkEn A t' i else tkEn A t i)) (fun i => if m i = true then tkLa A t' i else tkLa A t i)) k
def tickA (A : St) (t : Nat) : St := mix A (fun _ => true) t t (sA_ck A + nI t)
/-- how many of the first k -/
def cnt (f : Nat → Bool) : Nat → Nat
  | 0 => 0
  | k + 1 => cnt f k + (if f k = true then 1 else 0)
theorem cnt_congr {f g : Nat → Bool} : ∀ {k : Nat}, (∀ i, i < k → f i = g i) → cnt f k = cnt g k
  | 0, _ => rfl
  | k + 1, h => by
    unfold cnt
    rw [h k (by omega), cnt_congr (fun i hi => h i (by omega))]
/-- one place is changed -/
theorem cnt_up {f g : Nat → Bool} {j : Nat} : ∀ {k : Nat}, j < k → (∀ i, i < k → i ≠ j → f i = g i) → f j = false → cnt g k = cnt f k + (if g j = true then 1 else 0)
  | 0, h, _, _ => by omega
  | k + 1, h, hfg, hj => by
    unfold cnt
    by_cases e : k = j
    · subst e
      rw [hj, cnt_congr (f := g) (g := f) (fun i hi => (hfg i (by omega) (by omega)).symm)]
      simp
    · rw [cnt_up (f := f) (g := g) (j := j) (by omega) (fun i hi hne => hfg i (by omega) hne) hj, hfg k (by omega) e]
      omega
def becF (A : St) (t : Nat) : Nat := cnt (fun i => tkLa A t i && !(sA_la A i)) (sA_n A)
theorem cnt_le (f : Nat → Bool) : ∀ k, cnt f k ≤ k
  | 0 => Nat.le_refl _
  | k + 1 => by
    unfold cnt
    have := cnt_le f k
    split <;> omega
theorem tk_0 {A : St} (h : Inv A) : tkLf A 0 = sA_lf A ∧ tkSn A 0 = sA_sn A ∧ tkEn A 0 = sA_en A ∧ tkLa A 0 = sA_la A := by
  refine ⟨?_, ?_, ?_, ?_⟩
  · funext i
    unfold tkLf
    split <;> omega
  · funext i
    unfold tkSn
    split <;> omega
  · funext i
    unfold tkEn
    rw [if_neg (by omega)]
  · funext i
    unfold tkLa
    cases hl : sA_la A i with
    | true => rfl
    | false =>
      cases ha : act A i with
      | false => rfl
      | true =>
        have hi : i < sA_n A ∧ sA_pl A i < 4 := by
          unfold act at ha
          simp at ha
          exact ha.1
        have hw := (h.2.2.1 i hi.1).2.2.2.2.2.2 hi.2 hl
        have hs : tkSn A 0 i = sA_sn A i := by
          unfold tkSn
          split <;> omega
        rw [hs]
        unfold lmt
        simp
        omega
end
section
theorem d_E_init_0 : decode b_E_init 0 = .ok (.aload_n 0, 1) := by decide +kernel
theorem d_E_init_1 : decode b_E_init 1 = .ok (.invokespecial 3, 3) := by decide +kernel
theorem d_E_init_4 : decode b_E_init 4 = .ok (.aload_n 0, 1) := by decide +kernel
theorem d_E_init_5 : decode b_E_init 5 = .ok (.sipush 1024, 3) := by decide +kernel
theorem d_E_init_8 : decode b_E_init 8 = .ok (.newarray .long, 2) := by decide +kernel
theorem d_E_init_10 : decode b_E_init 10 = .ok (.putfield 11, 3) := by decide +kernel
theorem d_E_init_13 : decode b_E_init 13 = .ok (.aload_n 0, 1) := by decide +kernel
theorem d_E_init_14 : decode b_E_init 14 = .ok (.sipush 1024, 3) := by decide +kernel
theorem d_E_init_17 : decode b_E_init 17 = .ok (.newarray .long, 2) := by decide +kernel
theorem d_E_init_19 : decode b_E_init 19 = .ok (.putfield 15, 3) := by decide +kernel
theorem d_E_init_22 : decode b_E_init 22 = .ok (.return_, 1) := by decide +kernel
theorem d_E_forget_0 : decode b_E_forget 0 = .ok (.aload_n 0, 1) := by decide +kernel
theorem d_E_forget_1 : decode b_E_forget 1 = .ok (.getfield 11, 3) := by decide +kernel
theorem d_E_forget_4 : decode b_E_forget 4 = .ok (.lconst 0, 1) := by decide +kernel
theorem d_E_forget_5 : decode b_E_forget 5 = .ok (.invokestatic 18, 3) := by decide +kernel
theorem d_E_forget_8 : decode b_E_forget 8 = .ok (.aload_n 0, 1) := by decide +kernel
theorem d_E_forget_9 : decode b_E_forget 9 = .ok (.getfield 15, 3) := by decide +kernel
theorem d_E_forget_12 : decode b_E_forget 12 = .ok (.lconst 0, 1) := by decide +kernel
theorem d_E_forget_13 : decode b_E_forget 13 = .ok (.invokestatic 18, 3) := by decide +kernel
theorem d_E_forget_16 : decode b_E_forget 16 = .ok (.return_, 1) := by decide +kernel
theorem d_E_search_0 : decode b_E_search 0 = .ok (.iload_n 2, 1) := by decide +kernel
theorem d_E_search_1 : decode b_E_search 1 = .ok (.ifCond .ne 5, 3) := by decide +kernel
theorem d_E_search_4 : decode b_E_search 4 = .ok (.iconst 1, 1) := by decide +kernel
theorem d_E_search_5 : decode b_E_search 5 = .ok (.ireturn, 1) := by decide +kernel
theorem d_E_search_6 : decode b_E_search 6 = .ok (.iload_n 3, 1) := by decide +kernel
theorem d_E_search_7 : decode b_E_search 7 = .ok (.bipush 35, 2) := by decide +kernel
theorem d_E_search_9 : decode b_E_search 9 = .ok (.if_icmp .lt 5, 3) := by decide +kernel
theorem d_E_search_12 : decode b_E_search 12 = .ok (.iconst 0, 1) := by decide +kernel
theorem d_E_search_13 : decode b_E_search 13 = .ok (.ireturn, 1) := by decide +kernel
theorem d_E_search_14 : decode b_E_search 14 = .ok (.iload_n 2, 1) := by decide +kernel
theorem d_E_search_15 : decode b_E_search 15 = .ok (.bipush 6, 2) := by decide +kernel
theorem d_E_search_17 : decode b_E_search 17 = .ok (.ishr, 1) := by decide +kernel
theorem d_E_search_18 : decode b_E_search 18 = .ok (.sipush 1023, 3) := by decide +kernel
theorem d_E_search_21 : decode b_E_search 21 = .ok (.iand, 1) := by decide +kernel
theorem d_E_search_22 : decode b_E_search 22 = .ok (.istore 4, 2) := by decide +kernel
theorem d_E_search_24 : decode b_E_search 24 = .ok (.lconst 1, 1) := by decide +kernel
theorem d_E_search_25 : decode b_E_search 25 = .ok (.iload_n 2, 1) := by decide +kernel
theorem d_E_search_26 : decode b_E_search 26 = .ok (.bipush 63, 2) := by decide +kernel
theorem d_E_search_28 : decode b_E_search 28 = .ok (.iand, 1) := by decide +kernel
theorem d_E_search_29 : decode b_E_search 29 = .ok (.lshl, 1) := by decide +kernel
theorem d_E_search_30 : decode b_E_search 30 = .ok (.lstore 5, 2) := by decide +kernel
theorem d_E_search_32 : decode b_E_search 32 = .ok (.aload_n 0, 1) := by decide +kernel
theorem d_E_search_33 : decode b_E_search 33 = .ok (.getfield 11, 3) := by decide +kernel
theorem d_E_search_36 : decode b_E_search 36 = .ok (.iload 4, 2) := by decide +kernel
theorem d_E_search_38 : decode b_E_search 38 = .ok (.laload, 1) := by decide +kernel
theorem d_E_search_39 : decode b_E_search 39 = .ok (.lload 5, 2) := by decide +kernel
theorem d_E_search_41 : decode b_E_search 41 = .ok (.land, 1) := by decide +kernel
theorem d_E_search_42 : decode b_E_search 42 = .ok (.lconst 0, 1) := by decide +kernel
theorem d_E_search_43 : decode b_E_search 43 = .ok (.lcmp, 1) := by decide +kernel
theorem d_E_search_44 : decode b_E_search 44 = .ok (.ifCond .ne 45, 3) := by decide +kernel
theorem d_E_search_47 : decode b_E_search 47 = .ok (.aload_n 0, 1) := by decide +kernel
theorem d_E_search_48 : decode b_E_search 48 = .ok (.aload_n 1, 1) := by decide +kernel
theorem d_E_search_49 : decode b_E_search 49 = .ok (.iload_n 2, 1) := by decide +kernel
theorem d_E_search_50 : decode b_E_search 50 = .ok (.iload_n 3, 1) := by decide +kernel
theorem d_E_search_51 : decode b_E_search 51 = .ok (.invokevirtual 24, 3) := by decide +kernel
theorem d_E_search_54 : decode b_E_search 54 = .ok (.istore 7, 2) := by decide +kernel
theorem d_E_search_56 : decode b_E_search 56 = .ok (.aload_n 0, 1) := by decide +kernel
theorem d_E_search_57 : decode b_E_search 57 = .ok (.getfield 11, 3) := by decide +kernel
theorem d_E_search_60 : decode b_E_search 60 = .ok (.iload 4, 2) := by decide +kernel
theorem d_E_search_62 : decode b_E_search 62 = .ok (.dup2, 1) := by decide +kernel
theorem d_E_search_63 : decode b_E_search 63 = .ok (.laload, 1) := by decide +kernel
theorem d_E_search_64 : decode b_E_search 64 = .ok (.lload 5, 2) := by decide +kernel
theorem d_E_search_66 : decode b_E_search 66 = .ok (.lor, 1) := by decide +kernel
theorem d_E_search_67 : decode b_E_search 67 = .ok (.lastore, 1) := by decide +kernel
theorem d_E_search_68 : decode b_E_search 68 = .ok (.aload_n 0, 1) := by decide +kernel
theorem d_E_search_69 : decode b_E_search 69 = .ok (.getfield 15, 3) := by decide +kernel
theorem d_E_search_72 : decode b_E_search 72 = .ok (.iload 4, 2) := by decide +kernel
theorem d_E_search_74 : decode b_E_search 74 = .ok (.dup2, 1) := by decide +kernel
theorem d_E_search_75 : decode b_E_search 75 = .ok (.laload, 1) := by decide +kernel
theorem d_E_search_76 : decode b_E_search 76 = .ok (.iload 7, 2) := by decide +kernel
theorem d_E_search_78 : decode b_E_search 78 = .ok (.ifCond .eq 8, 3) := by decide +kernel
theorem d_E_search_81 : decode b_E_search 81 = .ok (.lload 5, 2) := by decide +kernel
theorem d_E_search_83 : decode b_E_search 83 = .ok (.goto 4, 3) := by decide +kernel
theorem d_E_search_86 : decode b_E_search 86 = .ok (.lconst 0, 1) := by decide +kernel
theorem d_E_search_87 : decode b_E_search 87 = .ok (.lor, 1) := by decide +kernel
theorem d_E_search_88 : decode b_E_search 88 = .ok (.lastore, 1) := by decide +kernel
theorem d_E_search_89 : decode b_E_search 89 = .ok (.aload_n 0, 1) := by decide +kernel
theorem d_E_search_90 : decode b_E_search 90 = .ok (.getfield 15, 3) := by decide +kernel
theorem d_E_search_93 : decode b_E_search 93 = .ok (.iload 4, 2) := by decide +kernel
theorem d_E_search_95 : decode b_E_search 95 = .ok (.laload, 1) := by decide +kernel
theorem d_E_search_96 : decode b_E_search 96 = .ok (.lload 5, 2) := by decide +kernel
theorem d_E_search_98 : decode b_E_search 98 = .ok (.land, 1) := by decide +kernel
theorem d_E_search_99 : decode b_E_search 99 = .ok (.lconst 0, 1) := by decide +kernel
theorem d_E_search_100 : decode b_E_search 100 = .ok (.lcmp, 1) := by decide +kernel
theorem d_E_search_101 : decode b_E_search 101 = .ok (.ifCond .eq 7, 3) := by decide +kernel
theorem d_E_search_104 : decode b_E_search 104 = .ok (.iconst 1, 1) := by decide +kernel
theorem d_E_search_105 : decode b_E_search 105 = .ok (.goto 4, 3) := by decide +kernel
theorem d_E_search_108 : decode b_E_search 108 = .ok (.iconst 0, 1) := by decide +kernel
theorem d_E_search_109 : decode b_E_search 109 = .ok (.ireturn, 1) := by decide +kernel
theorem d_E_searchMoves_0 : decode b_E_searchMoves 0 = .ok (.iconst 5, 1) := by decide +kernel
theorem d_E_searchMoves_1 : decode b_E_searchMoves 1 = .ok (.istore 4, 2) := by decide +kernel
theorem d_E_searchMoves_3 : decode b_E_searchMoves 3 = .ok (.iload 4, 2) := by decide +kernel
theorem d_E_searchMoves_5 : decode b_E_searchMoves 5 = .ok (.ifCond .lt 102, 3) := by decide +kernel
theorem d_E_searchMoves_8 : decode b_E_searchMoves 8 = .ok (.iconst 0, 1) := by decide +kernel
theorem d_E_searchMoves_9 : decode b_E_searchMoves 9 = .ok (.istore 5, 2) := by decide +kernel
theorem d_E_searchMoves_11 : decode b_E_searchMoves 11 = .ok (.iload 5, 2) := by decide +kernel
theorem d_E_searchMoves_13 : decode b_E_searchMoves 13 = .ok (.iconst 4, 1) := by decide +kernel
theorem d_E_searchMoves_14 : decode b_E_searchMoves 14 = .ok (.if_icmp .gt 87, 3) := by decide +kernel
theorem d_E_searchMoves_17 : decode b_E_searchMoves 17 = .ok (.iload_n 2, 1) := by decide +kernel
theorem d_E_searchMoves_18 : decode b_E_searchMoves 18 = .ok (.iload 5, 2) := by decide +kernel
theorem d_E_searchMoves_20 : decode b_E_searchMoves 20 = .ok (.invokestatic 28, 3) := by decide +kernel
theorem d_E_searchMoves_23 : decode b_E_searchMoves 23 = .ok (.istore 6, 2) := by decide +kernel
theorem d_E_searchMoves_25 : decode b_E_searchMoves 25 = .ok (.iload 6, 2) := by decide +kernel
theorem d_E_searchMoves_27 : decode b_E_searchMoves 27 = .ok (.invokestatic 34, 3) := by decide +kernel
theorem d_E_searchMoves_30 : decode b_E_searchMoves 30 = .ok (.istore 7, 2) := by decide +kernel
theorem d_E_searchMoves_32 : decode b_E_searchMoves 32 = .ok (.iload 6, 2) := by decide +kernel
theorem d_E_searchMoves_34 : decode b_E_searchMoves 34 = .ok (.invokestatic 38, 3) := by decide +kernel
theorem d_E_searchMoves_37 : decode b_E_searchMoves 37 = .ok (.istore 8, 2) := by decide +kernel
theorem d_E_searchMoves_39 : decode b_E_searchMoves 39 = .ok (.iload 6, 2) := by decide +kernel
theorem d_E_searchMoves_41 : decode b_E_searchMoves 41 = .ok (.ifCond .eq 54, 3) := by decide +kernel
theorem d_E_searchMoves_44 : decode b_E_searchMoves 44 = .ok (.iload_n 2, 1) := by decide +kernel
theorem d_E_searchMoves_45 : decode b_E_searchMoves 45 = .ok (.iload 5, 2) := by decide +kernel
theorem d_E_searchMoves_47 : decode b_E_searchMoves 47 = .ok (.iload 4, 2) := by decide +kernel
theorem d_E_searchMoves_49 : decode b_E_searchMoves 49 = .ok (.invokestatic 41, 3) := by decide +kernel
theorem d_E_searchMoves_52 : decode b_E_searchMoves 52 = .ok (.ifCond .eq 43, 3) := by decide +kernel
theorem d_E_searchMoves_55 : decode b_E_searchMoves 55 = .ok (.aload_n 1, 1) := by decide +kernel
theorem d_E_searchMoves_56 : decode b_E_searchMoves 56 = .ok (.iload 7, 2) := by decide +kernel
theorem d_E_searchMoves_58 : decode b_E_searchMoves 58 = .ok (.iload 8, 2) := by decide +kernel
theorem d_E_searchMoves_60 : decode b_E_searchMoves 60 = .ok (.iload 5, 2) := by decide +kernel
theorem d_E_searchMoves_62 : decode b_E_searchMoves 62 = .ok (.iload 4, 2) := by decide +kernel
theorem d_E_searchMoves_64 : decode b_E_searchMoves 64 = .ok (.invokevirtual 45, 3) := by decide +kernel
theorem d_E_searchMoves_67 : decode b_E_searchMoves 67 = .ok (.ifCond .eq 28, 3) := by decide +kernel
theorem d_E_searchMoves_70 : decode b_E_searchMoves 70 = .ok (.aload_n 0, 1) := by decide +kernel
theorem d_E_searchMoves_71 : decode b_E_searchMoves 71 = .ok (.aload_n 1, 1) := by decide +kernel
theorem d_E_searchMoves_72 : decode b_E_searchMoves 72 = .ok (.iload_n 2, 1) := by decide +kernel
theorem d_E_searchMoves_73 : decode b_E_searchMoves 73 = .ok (.iload 7, 2) := by decide +kernel
theorem d_E_searchMoves_75 : decode b_E_searchMoves 75 = .ok (.iload 8, 2) := by decide +kernel
theorem d_E_searchMoves_77 : decode b_E_searchMoves 77 = .ok (.iload 5, 2) := by decide +kernel
theorem d_E_searchMoves_79 : decode b_E_searchMoves 79 = .ok (.iload 4, 2) := by decide +kernel
theorem d_E_searchMoves_81 : decode b_E_searchMoves 81 = .ok (.invokestatic 51, 3) := by decide +kernel
theorem d_E_searchMoves_84 : decode b_E_searchMoves 84 = .ok (.iload_n 3, 1) := by decide +kernel
theorem d_E_searchMoves_85 : decode b_E_searchMoves 85 = .ok (.iconst 1, 1) := by decide +kernel
theorem d_E_searchMoves_86 : decode b_E_searchMoves 86 = .ok (.iadd, 1) := by decide +kernel
theorem d_E_searchMoves_87 : decode b_E_searchMoves 87 = .ok (.invokevirtual 55, 3) := by decide +kernel
theorem d_E_searchMoves_90 : decode b_E_searchMoves 90 = .ok (.ifCond .eq 5, 3) := by decide +kernel
theorem d_E_searchMoves_93 : decode b_E_searchMoves 93 = .ok (.iconst 1, 1) := by decide +kernel
theorem d_E_searchMoves_94 : decode b_E_searchMoves 94 = .ok (.ireturn, 1) := by decide +kernel
theorem d_E_searchMoves_95 : decode b_E_searchMoves 95 = .ok (.iinc 5 1, 3) := by decide +kernel
theorem d_E_searchMoves_98 : decode b_E_searchMoves 98 = .ok (.goto (-87), 3) := by decide +kernel
theorem d_E_searchMoves_101 : decode b_E_searchMoves 101 = .ok (.iinc 4 (-1), 3) := by decide +kernel
theorem d_E_searchMoves_104 : decode b_E_searchMoves 104 = .ok (.goto (-101), 3) := by decide +kernel
theorem d_E_searchMoves_107 : decode b_E_searchMoves 107 = .ok (.iconst 0, 1) := by decide +kernel
theorem d_E_searchMoves_108 : decode b_E_searchMoves 108 = .ok (.ireturn, 1) := by decide +kernel
theorem d_B_init_0 : decode b_B_init 0 = .ok (.aload_n 0, 1) := by decide +kernel
theorem d_B_init_1 : decode b_B_init 1 = .ok (.invokespecial 1, 3) := by decide +kernel
theorem d_B_init_4 : decode b_B_init 4 = .ok (.aload_n 0, 1) := by decide +kernel
theorem d_B_init_5 : decode b_B_init 5 = .ok (.iconst 0, 1) := by decide +kernel
theorem d_B_init_6 : decode b_B_init 6 = .ok (.putfield 7, 3) := by decide +kernel
theorem d_B_init_9 : decode b_B_init 9 = .ok (.aload_n 0, 1) := by decide +kernel
theorem d_B_init_10 : decode b_B_init 10 = .ok (.iconst 0, 1) := by decide +kernel
theorem d_B_init_11 : decode b_B_init 11 = .ok (.putfield 13, 3) := by decide +kernel
theorem d_B_init_14 : decode b_B_init 14 = .ok (.return_, 1) := by decide +kernel
theorem d_U_init_0 : decode b_U_init 0 = .ok (.aload_n 0, 1) := by decide +kernel
theorem d_U_init_1 : decode b_U_init 1 = .ok (.invokespecial 3, 3) := by decide +kernel
theorem d_U_init_4 : decode b_U_init 4 = .ok (.aload_n 0, 1) := by decide +kernel
theorem d_U_init_5 : decode b_U_init 5 = .ok (.iconst 3, 1) := by decide +kernel
theorem d_U_init_6 : decode b_U_init 6 = .ok (.newarray .int, 2) := by decide +kernel
theorem d_U_init_8 : decode b_U_init 8 = .ok (.putfield 9, 3) := by decide +kernel
theorem d_U_init_11 : decode b_U_init 11 = .ok (.aload_n 0, 1) := by decide +kernel
theorem d_U_init_12 : decode b_U_init 12 = .ok (.iconst 3, 1) := by decide +kernel
theorem d_U_init_13 : decode b_U_init 13 = .ok (.newarray .int, 2) := by decide +kernel
theorem d_U_init_15 : decode b_U_init 15 = .ok (.putfield 15, 3) := by decide +kernel
theorem d_U_init_18 : decode b_U_init 18 = .ok (.aload_n 0, 1) := by decide +kernel
theorem d_U_init_19 : decode b_U_init 19 = .ok (.iconst 3, 1) := by decide +kernel
theorem d_U_init_20 : decode b_U_init 20 = .ok (.newarray .int, 2) := by decide +kernel
theorem d_U_init_22 : decode b_U_init 22 = .ok (.putfield 18, 3) := by decide +kernel
theorem d_U_init_25 : decode b_U_init 25 = .ok (.aload_n 0, 1) := by decide +kernel
theorem d_U_init_26 : decode b_U_init 26 = .ok (.iconst 0, 1) := by decide +kernel
theorem d_U_init_27 : decode b_U_init 27 = .ok (.putfield 21, 3) := by decide +kernel
theorem d_U_init_30 : decode b_U_init 30 = .ok (.return_, 1) := by decide +kernel
theorem d_U_append_0 : decode b_U_append 0 = .ok (.aload_n 0, 1) := by decide +kernel
theorem d_U_append_1 : decode b_U_append 1 = .ok (.getfield 21, 3) := by decide +kernel
theorem d_U_append_4 : decode b_U_append 4 = .ok (.iconst 3, 1) := by decide +kernel
theorem d_U_append_5 : decode b_U_append 5 = .ok (.if_icmp .ge 43, 3) := by decide +kernel
theorem d_U_append_8 : decode b_U_append 8 = .ok (.aload_n 0, 1) := by decide +kernel
theorem d_U_append_9 : decode b_U_append 9 = .ok (.getfield 9, 3) := by decide +kernel
theorem d_U_append_12 : decode b_U_append 12 = .ok (.aload_n 0, 1) := by decide +kernel
theorem d_U_append_13 : decode b_U_append 13 = .ok (.getfield 21, 3) := by decide +kernel
theorem d_U_append_16 : decode b_U_append 16 = .ok (.iload_n 1, 1) := by decide +kernel
theorem d_U_append_17 : decode b_U_append 17 = .ok (.iastore, 1) := by decide +kernel
theorem d_U_append_18 : decode b_U_append 18 = .ok (.aload_n 0, 1) := by decide +kernel
theorem d_U_append_19 : decode b_U_append 19 = .ok (.getfield 15, 3) := by decide +kernel
theorem d_U_append_22 : decode b_U_append 22 = .ok (.aload_n 0, 1) := by decide +kernel
theorem d_U_append_23 : decode b_U_append 23 = .ok (.getfield 21, 3) := by decide +kernel
theorem d_U_append_26 : decode b_U_append 26 = .ok (.iload_n 2, 1) := by decide +kernel
theorem d_U_append_27 : decode b_U_append 27 = .ok (.iastore, 1) := by decide +kernel
theorem d_U_append_28 : decode b_U_append 28 = .ok (.aload_n 0, 1) := by decide +kernel
theorem d_U_append_29 : decode b_U_append 29 = .ok (.getfield 18, 3) := by decide +kernel
theorem d_U_append_32 : decode b_U_append 32 = .ok (.aload_n 0, 1) := by decide +kernel
theorem d_U_append_33 : decode b_U_append 33 = .ok (.getfield 21, 3) := by decide +kernel
theorem d_U_append_36 : decode b_U_append 36 = .ok (.iload_n 3, 1) := by decide +kernel
theorem d_U_append_37 : decode b_U_append 37 = .ok (.iastore, 1) := by decide +kernel
theorem d_U_append_38 : decode b_U_append 38 = .ok (.aload_n 0, 1) := by decide +kernel
theorem d_U_append_39 : decode b_U_append 39 = .ok (.dup, 1) := by decide +kernel
theorem d_U_append_40 : decode b_U_append 40 = .ok (.getfield 21, 3) := by decide +kernel
theorem d_U_append_43 : decode b_U_append 43 = .ok (.iconst 1, 1) := by decide +kernel
theorem d_U_append_44 : decode b_U_append 44 = .ok (.iadd, 1) := by decide +kernel
theorem d_U_append_45 : decode b_U_append 45 = .ok (.putfield 21, 3) := by decide +kernel
theorem d_U_append_48 : decode b_U_append 48 = .ok (.return_, 1) := by decide +kernel
theorem d_U_maskAt_0 : decode b_U_maskAt 0 = .ok (.aload_n 0, 1) := by decide +kernel
theorem d_U_maskAt_1 : decode b_U_maskAt 1 = .ok (.iload_n 1, 1) := by decide +kernel
theorem d_U_maskAt_2 : decode b_U_maskAt 2 = .ok (.invokevirtual 25, 3) := by decide +kernel
theorem d_U_maskAt_5 : decode b_U_maskAt 5 = .ok (.ifCond .eq 12, 3) := by decide +kernel
theorem d_U_maskAt_8 : decode b_U_maskAt 8 = .ok (.aload_n 0, 1) := by decide +kernel
theorem d_U_maskAt_9 : decode b_U_maskAt 9 = .ok (.getfield 9, 3) := by decide +kernel
theorem d_U_maskAt_12 : decode b_U_maskAt 12 = .ok (.iload_n 1, 1) := by decide +kernel
theorem d_U_maskAt_13 : decode b_U_maskAt 13 = .ok (.iaload, 1) := by decide +kernel
theorem d_U_maskAt_14 : decode b_U_maskAt 14 = .ok (.goto 4, 3) := by decide +kernel
theorem d_U_maskAt_17 : decode b_U_maskAt 17 = .ok (.iconst 0, 1) := by decide +kernel
theorem d_U_maskAt_18 : decode b_U_maskAt 18 = .ok (.ireturn, 1) := by decide +kernel
theorem d_U_timeAt_0 : decode b_U_timeAt 0 = .ok (.aload_n 0, 1) := by decide +kernel
theorem d_U_timeAt_1 : decode b_U_timeAt 1 = .ok (.iload_n 1, 1) := by decide +kernel
theorem d_U_timeAt_2 : decode b_U_timeAt 2 = .ok (.invokevirtual 25, 3) := by decide +kernel
theorem d_U_timeAt_5 : decode b_U_timeAt 5 = .ok (.ifCond .eq 12, 3) := by decide +kernel
theorem d_U_timeAt_8 : decode b_U_timeAt 8 = .ok (.aload_n 0, 1) := by decide +kernel
theorem d_U_timeAt_9 : decode b_U_timeAt 9 = .ok (.getfield 15, 3) := by decide +kernel
theorem d_U_timeAt_12 : decode b_U_timeAt 12 = .ok (.iload_n 1, 1) := by decide +kernel
theorem d_U_timeAt_13 : decode b_U_timeAt 13 = .ok (.iaload, 1) := by decide +kernel
theorem d_U_timeAt_14 : decode b_U_timeAt 14 = .ok (.goto 4, 3) := by decide +kernel
theorem d_U_timeAt_17 : decode b_U_timeAt 17 = .ok (.iconst 0, 1) := by decide +kernel
theorem d_U_timeAt_18 : decode b_U_timeAt 18 = .ok (.ireturn, 1) := by decide +kernel
theorem d_U_limitAt_0 : decode b_U_limitAt 0 = .ok (.aload_n 0, 1) := by decide +kernel
theorem d_U_limitAt_1 : decode b_U_limitAt 1 = .ok (.iload_n 1, 1) := by decide +kernel
theorem d_U_limitAt_2 : decode b_U_limitAt 2 = .ok (.invokevirtual 25, 3) := by decide +kernel
theorem d_U_limitAt_5 : decode b_U_limitAt 5 = .ok (.ifCond .eq 12, 3) := by decide +kernel
theorem d_U_limitAt_8 : decode b_U_limitAt 8 = .ok (.aload_n 0, 1) := by decide +kernel
theorem d_U_limitAt_9 : decode b_U_limitAt 9 = .ok (.getfield 18, 3) := by decide +kernel
theorem d_U_limitAt_12 : decode b_U_limitAt 12 = .ok (.iload_n 1, 1) := by decide +kernel
theorem d_U_limitAt_13 : decode b_U_limitAt 13 = .ok (.iaload, 1) := by decide +kernel
theorem d_U_limitAt_14 : decode b_U_limitAt 14 = .ok (.goto 4, 3) := by decide +kernel
theorem d_U_limitAt_17 : decode b_U_limitAt 17 = .ok (.iconst 0, 1) := by decide +kernel
theorem d_U_limitAt_18 : decode b_U_limitAt 18 = .ok (.ireturn, 1) := by decide +kernel
theorem d_U_has_0 : decode b_U_has 0 = .ok (.iload_n 1, 1) := by decide +kernel
theorem d_U_has_1 : decode b_U_has 1 = .ok (.ifCond .lt 15, 3) := by decide +kernel
theorem d_U_has_4 : decode b_U_has 4 = .ok (.iload_n 1, 1) := by decide +kernel
theorem d_U_has_5 : decode b_U_has 5 = .ok (.aload_n 0, 1) := by decide +kernel
theorem d_U_has_6 : decode b_U_has 6 = .ok (.getfield 21, 3) := by decide +kernel
theorem d_U_has_9 : decode b_U_has 9 = .ok (.if_icmp .ge 7, 3) := by decide +kernel
theorem d_U_has_12 : decode b_U_has 12 = .ok (.iconst 1, 1) := by decide +kernel
theorem d_U_has_13 : decode b_U_has 13 = .ok (.goto 4, 3) := by decide +kernel
theorem d_U_has_16 : decode b_U_has 16 = .ok (.iconst 0, 1) := by decide +kernel
theorem d_U_has_17 : decode b_U_has 17 = .ok (.ireturn, 1) := by decide +kernel
theorem d_S_with_0 : decode b_S_with 0 = .ok (.iload_n 1, 1) := by decide +kernel
theorem d_S_with_1 : decode b_S_with 1 = .ok (.iconst 4, 1) := by decide +kernel
theorem d_S_with_2 : decode b_S_with 2 = .ok (.if_icmp .ne 8, 3) := by decide +kernel
theorem d_S_with_5 : decode b_S_with 5 = .ok (.bipush 8, 2) := by decide +kernel
theorem d_S_with_7 : decode b_S_with 7 = .ok (.goto 4, 3) := by decide +kernel
theorem d_S_with_10 : decode b_S_with 10 = .ok (.iconst 0, 1) := by decide +kernel
theorem d_S_with_11 : decode b_S_with 11 = .ok (.iload_n 2, 1) := by decide +kernel
theorem d_S_with_12 : decode b_S_with 12 = .ok (.iconst 2, 1) := by decide +kernel
theorem d_S_with_13 : decode b_S_with 13 = .ok (.ishl, 1) := by decide +kernel
theorem d_S_with_14 : decode b_S_with 14 = .ok (.ior, 1) := by decide +kernel
theorem d_S_with_15 : decode b_S_with 15 = .ok (.iload_n 3, 1) := by decide +kernel
theorem d_S_with_16 : decode b_S_with 16 = .ok (.ior, 1) := by decide +kernel
theorem d_S_with_17 : decode b_S_with 17 = .ok (.istore 4, 2) := by decide +kernel
theorem d_S_with_19 : decode b_S_with 19 = .ok (.iload_n 0, 1) := by decide +kernel
theorem d_S_with_20 : decode b_S_with 20 = .ok (.iload 4, 2) := by decide +kernel
theorem d_S_with_22 : decode b_S_with 22 = .ok (.iconst 3, 1) := by decide +kernel
theorem d_S_with_23 : decode b_S_with 23 = .ok (.iload_n 1, 1) := by decide +kernel
theorem d_S_with_24 : decode b_S_with 24 = .ok (.imul, 1) := by decide +kernel
theorem d_S_with_25 : decode b_S_with 25 = .ok (.ishl, 1) := by decide +kernel
theorem d_S_with_26 : decode b_S_with 26 = .ok (.ior, 1) := by decide +kernel
theorem d_S_with_27 : decode b_S_with 27 = .ok (.ireturn, 1) := by decide +kernel
theorem d_S_markAt_0 : decode b_S_markAt 0 = .ok (.iload_n 0, 1) := by decide +kernel
theorem d_S_markAt_1 : decode b_S_markAt 1 = .ok (.iconst 3, 1) := by decide +kernel
theorem d_S_markAt_2 : decode b_S_markAt 2 = .ok (.iload_n 1, 1) := by decide +kernel
theorem d_S_markAt_3 : decode b_S_markAt 3 = .ok (.imul, 1) := by decide +kernel
theorem d_S_markAt_4 : decode b_S_markAt 4 = .ok (.ishr, 1) := by decide +kernel
theorem d_S_markAt_5 : decode b_S_markAt 5 = .ok (.iload_n 1, 1) := by decide +kernel
theorem d_S_markAt_6 : decode b_S_markAt 6 = .ok (.iconst 4, 1) := by decide +kernel
theorem d_S_markAt_7 : decode b_S_markAt 7 = .ok (.if_icmp .ne 8, 3) := by decide +kernel
theorem d_S_markAt_10 : decode b_S_markAt 10 = .ok (.bipush 15, 2) := by decide +kernel
theorem d_S_markAt_12 : decode b_S_markAt 12 = .ok (.goto 5, 3) := by decide +kernel
theorem d_S_markAt_15 : decode b_S_markAt 15 = .ok (.bipush 7, 2) := by decide +kernel
theorem d_S_markAt_17 : decode b_S_markAt 17 = .ok (.iand, 1) := by decide +kernel
theorem d_S_markAt_18 : decode b_S_markAt 18 = .ok (.ireturn, 1) := by decide +kernel
theorem d_S_routeIn_0 : decode b_S_routeIn 0 = .ok (.iload_n 0, 1) := by decide +kernel
theorem d_S_routeIn_1 : decode b_S_routeIn 1 = .ok (.iconst 2, 1) := by decide +kernel
theorem d_S_routeIn_2 : decode b_S_routeIn 2 = .ok (.ishr, 1) := by decide +kernel
theorem d_S_routeIn_3 : decode b_S_routeIn 3 = .ok (.iconst 1, 1) := by decide +kernel
theorem d_S_routeIn_4 : decode b_S_routeIn 4 = .ok (.iand, 1) := by decide +kernel
theorem d_S_routeIn_5 : decode b_S_routeIn 5 = .ok (.ireturn, 1) := by decide +kernel
theorem d_S_stageIn_0 : decode b_S_stageIn 0 = .ok (.iload_n 0, 1) := by decide +kernel
theorem d_S_stageIn_1 : decode b_S_stageIn 1 = .ok (.iconst 3, 1) := by decide +kernel
theorem d_S_stageIn_2 : decode b_S_stageIn 2 = .ok (.iand, 1) := by decide +kernel
theorem d_S_stageIn_3 : decode b_S_stageIn 3 = .ok (.ireturn, 1) := by decide +kernel
theorem d_S_after_0 : decode b_S_after 0 = .ok (.iload_n 3, 1) := by decide +kernel
theorem d_S_after_1 : decode b_S_after 1 = .ok (.iconst 5, 1) := by decide +kernel
theorem d_S_after_2 : decode b_S_after 2 = .ok (.if_icmp .ne 7, 3) := by decide +kernel
theorem d_S_after_5 : decode b_S_after 5 = .ok (.iload_n 0, 1) := by decide +kernel
theorem d_S_after_6 : decode b_S_after 6 = .ok (.goto 14, 3) := by decide +kernel
theorem d_S_after_9 : decode b_S_after 9 = .ok (.iload_n 0, 1) := by decide +kernel
theorem d_S_after_10 : decode b_S_after 10 = .ok (.iload_n 0, 1) := by decide +kernel
theorem d_S_after_11 : decode b_S_after 11 = .ok (.iload_n 3, 1) := by decide +kernel
theorem d_S_after_12 : decode b_S_after 12 = .ok (.invokestatic 11, 3) := by decide +kernel
theorem d_S_after_15 : decode b_S_after 15 = .ok (.iconst 3, 1) := by decide +kernel
theorem d_S_after_16 : decode b_S_after 16 = .ok (.iload_n 3, 1) := by decide +kernel
theorem d_S_after_17 : decode b_S_after 17 = .ok (.imul, 1) := by decide +kernel
theorem d_S_after_18 : decode b_S_after 18 = .ok (.ishl, 1) := by decide +kernel
theorem d_S_after_19 : decode b_S_after 19 = .ok (.isub, 1) := by decide +kernel
theorem d_S_after_20 : decode b_S_after 20 = .ok (.istore 5, 2) := by decide +kernel
theorem d_S_after_22 : decode b_S_after 22 = .ok (.iload 4, 2) := by decide +kernel
theorem d_S_after_24 : decode b_S_after 24 = .ok (.iconst 5, 1) := by decide +kernel
theorem d_S_after_25 : decode b_S_after 25 = .ok (.if_icmp .ne 6, 3) := by decide +kernel
theorem d_S_after_28 : decode b_S_after 28 = .ok (.iload 5, 2) := by decide +kernel
theorem d_S_after_30 : decode b_S_after 30 = .ok (.ireturn, 1) := by decide +kernel
theorem d_S_after_31 : decode b_S_after 31 = .ok (.iload 5, 2) := by decide +kernel
theorem d_S_after_33 : decode b_S_after 33 = .ok (.iload 4, 2) := by decide +kernel
theorem d_S_after_35 : decode b_S_after 35 = .ok (.iload_n 1, 1) := by decide +kernel
theorem d_S_after_36 : decode b_S_after 36 = .ok (.iload 4, 2) := by decide +kernel
theorem d_S_after_38 : decode b_S_after 38 = .ok (.iconst 4, 1) := by decide +kernel
theorem d_S_after_39 : decode b_S_after 39 = .ok (.if_icmp .ge 9, 3) := by decide +kernel
theorem d_S_after_42 : decode b_S_after 42 = .ok (.iload_n 2, 1) := by decide +kernel
theorem d_S_after_43 : decode b_S_after 43 = .ok (.iconst 1, 1) := by decide +kernel
theorem d_S_after_44 : decode b_S_after 44 = .ok (.iadd, 1) := by decide +kernel
theorem d_S_after_45 : decode b_S_after 45 = .ok (.goto 4, 3) := by decide +kernel
theorem d_S_after_48 : decode b_S_after 48 = .ok (.iload_n 2, 1) := by decide +kernel
theorem d_S_after_49 : decode b_S_after 49 = .ok (.invokestatic 15, 3) := by decide +kernel
theorem d_S_after_52 : decode b_S_after 52 = .ok (.ireturn, 1) := by decide +kernel
theorem d_S_isFree_0 : decode b_S_isFree 0 = .ok (.iload_n 2, 1) := by decide +kernel
theorem d_S_isFree_1 : decode b_S_isFree 1 = .ok (.iconst 5, 1) := by decide +kernel
theorem d_S_isFree_2 : decode b_S_isFree 2 = .ok (.if_icmp .eq 16, 3) := by decide +kernel
theorem d_S_isFree_5 : decode b_S_isFree 5 = .ok (.iload_n 2, 1) := by decide +kernel
theorem d_S_isFree_6 : decode b_S_isFree 6 = .ok (.iload_n 1, 1) := by decide +kernel
theorem d_S_isFree_7 : decode b_S_isFree 7 = .ok (.if_icmp .eq 11, 3) := by decide +kernel
theorem d_S_isFree_10 : decode b_S_isFree 10 = .ok (.iload_n 0, 1) := by decide +kernel
theorem d_S_isFree_11 : decode b_S_isFree 11 = .ok (.iload_n 2, 1) := by decide +kernel
theorem d_S_isFree_12 : decode b_S_isFree 12 = .ok (.invokestatic 11, 3) := by decide +kernel
theorem d_S_isFree_15 : decode b_S_isFree 15 = .ok (.ifCond .ne 7, 3) := by decide +kernel
theorem d_S_isFree_18 : decode b_S_isFree 18 = .ok (.iconst 1, 1) := by decide +kernel
theorem d_S_isFree_19 : decode b_S_isFree 19 = .ok (.goto 4, 3) := by decide +kernel
theorem d_S_isFree_22 : decode b_S_isFree 22 = .ok (.iconst 0, 1) := by decide +kernel
theorem d_S_isFree_23 : decode b_S_isFree 23 = .ok (.ireturn, 1) := by decide +kernel
theorem d_W_init_0 : decode b_W_init 0 = .ok (.aload_n 0, 1) := by decide +kernel
theorem d_W_init_1 : decode b_W_init 1 = .ok (.invokespecial 3, 3) := by decide +kernel
theorem d_W_init_4 : decode b_W_init 4 = .ok (.aload_n 0, 1) := by decide +kernel
theorem d_W_init_5 : decode b_W_init 5 = .ok (.iconst 3, 1) := by decide +kernel
theorem d_W_init_6 : decode b_W_init 6 = .ok (.newarray .int, 2) := by decide +kernel
theorem d_W_init_8 : decode b_W_init 8 = .ok (.putfield 9, 3) := by decide +kernel
theorem d_W_init_11 : decode b_W_init 11 = .ok (.aload_n 0, 1) := by decide +kernel
theorem d_W_init_12 : decode b_W_init 12 = .ok (.iconst 3, 1) := by decide +kernel
theorem d_W_init_13 : decode b_W_init 13 = .ok (.newarray .int, 2) := by decide +kernel
theorem d_W_init_15 : decode b_W_init 15 = .ok (.putfield 15, 3) := by decide +kernel
theorem d_W_init_18 : decode b_W_init 18 = .ok (.aload_n 0, 1) := by decide +kernel
theorem d_W_init_19 : decode b_W_init 19 = .ok (.iconst 3, 1) := by decide +kernel
theorem d_W_init_20 : decode b_W_init 20 = .ok (.newarray .int, 2) := by decide +kernel
theorem d_W_init_22 : decode b_W_init 22 = .ok (.putfield 18, 3) := by decide +kernel
theorem d_W_init_25 : decode b_W_init 25 = .ok (.aload_n 0, 1) := by decide +kernel
theorem d_W_init_26 : decode b_W_init 26 = .ok (.iconst 5, 1) := by decide +kernel
theorem d_W_init_27 : decode b_W_init 27 = .ok (.putfield 21, 3) := by decide +kernel
theorem d_W_init_30 : decode b_W_init 30 = .ok (.aload_n 0, 1) := by decide +kernel
theorem d_W_init_31 : decode b_W_init 31 = .ok (.iconst 0, 1) := by decide +kernel
theorem d_W_init_32 : decode b_W_init 32 = .ok (.putfield 25, 3) := by decide +kernel
theorem d_W_init_35 : decode b_W_init 35 = .ok (.aload_n 0, 1) := by decide +kernel
theorem d_W_init_36 : decode b_W_init 36 = .ok (.iconst 0, 1) := by decide +kernel
theorem d_W_init_37 : decode b_W_init 37 = .ok (.putfield 28, 3) := by decide +kernel
theorem d_W_init_40 : decode b_W_init 40 = .ok (.aload_n 0, 1) := by decide +kernel
theorem d_W_init_41 : decode b_W_init 41 = .ok (.iconst 0, 1) := by decide +kernel
theorem d_W_init_42 : decode b_W_init 42 = .ok (.putfield 31, 3) := by decide +kernel
theorem d_W_init_45 : decode b_W_init 45 = .ok (.aload_n 0, 1) := by decide +kernel
theorem d_W_init_46 : decode b_W_init 46 = .ok (.iconst 0, 1) := by decide +kernel
theorem d_W_init_47 : decode b_W_init 47 = .ok (.putfield 34, 3) := by decide +kernel
theorem d_W_init_50 : decode b_W_init 50 = .ok (.aload_n 0, 1) := by decide +kernel
theorem d_W_init_51 : decode b_W_init 51 = .ok (.iload_n 1, 1) := by decide +kernel
theorem d_W_init_52 : decode b_W_init 52 = .ok (.putfield 38, 3) := by decide +kernel
theorem d_W_init_55 : decode b_W_init 55 = .ok (.aload_n 0, 1) := by decide +kernel
theorem d_W_init_56 : decode b_W_init 56 = .ok (.iload_n 2, 1) := by decide +kernel
theorem d_W_init_57 : decode b_W_init 57 = .ok (.putfield 41, 3) := by decide +kernel
theorem d_W_init_60 : decode b_W_init 60 = .ok (.return_, 1) := by decide +kernel
theorem d_W_hasBegun_0 : decode b_W_hasBegun 0 = .ok (.iload_n 1, 1) := by decide +kernel
theorem d_W_hasBegun_1 : decode b_W_hasBegun 1 = .ok (.iconst 0, 1) := by decide +kernel
theorem d_W_hasBegun_2 : decode b_W_hasBegun 2 = .ok (.aload_n 0, 1) := by decide +kernel
theorem d_W_hasBegun_3 : decode b_W_hasBegun 3 = .ok (.getfield 25, 3) := by decide +kernel
theorem d_W_hasBegun_6 : decode b_W_hasBegun 6 = .ok (.iconst 1, 1) := by decide +kernel
theorem d_W_hasBegun_7 : decode b_W_hasBegun 7 = .ok (.isub, 1) := by decide +kernel
theorem d_W_hasBegun_8 : decode b_W_hasBegun 8 = .ok (.invokestatic 44, 3) := by decide +kernel
theorem d_W_hasBegun_11 : decode b_W_hasBegun 11 = .ok (.ireturn, 1) := by decide +kernel
theorem d_W_arrive_0 : decode b_W_arrive 0 = .ok (.aload_n 0, 1) := by decide +kernel
theorem d_W_arrive_1 : decode b_W_arrive 1 = .ok (.iload_n 1, 1) := by decide +kernel
theorem d_W_arrive_2 : decode b_W_arrive 2 = .ok (.putfield 21, 3) := by decide +kernel
theorem d_W_arrive_5 : decode b_W_arrive 5 = .ok (.aload_n 0, 1) := by decide +kernel
theorem d_W_arrive_6 : decode b_W_arrive 6 = .ok (.iconst 0, 1) := by decide +kernel
theorem d_W_arrive_7 : decode b_W_arrive 7 = .ok (.putfield 31, 3) := by decide +kernel
theorem d_W_arrive_10 : decode b_W_arrive 10 = .ok (.aload_n 0, 1) := by decide +kernel
theorem d_W_arrive_11 : decode b_W_arrive 11 = .ok (.iload_n 1, 1) := by decide +kernel
theorem d_W_arrive_12 : decode b_W_arrive 12 = .ok (.iconst 5, 1) := by decide +kernel
theorem d_W_arrive_13 : decode b_W_arrive 13 = .ok (.if_icmp .ne 7, 3) := by decide +kernel
theorem d_W_arrive_16 : decode b_W_arrive 16 = .ok (.iconst 1, 1) := by decide +kernel
theorem d_W_arrive_17 : decode b_W_arrive 17 = .ok (.goto 4, 3) := by decide +kernel
theorem d_W_arrive_20 : decode b_W_arrive 20 = .ok (.iconst 0, 1) := by decide +kernel
theorem d_W_arrive_21 : decode b_W_arrive 21 = .ok (.putfield 41, 3) := by decide +kernel
theorem d_W_arrive_24 : decode b_W_arrive 24 = .ok (.return_, 1) := by decide +kernel
theorem d_W_begin_0 : decode b_W_begin 0 = .ok (.aload_n 0, 1) := by decide +kernel
theorem d_W_begin_1 : decode b_W_begin 1 = .ok (.getfield 25, 3) := by decide +kernel
theorem d_W_begin_4 : decode b_W_begin 4 = .ok (.iconst 3, 1) := by decide +kernel
theorem d_W_begin_5 : decode b_W_begin 5 = .ok (.if_icmp .ge 51, 3) := by decide +kernel
theorem d_W_begin_8 : decode b_W_begin 8 = .ok (.aload_n 0, 1) := by decide +kernel
theorem d_W_begin_9 : decode b_W_begin 9 = .ok (.getfield 9, 3) := by decide +kernel
theorem d_W_begin_12 : decode b_W_begin 12 = .ok (.aload_n 0, 1) := by decide +kernel
theorem d_W_begin_13 : decode b_W_begin 13 = .ok (.getfield 25, 3) := by decide +kernel
theorem d_W_begin_16 : decode b_W_begin 16 = .ok (.aload_n 0, 1) := by decide +kernel
theorem d_W_begin_17 : decode b_W_begin 17 = .ok (.getfield 21, 3) := by decide +kernel
theorem d_W_begin_20 : decode b_W_begin 20 = .ok (.iastore, 1) := by decide +kernel
theorem d_W_begin_21 : decode b_W_begin 21 = .ok (.aload_n 0, 1) := by decide +kernel
theorem d_W_begin_22 : decode b_W_begin 22 = .ok (.getfield 15, 3) := by decide +kernel
theorem d_W_begin_25 : decode b_W_begin 25 = .ok (.aload_n 0, 1) := by decide +kernel
theorem d_W_begin_26 : decode b_W_begin 26 = .ok (.getfield 25, 3) := by decide +kernel
theorem d_W_begin_29 : decode b_W_begin 29 = .ok (.iload_n 2, 1) := by decide +kernel
theorem d_W_begin_30 : decode b_W_begin 30 = .ok (.iastore, 1) := by decide +kernel
theorem d_W_begin_31 : decode b_W_begin 31 = .ok (.aload_n 0, 1) := by decide +kernel
theorem d_W_begin_32 : decode b_W_begin 32 = .ok (.getfield 18, 3) := by decide +kernel
theorem d_W_begin_35 : decode b_W_begin 35 = .ok (.aload_n 0, 1) := by decide +kernel
theorem d_W_begin_36 : decode b_W_begin 36 = .ok (.getfield 25, 3) := by decide +kernel
theorem d_W_begin_39 : decode b_W_begin 39 = .ok (.iconst (-1), 1) := by decide +kernel
theorem d_W_begin_40 : decode b_W_begin 40 = .ok (.iastore, 1) := by decide +kernel
theorem d_W_begin_41 : decode b_W_begin 41 = .ok (.aload_n 0, 1) := by decide +kernel
theorem d_W_begin_42 : decode b_W_begin 42 = .ok (.iload_n 1, 1) := by decide +kernel
theorem d_W_begin_43 : decode b_W_begin 43 = .ok (.putfield 28, 3) := by decide +kernel
theorem d_W_begin_46 : decode b_W_begin 46 = .ok (.aload_n 0, 1) := by decide +kernel
theorem d_W_begin_47 : decode b_W_begin 47 = .ok (.dup, 1) := by decide +kernel
theorem d_W_begin_48 : decode b_W_begin 48 = .ok (.getfield 25, 3) := by decide +kernel
theorem d_W_begin_51 : decode b_W_begin 51 = .ok (.iconst 1, 1) := by decide +kernel
theorem d_W_begin_52 : decode b_W_begin 52 = .ok (.iadd, 1) := by decide +kernel
theorem d_W_begin_53 : decode b_W_begin 53 = .ok (.putfield 25, 3) := by decide +kernel
theorem d_W_begin_56 : decode b_W_begin 56 = .ok (.return_, 1) := by decide +kernel
theorem d_W_spend_0 : decode b_W_spend 0 = .ok (.aload_n 0, 1) := by decide +kernel
theorem d_W_spend_1 : decode b_W_spend 1 = .ok (.getfield 28, 3) := by decide +kernel
theorem d_W_spend_4 : decode b_W_spend 4 = .ok (.iload_n 1, 1) := by decide +kernel
theorem d_W_spend_5 : decode b_W_spend 5 = .ok (.invokestatic 48, 3) := by decide +kernel
theorem d_W_spend_8 : decode b_W_spend 8 = .ok (.istore_n 3, 1) := by decide +kernel
theorem d_W_spend_9 : decode b_W_spend 9 = .ok (.iload_n 3, 1) := by decide +kernel
theorem d_W_spend_10 : decode b_W_spend 10 = .ok (.ifCond .le 32, 3) := by decide +kernel
theorem d_W_spend_13 : decode b_W_spend 13 = .ok (.iload_n 3, 1) := by decide +kernel
theorem d_W_spend_14 : decode b_W_spend 14 = .ok (.aload_n 0, 1) := by decide +kernel
theorem d_W_spend_15 : decode b_W_spend 15 = .ok (.getfield 28, 3) := by decide +kernel
theorem d_W_spend_18 : decode b_W_spend 18 = .ok (.if_icmp .ne 24, 3) := by decide +kernel
theorem d_W_spend_21 : decode b_W_spend 21 = .ok (.aload_n 0, 1) := by decide +kernel
theorem d_W_spend_22 : decode b_W_spend 22 = .ok (.getfield 25, 3) := by decide +kernel
theorem d_W_spend_25 : decode b_W_spend 25 = .ok (.ifCond .le 17, 3) := by decide +kernel
theorem d_W_spend_28 : decode b_W_spend 28 = .ok (.aload_n 0, 1) := by decide +kernel
theorem d_W_spend_29 : decode b_W_spend 29 = .ok (.getfield 18, 3) := by decide +kernel
theorem d_W_spend_32 : decode b_W_spend 32 = .ok (.aload_n 0, 1) := by decide +kernel
theorem d_W_spend_33 : decode b_W_spend 33 = .ok (.getfield 25, 3) := by decide +kernel
theorem d_W_spend_36 : decode b_W_spend 36 = .ok (.iconst 1, 1) := by decide +kernel
theorem d_W_spend_37 : decode b_W_spend 37 = .ok (.isub, 1) := by decide +kernel
theorem d_W_spend_38 : decode b_W_spend 38 = .ok (.iload_n 2, 1) := by decide +kernel
theorem d_W_spend_39 : decode b_W_spend 39 = .ok (.iload_n 3, 1) := by decide +kernel
theorem d_W_spend_40 : decode b_W_spend 40 = .ok (.iadd, 1) := by decide +kernel
theorem d_W_spend_41 : decode b_W_spend 41 = .ok (.iastore, 1) := by decide +kernel
theorem d_W_spend_42 : decode b_W_spend 42 = .ok (.aload_n 0, 1) := by decide +kernel
theorem d_W_spend_43 : decode b_W_spend 43 = .ok (.dup, 1) := by decide +kernel
theorem d_W_spend_44 : decode b_W_spend 44 = .ok (.getfield 28, 3) := by decide +kernel
theorem d_W_spend_47 : decode b_W_spend 47 = .ok (.iload_n 3, 1) := by decide +kernel
theorem d_W_spend_48 : decode b_W_spend 48 = .ok (.isub, 1) := by decide +kernel
theorem d_W_spend_49 : decode b_W_spend 49 = .ok (.putfield 28, 3) := by decide +kernel
theorem d_W_spend_52 : decode b_W_spend 52 = .ok (.aload_n 0, 1) := by decide +kernel
theorem d_W_spend_53 : decode b_W_spend 53 = .ok (.dup, 1) := by decide +kernel
theorem d_W_spend_54 : decode b_W_spend 54 = .ok (.getfield 31, 3) := by decide +kernel
theorem d_W_spend_57 : decode b_W_spend 57 = .ok (.iload_n 1, 1) := by decide +kernel
theorem d_W_spend_58 : decode b_W_spend 58 = .ok (.iload_n 3, 1) := by decide +kernel
theorem d_W_spend_59 : decode b_W_spend 59 = .ok (.isub, 1) := by decide +kernel
theorem d_W_spend_60 : decode b_W_spend 60 = .ok (.iadd, 1) := by decide +kernel
theorem d_W_spend_61 : decode b_W_spend 61 = .ok (.putfield 31, 3) := by decide +kernel
theorem d_W_spend_64 : decode b_W_spend 64 = .ok (.return_, 1) := by decide +kernel
theorem d_W_turnsLate_0 : decode b_W_turnsLate 0 = .ok (.aload_n 0, 1) := by decide +kernel
theorem d_W_turnsLate_1 : decode b_W_turnsLate 1 = .ok (.getfield 34, 3) := by decide +kernel
theorem d_W_turnsLate_4 : decode b_W_turnsLate 4 = .ok (.ifCond .ne 15, 3) := by decide +kernel
theorem d_W_turnsLate_7 : decode b_W_turnsLate 7 = .ok (.iload_n 1, 1) := by decide +kernel
theorem d_W_turnsLate_8 : decode b_W_turnsLate 8 = .ok (.ifCond .eq 11, 3) := by decide +kernel
theorem d_W_turnsLate_11 : decode b_W_turnsLate 11 = .ok (.aload_n 0, 1) := by decide +kernel
theorem d_W_turnsLate_12 : decode b_W_turnsLate 12 = .ok (.getfield 31, 3) := by decide +kernel
theorem d_W_turnsLate_15 : decode b_W_turnsLate 15 = .ok (.iload_n 1, 1) := by decide +kernel
theorem d_W_turnsLate_16 : decode b_W_turnsLate 16 = .ok (.if_icmp .gt 5, 3) := by decide +kernel
theorem d_W_turnsLate_19 : decode b_W_turnsLate 19 = .ok (.iconst 0, 1) := by decide +kernel
theorem d_W_turnsLate_20 : decode b_W_turnsLate 20 = .ok (.ireturn, 1) := by decide +kernel
theorem d_W_turnsLate_21 : decode b_W_turnsLate 21 = .ok (.aload_n 0, 1) := by decide +kernel
theorem d_W_turnsLate_22 : decode b_W_turnsLate 22 = .ok (.iconst 1, 1) := by decide +kernel
theorem d_W_turnsLate_23 : decode b_W_turnsLate 23 = .ok (.putfield 34, 3) := by decide +kernel
theorem d_W_turnsLate_26 : decode b_W_turnsLate 26 = .ok (.iconst 1, 1) := by decide +kernel
theorem d_W_turnsLate_27 : decode b_W_turnsLate 27 = .ok (.ireturn, 1) := by decide +kernel
theorem d_Y_init_0 : decode b_Y_init 0 = .ok (.aload_n 0, 1) := by decide +kernel
theorem d_Y_init_1 : decode b_Y_init 1 = .ok (.invokespecial 3, 3) := by decide +kernel
theorem d_Y_init_4 : decode b_Y_init 4 = .ok (.aload_n 0, 1) := by decide +kernel
theorem d_Y_init_5 : decode b_Y_init 5 = .ok (.iconst 2, 1) := by decide +kernel
theorem d_Y_init_6 : decode b_Y_init 6 = .ok (.anewarray 9, 3) := by decide +kernel
theorem d_Y_init_9 : decode b_Y_init 9 = .ok (.dup, 1) := by decide +kernel
theorem d_Y_init_10 : decode b_Y_init 10 = .ok (.iconst 0, 1) := by decide +kernel
theorem d_Y_init_11 : decode b_Y_init 11 = .ok (.new 9, 3) := by decide +kernel
theorem d_Y_init_14 : decode b_Y_init 14 = .ok (.dup, 1) := by decide +kernel
theorem d_Y_init_15 : decode b_Y_init 15 = .ok (.invokespecial 11, 3) := by decide +kernel
theorem d_Y_init_18 : decode b_Y_init 18 = .ok (.aastore, 1) := by decide +kernel
theorem d_Y_init_19 : decode b_Y_init 19 = .ok (.dup, 1) := by decide +kernel
theorem d_Y_init_20 : decode b_Y_init 20 = .ok (.iconst 1, 1) := by decide +kernel
theorem d_Y_init_21 : decode b_Y_init 21 = .ok (.new 9, 3) := by decide +kernel
theorem d_Y_init_24 : decode b_Y_init 24 = .ok (.dup, 1) := by decide +kernel
theorem d_Y_init_25 : decode b_Y_init 25 = .ok (.invokespecial 11, 3) := by decide +kernel
theorem d_Y_init_28 : decode b_Y_init 28 = .ok (.aastore, 1) := by decide +kernel
theorem d_Y_init_29 : decode b_Y_init 29 = .ok (.putfield 12, 3) := by decide +kernel
theorem d_Y_init_32 : decode b_Y_init 32 = .ok (.aload_n 0, 1) := by decide +kernel
theorem d_Y_init_33 : decode b_Y_init 33 = .ok (.iconst 0, 1) := by decide +kernel
theorem d_Y_init_34 : decode b_Y_init 34 = .ok (.putfield 18, 3) := by decide +kernel
theorem d_Y_init_37 : decode b_Y_init 37 = .ok (.return_, 1) := by decide +kernel
theorem d_Y_isBack_0 : decode b_Y_isBack 0 = .ok (.iload_n 0, 1) := by decide +kernel
theorem d_Y_isBack_1 : decode b_Y_isBack 1 = .ok (.iconst 2, 1) := by decide +kernel
theorem d_Y_isBack_2 : decode b_Y_isBack 2 = .ok (.if_icmp .eq 8, 3) := by decide +kernel
theorem d_Y_isBack_5 : decode b_Y_isBack 5 = .ok (.iload_n 0, 1) := by decide +kernel
theorem d_Y_isBack_6 : decode b_Y_isBack 6 = .ok (.iconst 3, 1) := by decide +kernel
theorem d_Y_isBack_7 : decode b_Y_isBack 7 = .ok (.if_icmp .ne 7, 3) := by decide +kernel
theorem d_Y_isBack_10 : decode b_Y_isBack 10 = .ok (.iconst 1, 1) := by decide +kernel
theorem d_Y_isBack_11 : decode b_Y_isBack 11 = .ok (.goto 4, 3) := by decide +kernel
theorem d_Y_isBack_14 : decode b_Y_isBack 14 = .ok (.iconst 0, 1) := by decide +kernel
theorem d_Y_isBack_15 : decode b_Y_isBack 15 = .ok (.ireturn, 1) := by decide +kernel
theorem d_Y_routeOf_0 : decode b_Y_routeOf 0 = .ok (.iload_n 1, 1) := by decide +kernel
theorem d_Y_routeOf_1 : decode b_Y_routeOf 1 = .ok (.iconst 0, 1) := by decide +kernel
theorem d_Y_routeOf_2 : decode b_Y_routeOf 2 = .ok (.iconst 1, 1) := by decide +kernel
theorem d_Y_routeOf_3 : decode b_Y_routeOf 3 = .ok (.invokestatic 22, 3) := by decide +kernel
theorem d_Y_routeOf_6 : decode b_Y_routeOf 6 = .ok (.ifCond .eq 12, 3) := by decide +kernel
theorem d_Y_routeOf_9 : decode b_Y_routeOf 9 = .ok (.aload_n 0, 1) := by decide +kernel
theorem d_Y_routeOf_10 : decode b_Y_routeOf 10 = .ok (.getfield 12, 3) := by decide +kernel
theorem d_Y_routeOf_13 : decode b_Y_routeOf 13 = .ok (.iload_n 1, 1) := by decide +kernel
theorem d_Y_routeOf_14 : decode b_Y_routeOf 14 = .ok (.aaload, 1) := by decide +kernel
theorem d_Y_routeOf_15 : decode b_Y_routeOf 15 = .ok (.goto 4, 3) := by decide +kernel
theorem d_Y_routeOf_18 : decode b_Y_routeOf 18 = .ok (.aconst_null, 1) := by decide +kernel
theorem d_Y_routeOf_19 : decode b_Y_routeOf 19 = .ok (.areturn, 1) := by decide +kernel
theorem d_Y_isDown_0 : decode b_Y_isDown 0 = .ok (.aload_n 0, 1) := by decide +kernel
theorem d_Y_isDown_1 : decode b_Y_isDown 1 = .ok (.getfield 18, 3) := by decide +kernel
theorem d_Y_isDown_4 : decode b_Y_isDown 4 = .ok (.iconst 1, 1) := by decide +kernel
theorem d_Y_isDown_5 : decode b_Y_isDown 5 = .ok (.iload_n 1, 1) := by decide +kernel
theorem d_Y_isDown_6 : decode b_Y_isDown 6 = .ok (.ishl, 1) := by decide +kernel
theorem d_Y_isDown_7 : decode b_Y_isDown 7 = .ok (.iand, 1) := by decide +kernel
theorem d_Y_isDown_8 : decode b_Y_isDown 8 = .ok (.ifCond .eq 7, 3) := by decide +kernel
theorem d_Y_isDown_11 : decode b_Y_isDown 11 = .ok (.iconst 1, 1) := by decide +kernel
theorem d_Y_isDown_12 : decode b_Y_isDown 12 = .ok (.goto 4, 3) := by decide +kernel
theorem d_Y_isDown_15 : decode b_Y_isDown 15 = .ok (.iconst 0, 1) := by decide +kernel
theorem d_Y_isDown_16 : decode b_Y_isDown 16 = .ok (.ireturn, 1) := by decide +kernel
theorem d_Y_turn_0 : decode b_Y_turn 0 = .ok (.aload_n 0, 1) := by decide +kernel
theorem d_Y_turn_1 : decode b_Y_turn 1 = .ok (.dup, 1) := by decide +kernel
theorem d_Y_turn_2 : decode b_Y_turn 2 = .ok (.getfield 18, 3) := by decide +kernel
theorem d_Y_turn_5 : decode b_Y_turn 5 = .ok (.iconst 1, 1) := by decide +kernel
theorem d_Y_turn_6 : decode b_Y_turn 6 = .ok (.iload_n 1, 1) := by decide +kernel
theorem d_Y_turn_7 : decode b_Y_turn 7 = .ok (.ishl, 1) := by decide +kernel
theorem d_Y_turn_8 : decode b_Y_turn 8 = .ok (.ixor, 1) := by decide +kernel
theorem d_Y_turn_9 : decode b_Y_turn 9 = .ok (.putfield 18, 3) := by decide +kernel
theorem d_Y_turn_12 : decode b_Y_turn 12 = .ok (.return_, 1) := by decide +kernel
theorem d_Y_leads_0 : decode b_Y_leads 0 = .ok (.aload_n 0, 1) := by decide +kernel
theorem d_Y_leads_1 : decode b_Y_leads 1 = .ok (.iload_n 1, 1) := by decide +kernel
theorem d_Y_leads_2 : decode b_Y_leads 2 = .ok (.invokevirtual 26, 3) := by decide +kernel
theorem d_Y_leads_5 : decode b_Y_leads 5 = .ok (.astore 5, 2) := by decide +kernel
theorem d_Y_leads_7 : decode b_Y_leads 7 = .ok (.aload 5, 2) := by decide +kernel
theorem d_Y_leads_9 : decode b_Y_leads 9 = .ok (.ifnull 29, 3) := by decide +kernel
theorem d_Y_leads_12 : decode b_Y_leads 12 = .ok (.aload_n 0, 1) := by decide +kernel
theorem d_Y_leads_13 : decode b_Y_leads 13 = .ok (.iload_n 3, 1) := by decide +kernel
theorem d_Y_leads_14 : decode b_Y_leads 14 = .ok (.invokevirtual 30, 3) := by decide +kernel
theorem d_Y_leads_17 : decode b_Y_leads 17 = .ok (.ifCond .ne 21, 3) := by decide +kernel
theorem d_Y_leads_20 : decode b_Y_leads 20 = .ok (.aload_n 0, 1) := by decide +kernel
theorem d_Y_leads_21 : decode b_Y_leads 21 = .ok (.iload 4, 2) := by decide +kernel
theorem d_Y_leads_23 : decode b_Y_leads 23 = .ok (.invokevirtual 30, 3) := by decide +kernel
theorem d_Y_leads_26 : decode b_Y_leads 26 = .ok (.ifCond .ne 12, 3) := by decide +kernel
theorem d_Y_leads_29 : decode b_Y_leads 29 = .ok (.iload_n 3, 1) := by decide +kernel
theorem d_Y_leads_30 : decode b_Y_leads 30 = .ok (.iload 4, 2) := by decide +kernel
theorem d_Y_leads_32 : decode b_Y_leads 32 = .ok (.invokestatic 34, 3) := by decide +kernel
theorem d_Y_leads_35 : decode b_Y_leads 35 = .ok (.ifCond .ne 5, 3) := by decide +kernel
theorem d_Y_leads_38 : decode b_Y_leads 38 = .ok (.iconst 0, 1) := by decide +kernel
theorem d_Y_leads_39 : decode b_Y_leads 39 = .ok (.ireturn, 1) := by decide +kernel
theorem d_Y_leads_40 : decode b_Y_leads 40 = .ok (.aload 5, 2) := by decide +kernel
theorem d_Y_leads_42 : decode b_Y_leads 42 = .ok (.iload_n 2, 1) := by decide +kernel
theorem d_Y_leads_43 : decode b_Y_leads 43 = .ok (.invokevirtual 38, 3) := by decide +kernel
theorem d_Y_leads_46 : decode b_Y_leads 46 = .ok (.istore 6, 2) := by decide +kernel
theorem d_Y_leads_48 : decode b_Y_leads 48 = .ok (.iload 6, 2) := by decide +kernel
theorem d_Y_leads_50 : decode b_Y_leads 50 = .ok (.ifCond .ne 10, 3) := by decide +kernel
theorem d_Y_leads_53 : decode b_Y_leads 53 = .ok (.iload_n 3, 1) := by decide +kernel
theorem d_Y_leads_54 : decode b_Y_leads 54 = .ok (.iload 4, 2) := by decide +kernel
theorem d_Y_leads_56 : decode b_Y_leads 56 = .ok (.invokestatic 42, 3) := by decide +kernel
theorem d_Y_leads_59 : decode b_Y_leads 59 = .ok (.ireturn, 1) := by decide +kernel
theorem d_Y_leads_60 : decode b_Y_leads 60 = .ok (.iload 4, 2) := by decide +kernel
theorem d_Y_leads_62 : decode b_Y_leads 62 = .ok (.iconst 4, 1) := by decide +kernel
theorem d_Y_leads_63 : decode b_Y_leads 63 = .ok (.if_icmp .ge 19, 3) := by decide +kernel
theorem d_Y_leads_66 : decode b_Y_leads 66 = .ok (.iload 6, 2) := by decide +kernel
theorem d_Y_leads_68 : decode b_Y_leads 68 = .ok (.iconst 1, 1) := by decide +kernel
theorem d_Y_leads_69 : decode b_Y_leads 69 = .ok (.iload 4, 2) := by decide +kernel
theorem d_Y_leads_71 : decode b_Y_leads 71 = .ok (.ishl, 1) := by decide +kernel
theorem d_Y_leads_72 : decode b_Y_leads 72 = .ok (.iand, 1) := by decide +kernel
theorem d_Y_leads_73 : decode b_Y_leads 73 = .ok (.ifCond .eq 7, 3) := by decide +kernel
theorem d_Y_leads_76 : decode b_Y_leads 76 = .ok (.iconst 1, 1) := by decide +kernel
theorem d_Y_leads_77 : decode b_Y_leads 77 = .ok (.goto 4, 3) := by decide +kernel
theorem d_Y_leads_80 : decode b_Y_leads 80 = .ok (.iconst 0, 1) := by decide +kernel
theorem d_Y_leads_81 : decode b_Y_leads 81 = .ok (.ireturn, 1) := by decide +kernel
theorem d_Y_leads_82 : decode b_Y_leads 82 = .ok (.iload 4, 2) := by decide +kernel
theorem d_Y_leads_84 : decode b_Y_leads 84 = .ok (.iconst 4, 1) := by decide +kernel
theorem d_Y_leads_85 : decode b_Y_leads 85 = .ok (.if_icmp .ne 17, 3) := by decide +kernel
theorem d_Y_leads_88 : decode b_Y_leads 88 = .ok (.iload 6, 2) := by decide +kernel
theorem d_Y_leads_90 : decode b_Y_leads 90 = .ok (.iload_n 3, 1) := by decide +kernel
theorem d_Y_leads_91 : decode b_Y_leads 91 = .ok (.invokestatic 45, 3) := by decide +kernel
theorem d_Y_leads_94 : decode b_Y_leads 94 = .ok (.iand, 1) := by decide +kernel
theorem d_Y_leads_95 : decode b_Y_leads 95 = .ok (.ifCond .eq 7, 3) := by decide +kernel
theorem d_Y_leads_98 : decode b_Y_leads 98 = .ok (.iconst 1, 1) := by decide +kernel
theorem d_Y_leads_99 : decode b_Y_leads 99 = .ok (.goto 4, 3) := by decide +kernel
theorem d_Y_leads_102 : decode b_Y_leads 102 = .ok (.iconst 0, 1) := by decide +kernel
theorem d_Y_leads_103 : decode b_Y_leads 103 = .ok (.ireturn, 1) := by decide +kernel
theorem d_Y_isReach_0 : decode b_Y_isReach 0 = .ok (.iconst 1, 1) := by decide +kernel
theorem d_Y_isReach_1 : decode b_Y_isReach 1 = .ok (.iload_n 0, 1) := by decide +kernel
theorem d_Y_isReach_2 : decode b_Y_isReach 2 = .ok (.ishl, 1) := by decide +kernel
theorem d_Y_isReach_3 : decode b_Y_isReach 3 = .ok (.iconst 1, 1) := by decide +kernel
theorem d_Y_isReach_4 : decode b_Y_isReach 4 = .ok (.iload_n 1, 1) := by decide +kernel
theorem d_Y_isReach_5 : decode b_Y_isReach 5 = .ok (.ishl, 1) := by decide +kernel
theorem d_Y_isReach_6 : decode b_Y_isReach 6 = .ok (.ior, 1) := by decide +kernel
theorem d_Y_isReach_7 : decode b_Y_isReach 7 = .ok (.istore_n 2, 1) := by decide +kernel
theorem d_Y_isReach_8 : decode b_Y_isReach 8 = .ok (.bipush 51, 2) := by decide +kernel
theorem d_Y_isReach_10 : decode b_Y_isReach 10 = .ok (.iload_n 2, 1) := by decide +kernel
theorem d_Y_isReach_11 : decode b_Y_isReach 11 = .ok (.iand, 1) := by decide +kernel
theorem d_Y_isReach_12 : decode b_Y_isReach 12 = .ok (.iload_n 2, 1) := by decide +kernel
theorem d_Y_isReach_13 : decode b_Y_isReach 13 = .ok (.if_icmp .eq 11, 3) := by decide +kernel
theorem d_Y_isReach_16 : decode b_Y_isReach 16 = .ok (.bipush 28, 2) := by decide +kernel
theorem d_Y_isReach_18 : decode b_Y_isReach 18 = .ok (.iload_n 2, 1) := by decide +kernel
theorem d_Y_isReach_19 : decode b_Y_isReach 19 = .ok (.iand, 1) := by decide +kernel
theorem d_Y_isReach_20 : decode b_Y_isReach 20 = .ok (.iload_n 2, 1) := by decide +kernel
theorem d_Y_isReach_21 : decode b_Y_isReach 21 = .ok (.if_icmp .ne 7, 3) := by decide +kernel
theorem d_Y_isReach_24 : decode b_Y_isReach 24 = .ok (.iconst 1, 1) := by decide +kernel
theorem d_Y_isReach_25 : decode b_Y_isReach 25 = .ok (.goto 4, 3) := by decide +kernel
theorem d_Y_isReach_28 : decode b_Y_isReach 28 = .ok (.iconst 0, 1) := by decide +kernel
theorem d_Y_isReach_29 : decode b_Y_isReach 29 = .ok (.ireturn, 1) := by decide +kernel
theorem d_Y_isHomeward_0 : decode b_Y_isHomeward 0 = .ok (.iload_n 1, 1) := by decide +kernel
theorem d_Y_isHomeward_1 : decode b_Y_isHomeward 1 = .ok (.iconst 5, 1) := by decide +kernel
theorem d_Y_isHomeward_2 : decode b_Y_isHomeward 2 = .ok (.if_icmp .ne 16, 3) := by decide +kernel
theorem d_Y_isHomeward_5 : decode b_Y_isHomeward 5 = .ok (.iload_n 0, 1) := by decide +kernel
theorem d_Y_isHomeward_6 : decode b_Y_isHomeward 6 = .ok (.iconst 5, 1) := by decide +kernel
theorem d_Y_isHomeward_7 : decode b_Y_isHomeward 7 = .ok (.if_icmp .eq 7, 3) := by decide +kernel
theorem d_Y_isHomeward_10 : decode b_Y_isHomeward 10 = .ok (.iconst 1, 1) := by decide +kernel
theorem d_Y_isHomeward_11 : decode b_Y_isHomeward 11 = .ok (.goto 24, 3) := by decide +kernel
theorem d_Y_isHomeward_14 : decode b_Y_isHomeward 14 = .ok (.iconst 0, 1) := by decide +kernel
theorem d_Y_isHomeward_15 : decode b_Y_isHomeward 15 = .ok (.goto 20, 3) := by decide +kernel
theorem d_Y_isHomeward_18 : decode b_Y_isHomeward 18 = .ok (.iload_n 1, 1) := by decide +kernel
theorem d_Y_isHomeward_19 : decode b_Y_isHomeward 19 = .ok (.iconst 4, 1) := by decide +kernel
theorem d_Y_isHomeward_20 : decode b_Y_isHomeward 20 = .ok (.if_icmp .ne 14, 3) := by decide +kernel
theorem d_Y_isHomeward_23 : decode b_Y_isHomeward 23 = .ok (.iload_n 0, 1) := by decide +kernel
theorem d_Y_isHomeward_24 : decode b_Y_isHomeward 24 = .ok (.invokestatic 48, 3) := by decide +kernel
theorem d_Y_isHomeward_27 : decode b_Y_isHomeward 27 = .ok (.ifCond .eq 7, 3) := by decide +kernel
theorem d_Y_isHomeward_30 : decode b_Y_isHomeward 30 = .ok (.iconst 1, 1) := by decide +kernel
theorem d_Y_isHomeward_31 : decode b_Y_isHomeward 31 = .ok (.goto 4, 3) := by decide +kernel
theorem d_Y_isHomeward_34 : decode b_Y_isHomeward 34 = .ok (.iconst 0, 1) := by decide +kernel
theorem d_Y_isHomeward_35 : decode b_Y_isHomeward 35 = .ok (.ireturn, 1) := by decide +kernel
theorem d_Y_beyond_0 : decode b_Y_beyond 0 = .ok (.iload_n 0, 1) := by decide +kernel
theorem d_Y_beyond_1 : decode b_Y_beyond 1 = .ok (.iconst 4, 1) := by decide +kernel
theorem d_Y_beyond_2 : decode b_Y_beyond 2 = .ok (.if_icmp .ne 5, 3) := by decide +kernel
theorem d_Y_beyond_5 : decode b_Y_beyond 5 = .ok (.iconst 0, 1) := by decide +kernel
theorem d_Y_beyond_6 : decode b_Y_beyond 6 = .ok (.ireturn, 1) := by decide +kernel
theorem d_Y_beyond_7 : decode b_Y_beyond 7 = .ok (.iload_n 0, 1) := by decide +kernel
theorem d_Y_beyond_8 : decode b_Y_beyond 8 = .ok (.invokestatic 48, 3) := by decide +kernel
theorem d_Y_beyond_11 : decode b_Y_beyond 11 = .ok (.ifCond .eq 7, 3) := by decide +kernel
theorem d_Y_beyond_14 : decode b_Y_beyond 14 = .ok (.iconst 3, 1) := by decide +kernel
theorem d_Y_beyond_15 : decode b_Y_beyond 15 = .ok (.goto 5, 3) := by decide +kernel
theorem d_Y_beyond_18 : decode b_Y_beyond 18 = .ok (.bipush 12, 2) := by decide +kernel
theorem d_Y_beyond_20 : decode b_Y_beyond 20 = .ok (.ireturn, 1) := by decide +kernel
theorem d_J_fill_0 : decode b_J_fill 0 = .ok (.iconst 0, 1) := by decide +kernel
theorem d_J_fill_1 : decode b_J_fill 1 = .ok (.istore_n 3, 1) := by decide +kernel
theorem d_J_fill_2 : decode b_J_fill 2 = .ok (.aload_n 0, 1) := by decide +kernel
theorem d_J_fill_3 : decode b_J_fill 3 = .ok (.arraylength, 1) := by decide +kernel
theorem d_J_fill_4 : decode b_J_fill 4 = .ok (.istore 4, 2) := by decide +kernel
theorem d_J_fill_6 : decode b_J_fill 6 = .ok (.iload_n 3, 1) := by decide +kernel
theorem d_J_fill_7 : decode b_J_fill 7 = .ok (.iload 4, 2) := by decide +kernel
theorem d_J_fill_9 : decode b_J_fill 9 = .ok (.if_icmp .ge 13, 3) := by decide +kernel
theorem d_J_fill_12 : decode b_J_fill 12 = .ok (.aload_n 0, 1) := by decide +kernel
theorem d_J_fill_13 : decode b_J_fill 13 = .ok (.iload_n 3, 1) := by decide +kernel
theorem d_J_fill_14 : decode b_J_fill 14 = .ok (.lload_n 1, 1) := by decide +kernel
theorem d_J_fill_15 : decode b_J_fill 15 = .ok (.lastore, 1) := by decide +kernel
theorem d_J_fill_16 : decode b_J_fill 16 = .ok (.iinc 3 1, 3) := by decide +kernel
theorem d_J_fill_19 : decode b_J_fill 19 = .ok (.goto (-13), 3) := by decide +kernel
theorem d_J_fill_22 : decode b_J_fill 22 = .ok (.return_, 1) := by decide +kernel
end
section
theorem d_T_init_0 : decode b_T_init 0 = .ok (.aload_n 0, 1) := by decide +kernel
theorem d_T_init_1 : decode b_T_init 1 = .ok (.invokespecial 1, 3) := by decide +kernel
theorem d_T_init_4 : decode b_T_init 4 = .ok (.aload_n 0, 1) := by decide +kernel
theorem d_T_init_5 : decode b_T_init 5 = .ok (.new 7, 3) := by decide +kernel
theorem d_T_init_8 : decode b_T_init 8 = .ok (.dup, 1) := by decide +kernel
theorem d_T_init_9 : decode b_T_init 9 = .ok (.invokespecial 9, 3) := by decide +kernel
theorem d_T_init_12 : decode b_T_init 12 = .ok (.putfield 10, 3) := by decide +kernel
theorem d_T_init_15 : decode b_T_init 15 = .ok (.aload_n 0, 1) := by decide +kernel
theorem d_T_init_16 : decode b_T_init 16 = .ok (.new 16, 3) := by decide +kernel
theorem d_T_init_19 : decode b_T_init 19 = .ok (.dup, 1) := by decide +kernel
theorem d_T_init_20 : decode b_T_init 20 = .ok (.invokespecial 18, 3) := by decide +kernel
theorem d_T_init_23 : decode b_T_init 23 = .ok (.putfield 19, 3) := by decide +kernel
theorem d_T_init_26 : decode b_T_init 26 = .ok (.aload_n 0, 1) := by decide +kernel
theorem d_T_init_27 : decode b_T_init 27 = .ok (.new 23, 3) := by decide +kernel
theorem d_T_init_30 : decode b_T_init 30 = .ok (.dup, 1) := by decide +kernel
theorem d_T_init_31 : decode b_T_init 31 = .ok (.invokespecial 25, 3) := by decide +kernel
theorem d_T_init_34 : decode b_T_init 34 = .ok (.putfield 26, 3) := by decide +kernel
theorem d_T_init_37 : decode b_T_init 37 = .ok (.aload_n 0, 1) := by decide +kernel
theorem d_T_init_38 : decode b_T_init 38 = .ok (.new 23, 3) := by decide +kernel
theorem d_T_init_41 : decode b_T_init 41 = .ok (.dup, 1) := by decide +kernel
theorem d_T_init_42 : decode b_T_init 42 = .ok (.invokespecial 25, 3) := by decide +kernel
theorem d_T_init_45 : decode b_T_init 45 = .ok (.putfield 30, 3) := by decide +kernel
theorem d_T_init_48 : decode b_T_init 48 = .ok (.aload_n 0, 1) := by decide +kernel
theorem d_T_init_49 : decode b_T_init 49 = .ok (.bipush 25, 2) := by decide +kernel
theorem d_T_init_51 : decode b_T_init 51 = .ok (.anewarray 33, 3) := by decide +kernel
theorem d_T_init_54 : decode b_T_init 54 = .ok (.putfield 35, 3) := by decide +kernel
theorem d_T_init_57 : decode b_T_init 57 = .ok (.aload_n 0, 1) := by decide +kernel
theorem d_T_init_58 : decode b_T_init 58 = .ok (.iconst 5, 1) := by decide +kernel
theorem d_T_init_59 : decode b_T_init 59 = .ok (.newarray .int, 2) := by decide +kernel
theorem d_T_init_61 : decode b_T_init 61 = .ok (.dup, 1) := by decide +kernel
theorem d_T_init_62 : decode b_T_init 62 = .ok (.iconst 0, 1) := by decide +kernel
theorem d_T_init_63 : decode b_T_init 63 = .ok (.iconst (-1), 1) := by decide +kernel
theorem d_T_init_64 : decode b_T_init 64 = .ok (.iastore, 1) := by decide +kernel
theorem d_T_init_65 : decode b_T_init 65 = .ok (.dup, 1) := by decide +kernel
theorem d_T_init_66 : decode b_T_init 66 = .ok (.iconst 1, 1) := by decide +kernel
theorem d_T_init_67 : decode b_T_init 67 = .ok (.iconst (-1), 1) := by decide +kernel
theorem d_T_init_68 : decode b_T_init 68 = .ok (.iastore, 1) := by decide +kernel
theorem d_T_init_69 : decode b_T_init 69 = .ok (.dup, 1) := by decide +kernel
theorem d_T_init_70 : decode b_T_init 70 = .ok (.iconst 2, 1) := by decide +kernel
theorem d_T_init_71 : decode b_T_init 71 = .ok (.iconst (-1), 1) := by decide +kernel
theorem d_T_init_72 : decode b_T_init 72 = .ok (.iastore, 1) := by decide +kernel
theorem d_T_init_73 : decode b_T_init 73 = .ok (.dup, 1) := by decide +kernel
theorem d_T_init_74 : decode b_T_init 74 = .ok (.iconst 3, 1) := by decide +kernel
theorem d_T_init_75 : decode b_T_init 75 = .ok (.iconst (-1), 1) := by decide +kernel
theorem d_T_init_76 : decode b_T_init 76 = .ok (.iastore, 1) := by decide +kernel
theorem d_T_init_77 : decode b_T_init 77 = .ok (.dup, 1) := by decide +kernel
theorem d_T_init_78 : decode b_T_init 78 = .ok (.iconst 4, 1) := by decide +kernel
theorem d_T_init_79 : decode b_T_init 79 = .ok (.iconst (-1), 1) := by decide +kernel
theorem d_T_init_80 : decode b_T_init 80 = .ok (.iastore, 1) := by decide +kernel
theorem d_T_init_81 : decode b_T_init 81 = .ok (.putfield 39, 3) := by decide +kernel
theorem d_T_init_84 : decode b_T_init 84 = .ok (.aload_n 0, 1) := by decide +kernel
theorem d_T_init_85 : decode b_T_init 85 = .ok (.iconst 0, 1) := by decide +kernel
theorem d_T_init_86 : decode b_T_init 86 = .ok (.putfield 43, 3) := by decide +kernel
theorem d_T_init_89 : decode b_T_init 89 = .ok (.aload_n 0, 1) := by decide +kernel
theorem d_T_init_90 : decode b_T_init 90 = .ok (.iconst 0, 1) := by decide +kernel
theorem d_T_init_91 : decode b_T_init 91 = .ok (.putfield 47, 3) := by decide +kernel
theorem d_T_init_94 : decode b_T_init 94 = .ok (.return_, 1) := by decide +kernel
theorem d_T_visit_0 : decode b_T_visit 0 = .ok (.aload_n 0, 1) := by decide +kernel
theorem d_T_visit_1 : decode b_T_visit 1 = .ok (.getfield 10, 3) := by decide +kernel
theorem d_T_visit_4 : decode b_T_visit 4 = .ok (.iload_n 1, 1) := by decide +kernel
theorem d_T_visit_5 : decode b_T_visit 5 = .ok (.invokevirtual 50, 3) := by decide +kernel
theorem d_T_visit_8 : decode b_T_visit 8 = .ok (.astore 5, 2) := by decide +kernel
theorem d_T_visit_10 : decode b_T_visit 10 = .ok (.aload 5, 2) := by decide +kernel
theorem d_T_visit_12 : decode b_T_visit 12 = .ok (.ifnull 19, 3) := by decide +kernel
theorem d_T_visit_15 : decode b_T_visit 15 = .ok (.aload_n 0, 1) := by decide +kernel
theorem d_T_visit_16 : decode b_T_visit 16 = .ok (.getfield 43, 3) := by decide +kernel
theorem d_T_visit_19 : decode b_T_visit 19 = .ok (.ifCond .gt 12, 3) := by decide +kernel
theorem d_T_visit_22 : decode b_T_visit 22 = .ok (.aload 5, 2) := by decide +kernel
theorem d_T_visit_24 : decode b_T_visit 24 = .ok (.getfield 54, 3) := by decide +kernel
theorem d_T_visit_27 : decode b_T_visit 27 = .ok (.iconst 3, 1) := by decide +kernel
theorem d_T_visit_28 : decode b_T_visit 28 = .ok (.if_icmp .ne 5, 3) := by decide +kernel
theorem d_T_visit_31 : decode b_T_visit 31 = .ok (.iconst (-1), 1) := by decide +kernel
theorem d_T_visit_32 : decode b_T_visit 32 = .ok (.ireturn, 1) := by decide +kernel
theorem d_T_visit_33 : decode b_T_visit 33 = .ok (.iload_n 2, 1) := by decide +kernel
theorem d_T_visit_34 : decode b_T_visit 34 = .ok (.iconst 1, 1) := by decide +kernel
theorem d_T_visit_35 : decode b_T_visit 35 = .ok (.bipush 15, 2) := by decide +kernel
theorem d_T_visit_37 : decode b_T_visit 37 = .ok (.invokestatic 59, 3) := by decide +kernel
theorem d_T_visit_40 : decode b_T_visit 40 = .ok (.ifCond .eq 24, 3) := by decide +kernel
theorem d_T_visit_43 : decode b_T_visit 43 = .ok (.iload_n 3, 1) := by decide +kernel
theorem d_T_visit_44 : decode b_T_visit 44 = .ok (.iconst 1, 1) := by decide +kernel
theorem d_T_visit_45 : decode b_T_visit 45 = .ok (.bipush 100, 2) := by decide +kernel
theorem d_T_visit_47 : decode b_T_visit 47 = .ok (.invokestatic 59, 3) := by decide +kernel
theorem d_T_visit_50 : decode b_T_visit 50 = .ok (.ifCond .eq 14, 3) := by decide +kernel
theorem d_T_visit_53 : decode b_T_visit 53 = .ok (.iload 4, 2) := by decide +kernel
theorem d_T_visit_55 : decode b_T_visit 55 = .ok (.iconst 0, 1) := by decide +kernel
theorem d_T_visit_56 : decode b_T_visit 56 = .ok (.bipush 100, 2) := by decide +kernel
theorem d_T_visit_58 : decode b_T_visit 58 = .ok (.invokestatic 59, 3) := by decide +kernel
theorem d_T_visit_61 : decode b_T_visit 61 = .ok (.ifCond .ne 5, 3) := by decide +kernel
theorem d_T_visit_64 : decode b_T_visit 64 = .ok (.iconst (-1), 1) := by decide +kernel
theorem d_T_visit_65 : decode b_T_visit 65 = .ok (.ireturn, 1) := by decide +kernel
theorem d_T_visit_66 : decode b_T_visit 66 = .ok (.aload 5, 2) := by decide +kernel
theorem d_T_visit_68 : decode b_T_visit 68 = .ok (.iload_n 2, 1) := by decide +kernel
theorem d_T_visit_69 : decode b_T_visit 69 = .ok (.iload_n 3, 1) := by decide +kernel
theorem d_T_visit_70 : decode b_T_visit 70 = .ok (.iload 4, 2) := by decide +kernel
theorem d_T_visit_72 : decode b_T_visit 72 = .ok (.invokevirtual 63, 3) := by decide +kernel
theorem d_T_visit_75 : decode b_T_visit 75 = .ok (.aload 5, 2) := by decide +kernel
theorem d_T_visit_77 : decode b_T_visit 77 = .ok (.getfield 54, 3) := by decide +kernel
theorem d_T_visit_80 : decode b_T_visit 80 = .ok (.ireturn, 1) := by decide +kernel
theorem d_T_load_0 : decode b_T_load 0 = .ok (.aload_n 0, 1) := by decide +kernel
theorem d_T_load_1 : decode b_T_load 1 = .ok (.getfield 10, 3) := by decide +kernel
theorem d_T_load_4 : decode b_T_load 4 = .ok (.iload_n 1, 1) := by decide +kernel
theorem d_T_load_5 : decode b_T_load 5 = .ok (.invokevirtual 50, 3) := by decide +kernel
theorem d_T_load_8 : decode b_T_load 8 = .ok (.astore_n 2, 1) := by decide +kernel
theorem d_T_load_9 : decode b_T_load 9 = .ok (.aload_n 2, 1) := by decide +kernel
theorem d_T_load_10 : decode b_T_load 10 = .ok (.ifnull 12, 3) := by decide +kernel
theorem d_T_load_13 : decode b_T_load 13 = .ok (.aload_n 0, 1) := by decide +kernel
theorem d_T_load_14 : decode b_T_load 14 = .ok (.getfield 43, 3) := by decide +kernel
theorem d_T_load_17 : decode b_T_load 17 = .ok (.bipush 25, 2) := by decide +kernel
theorem d_T_load_19 : decode b_T_load 19 = .ok (.if_icmp .lt 5, 3) := by decide +kernel
theorem d_T_load_22 : decode b_T_load 22 = .ok (.iconst (-1), 1) := by decide +kernel
theorem d_T_load_23 : decode b_T_load 23 = .ok (.ireturn, 1) := by decide +kernel
theorem d_T_load_24 : decode b_T_load 24 = .ok (.aload_n 0, 1) := by decide +kernel
theorem d_T_load_25 : decode b_T_load 25 = .ok (.getfield 35, 3) := by decide +kernel
theorem d_T_load_28 : decode b_T_load 28 = .ok (.aload_n 0, 1) := by decide +kernel
theorem d_T_load_29 : decode b_T_load 29 = .ok (.getfield 43, 3) := by decide +kernel
theorem d_T_load_32 : decode b_T_load 32 = .ok (.new 33, 3) := by decide +kernel
theorem d_T_load_35 : decode b_T_load 35 = .ok (.dup, 1) := by decide +kernel
theorem d_T_load_36 : decode b_T_load 36 = .ok (.iload_n 1, 1) := by decide +kernel
theorem d_T_load_37 : decode b_T_load 37 = .ok (.aload_n 2, 1) := by decide +kernel
theorem d_T_load_38 : decode b_T_load 38 = .ok (.getfield 54, 3) := by decide +kernel
theorem d_T_load_41 : decode b_T_load 41 = .ok (.ifCond .ne 7, 3) := by decide +kernel
theorem d_T_load_44 : decode b_T_load 44 = .ok (.iconst 1, 1) := by decide +kernel
theorem d_T_load_45 : decode b_T_load 45 = .ok (.goto 4, 3) := by decide +kernel
theorem d_T_load_48 : decode b_T_load 48 = .ok (.iconst 0, 1) := by decide +kernel
theorem d_T_load_49 : decode b_T_load 49 = .ok (.invokespecial 67, 3) := by decide +kernel
theorem d_T_load_52 : decode b_T_load 52 = .ok (.aastore, 1) := by decide +kernel
theorem d_T_load_53 : decode b_T_load 53 = .ok (.aload_n 0, 1) := by decide +kernel
theorem d_T_load_54 : decode b_T_load 54 = .ok (.dup, 1) := by decide +kernel
theorem d_T_load_55 : decode b_T_load 55 = .ok (.getfield 43, 3) := by decide +kernel
theorem d_T_load_58 : decode b_T_load 58 = .ok (.iconst 1, 1) := by decide +kernel
theorem d_T_load_59 : decode b_T_load 59 = .ok (.iadd, 1) := by decide +kernel
theorem d_T_load_60 : decode b_T_load 60 = .ok (.putfield 43, 3) := by decide +kernel
theorem d_T_load_63 : decode b_T_load 63 = .ok (.aload_n 0, 1) := by decide +kernel
theorem d_T_load_64 : decode b_T_load 64 = .ok (.getfield 43, 3) := by decide +kernel
theorem d_T_load_67 : decode b_T_load 67 = .ok (.iconst 1, 1) := by decide +kernel
theorem d_T_load_68 : decode b_T_load 68 = .ok (.isub, 1) := by decide +kernel
theorem d_T_load_69 : decode b_T_load 69 = .ok (.ireturn, 1) := by decide +kernel
theorem d_T_may_0 : decode b_T_may 0 = .ok (.aload_n 0, 1) := by decide +kernel
theorem d_T_may_1 : decode b_T_may 1 = .ok (.iload_n 1, 1) := by decide +kernel
theorem d_T_may_2 : decode b_T_may 2 = .ok (.invokevirtual 70, 3) := by decide +kernel
theorem d_T_may_5 : decode b_T_may 5 = .ok (.astore_n 3, 1) := by decide +kernel
theorem d_T_may_6 : decode b_T_may 6 = .ok (.aload_n 3, 1) := by decide +kernel
theorem d_T_may_7 : decode b_T_may 7 = .ok (.ifnull 12, 3) := by decide +kernel
theorem d_T_may_10 : decode b_T_may 10 = .ok (.iload_n 2, 1) := by decide +kernel
theorem d_T_may_11 : decode b_T_may 11 = .ok (.iconst 0, 1) := by decide +kernel
theorem d_T_may_12 : decode b_T_may 12 = .ok (.iconst 5, 1) := by decide +kernel
theorem d_T_may_13 : decode b_T_may 13 = .ok (.invokestatic 59, 3) := by decide +kernel
theorem d_T_may_16 : decode b_T_may 16 = .ok (.ifCond .ne 5, 3) := by decide +kernel
theorem d_T_may_19 : decode b_T_may 19 = .ok (.iconst (-1), 1) := by decide +kernel
theorem d_T_may_20 : decode b_T_may 20 = .ok (.ireturn, 1) := by decide +kernel
theorem d_T_may_21 : decode b_T_may 21 = .ok (.aload_n 3, 1) := by decide +kernel
theorem d_T_may_22 : decode b_T_may 22 = .ok (.getfield 74, 3) := by decide +kernel
theorem d_T_may_25 : decode b_T_may 25 = .ok (.ifCond .ne 10, 3) := by decide +kernel
theorem d_T_may_28 : decode b_T_may 28 = .ok (.aload_n 3, 1) := by decide +kernel
theorem d_T_may_29 : decode b_T_may 29 = .ok (.getfield 78, 3) := by decide +kernel
theorem d_T_may_32 : decode b_T_may 32 = .ok (.ifCond .le 5, 3) := by decide +kernel
theorem d_T_may_35 : decode b_T_may 35 = .ok (.iconst 1, 1) := by decide +kernel
theorem d_T_may_36 : decode b_T_may 36 = .ok (.ireturn, 1) := by decide +kernel
theorem d_T_may_37 : decode b_T_may 37 = .ok (.aload_n 0, 1) := by decide +kernel
theorem d_T_may_38 : decode b_T_may 38 = .ok (.getfield 10, 3) := by decide +kernel
theorem d_T_may_41 : decode b_T_may 41 = .ok (.aload_n 3, 1) := by decide +kernel
theorem d_T_may_42 : decode b_T_may 42 = .ok (.getfield 81, 3) := by decide +kernel
theorem d_T_may_45 : decode b_T_may 45 = .ok (.aload_n 3, 1) := by decide +kernel
theorem d_T_may_46 : decode b_T_may 46 = .ok (.getfield 84, 3) := by decide +kernel
theorem d_T_may_49 : decode b_T_may 49 = .ok (.aload_n 3, 1) := by decide +kernel
theorem d_T_may_50 : decode b_T_may 50 = .ok (.getfield 87, 3) := by decide +kernel
theorem d_T_may_53 : decode b_T_may 53 = .ok (.iload_n 2, 1) := by decide +kernel
theorem d_T_may_54 : decode b_T_may 54 = .ok (.invokevirtual 90, 3) := by decide +kernel
theorem d_T_may_57 : decode b_T_may 57 = .ok (.ifCond .ne 5, 3) := by decide +kernel
theorem d_T_may_60 : decode b_T_may 60 = .ok (.iconst 2, 1) := by decide +kernel
theorem d_T_may_61 : decode b_T_may 61 = .ok (.ireturn, 1) := by decide +kernel
theorem d_T_may_62 : decode b_T_may 62 = .ok (.aload_n 0, 1) := by decide +kernel
theorem d_T_may_63 : decode b_T_may 63 = .ok (.aload_n 3, 1) := by decide +kernel
theorem d_T_may_64 : decode b_T_may 64 = .ok (.iload_n 2, 1) := by decide +kernel
theorem d_T_may_65 : decode b_T_may 65 = .ok (.invokevirtual 94, 3) := by decide +kernel
theorem d_T_may_68 : decode b_T_may 68 = .ok (.ifCond .eq 5, 3) := by decide +kernel
theorem d_T_may_71 : decode b_T_may 71 = .ok (.iconst 3, 1) := by decide +kernel
theorem d_T_may_72 : decode b_T_may 72 = .ok (.ireturn, 1) := by decide +kernel
theorem d_T_may_73 : decode b_T_may 73 = .ok (.aload_n 0, 1) := by decide +kernel
theorem d_T_may_74 : decode b_T_may 74 = .ok (.getfield 19, 3) := by decide +kernel
theorem d_T_may_77 : decode b_T_may 77 = .ok (.aload_n 0, 1) := by decide +kernel
theorem d_T_may_78 : decode b_T_may 78 = .ok (.getfield 10, 3) := by decide +kernel
theorem d_T_may_81 : decode b_T_may 81 = .ok (.aload_n 0, 1) := by decide +kernel
theorem d_T_may_82 : decode b_T_may 82 = .ok (.aload_n 3, 1) := by decide +kernel
theorem d_T_may_83 : decode b_T_may 83 = .ok (.iload_n 2, 1) := by decide +kernel
theorem d_T_may_84 : decode b_T_may 84 = .ok (.invokevirtual 98, 3) := by decide +kernel
theorem d_T_may_87 : decode b_T_may 87 = .ok (.iconst 0, 1) := by decide +kernel
theorem d_T_may_88 : decode b_T_may 88 = .ok (.invokevirtual 102, 3) := by decide +kernel
theorem d_T_may_91 : decode b_T_may 91 = .ok (.ifCond .ne 5, 3) := by decide +kernel
theorem d_T_may_94 : decode b_T_may 94 = .ok (.iconst 4, 1) := by decide +kernel
theorem d_T_may_95 : decode b_T_may 95 = .ok (.ireturn, 1) := by decide +kernel
theorem d_T_may_96 : decode b_T_may 96 = .ok (.aload_n 0, 1) := by decide +kernel
theorem d_T_may_97 : decode b_T_may 97 = .ok (.aload_n 3, 1) := by decide +kernel
theorem d_T_may_98 : decode b_T_may 98 = .ok (.getfield 87, 3) := by decide +kernel
theorem d_T_may_101 : decode b_T_may 101 = .ok (.iload_n 2, 1) := by decide +kernel
theorem d_T_may_102 : decode b_T_may 102 = .ok (.invokevirtual 106, 3) := by decide +kernel
theorem d_T_may_105 : decode b_T_may 105 = .ok (.getfield 110, 3) := by decide +kernel
theorem d_T_may_108 : decode b_T_may 108 = .ok (.ifCond .eq 7, 3) := by decide +kernel
theorem d_T_may_111 : decode b_T_may 111 = .ok (.iconst 5, 1) := by decide +kernel
theorem d_T_may_112 : decode b_T_may 112 = .ok (.goto 4, 3) := by decide +kernel
theorem d_T_may_115 : decode b_T_may 115 = .ok (.iconst 0, 1) := by decide +kernel
theorem d_T_may_116 : decode b_T_may 116 = .ok (.ireturn, 1) := by decide +kernel
theorem d_T_move_0 : decode b_T_move 0 = .ok (.aload_n 0, 1) := by decide +kernel
theorem d_T_move_1 : decode b_T_move 1 = .ok (.iload_n 1, 1) := by decide +kernel
theorem d_T_move_2 : decode b_T_move 2 = .ok (.iload_n 2, 1) := by decide +kernel
theorem d_T_move_3 : decode b_T_move 3 = .ok (.invokevirtual 113, 3) := by decide +kernel
theorem d_T_move_6 : decode b_T_move 6 = .ok (.istore_n 3, 1) := by decide +kernel
theorem d_T_move_7 : decode b_T_move 7 = .ok (.iload_n 3, 1) := by decide +kernel
theorem d_T_move_8 : decode b_T_move 8 = .ok (.ifCond .ne 9, 3) := by decide +kernel
theorem d_T_move_11 : decode b_T_move 11 = .ok (.aload_n 0, 1) := by decide +kernel
theorem d_T_move_12 : decode b_T_move 12 = .ok (.iload_n 1, 1) := by decide +kernel
theorem d_T_move_13 : decode b_T_move 13 = .ok (.iload_n 2, 1) := by decide +kernel
theorem d_T_move_14 : decode b_T_move 14 = .ok (.invokevirtual 117, 3) := by decide +kernel
theorem d_T_move_17 : decode b_T_move 17 = .ok (.iload_n 3, 1) := by decide +kernel
theorem d_T_move_18 : decode b_T_move 18 = .ok (.ireturn, 1) := by decide +kernel
theorem d_T_next_0 : decode b_T_next 0 = .ok (.iconst (-1), 1) := by decide +kernel
theorem d_T_next_1 : decode b_T_next 1 = .ok (.istore_n 1, 1) := by decide +kernel
theorem d_T_next_2 : decode b_T_next 2 = .ok (.sipush 1002, 3) := by decide +kernel
theorem d_T_next_5 : decode b_T_next 5 = .ok (.istore_n 2, 1) := by decide +kernel
theorem d_T_next_6 : decode b_T_next 6 = .ok (.iconst 0, 1) := by decide +kernel
theorem d_T_next_7 : decode b_T_next 7 = .ok (.istore_n 3, 1) := by decide +kernel
theorem d_T_next_8 : decode b_T_next 8 = .ok (.iload_n 3, 1) := by decide +kernel
theorem d_T_next_9 : decode b_T_next 9 = .ok (.aload_n 0, 1) := by decide +kernel
theorem d_T_next_10 : decode b_T_next 10 = .ok (.getfield 43, 3) := by decide +kernel
theorem d_T_next_13 : decode b_T_next 13 = .ok (.if_icmp .ge 59, 3) := by decide +kernel
theorem d_T_next_16 : decode b_T_next 16 = .ok (.aload_n 0, 1) := by decide +kernel
theorem d_T_next_17 : decode b_T_next 17 = .ok (.iload_n 3, 1) := by decide +kernel
theorem d_T_next_18 : decode b_T_next 18 = .ok (.invokevirtual 121, 3) := by decide +kernel
theorem d_T_next_21 : decode b_T_next 21 = .ok (.istore 4, 2) := by decide +kernel
theorem d_T_next_23 : decode b_T_next 23 = .ok (.iconst 0, 1) := by decide +kernel
theorem d_T_next_24 : decode b_T_next 24 = .ok (.istore 5, 2) := by decide +kernel
theorem d_T_next_26 : decode b_T_next 26 = .ok (.iload 5, 2) := by decide +kernel
theorem d_T_next_28 : decode b_T_next 28 = .ok (.bipush 6, 2) := by decide +kernel
theorem d_T_next_30 : decode b_T_next 30 = .ok (.if_icmp .ge 36, 3) := by decide +kernel
theorem d_T_next_33 : decode b_T_next 33 = .ok (.iload 4, 2) := by decide +kernel
theorem d_T_next_35 : decode b_T_next 35 = .ok (.iload_n 2, 1) := by decide +kernel
theorem d_T_next_36 : decode b_T_next 36 = .ok (.if_icmp .ge 30, 3) := by decide +kernel
theorem d_T_next_39 : decode b_T_next 39 = .ok (.aload_n 0, 1) := by decide +kernel
theorem d_T_next_40 : decode b_T_next 40 = .ok (.iload_n 3, 1) := by decide +kernel
theorem d_T_next_41 : decode b_T_next 41 = .ok (.iload 5, 2) := by decide +kernel
theorem d_T_next_43 : decode b_T_next 43 = .ok (.invokevirtual 113, 3) := by decide +kernel
theorem d_T_next_46 : decode b_T_next 46 = .ok (.ifCond .ne 14, 3) := by decide +kernel
theorem d_T_next_49 : decode b_T_next 49 = .ok (.bipush 8, 2) := by decide +kernel
theorem d_T_next_51 : decode b_T_next 51 = .ok (.iload_n 3, 1) := by decide +kernel
theorem d_T_next_52 : decode b_T_next 52 = .ok (.imul, 1) := by decide +kernel
theorem d_T_next_53 : decode b_T_next 53 = .ok (.iload 5, 2) := by decide +kernel
theorem d_T_next_55 : decode b_T_next 55 = .ok (.iadd, 1) := by decide +kernel
theorem d_T_next_56 : decode b_T_next 56 = .ok (.istore_n 1, 1) := by decide +kernel
theorem d_T_next_57 : decode b_T_next 57 = .ok (.iload 4, 2) := by decide +kernel
theorem d_T_next_59 : decode b_T_next 59 = .ok (.istore_n 2, 1) := by decide +kernel
theorem d_T_next_60 : decode b_T_next 60 = .ok (.iinc 5 1, 3) := by decide +kernel
theorem d_T_next_63 : decode b_T_next 63 = .ok (.goto (-37), 3) := by decide +kernel
theorem d_T_next_66 : decode b_T_next 66 = .ok (.iinc 3 1, 3) := by decide +kernel
theorem d_T_next_69 : decode b_T_next 69 = .ok (.goto (-61), 3) := by decide +kernel
theorem d_T_next_72 : decode b_T_next 72 = .ok (.iload_n 1, 1) := by decide +kernel
theorem d_T_next_73 : decode b_T_next 73 = .ok (.ireturn, 1) := by decide +kernel
theorem d_T_go_0 : decode b_T_go 0 = .ok (.aload_n 0, 1) := by decide +kernel
theorem d_T_go_1 : decode b_T_go 1 = .ok (.invokevirtual 125, 3) := by decide +kernel
theorem d_T_go_4 : decode b_T_go 4 = .ok (.istore_n 1, 1) := by decide +kernel
theorem d_T_go_5 : decode b_T_go 5 = .ok (.iload_n 1, 1) := by decide +kernel
theorem d_T_go_6 : decode b_T_go 6 = .ok (.iconst (-1), 1) := by decide +kernel
theorem d_T_go_7 : decode b_T_go 7 = .ok (.if_icmp .eq 15, 3) := by decide +kernel
theorem d_T_go_10 : decode b_T_go 10 = .ok (.aload_n 0, 1) := by decide +kernel
theorem d_T_go_11 : decode b_T_go 11 = .ok (.iload_n 1, 1) := by decide +kernel
theorem d_T_go_12 : decode b_T_go 12 = .ok (.bipush 8, 2) := by decide +kernel
theorem d_T_go_14 : decode b_T_go 14 = .ok (.idiv, 1) := by decide +kernel
theorem d_T_go_15 : decode b_T_go 15 = .ok (.iload_n 1, 1) := by decide +kernel
theorem d_T_go_16 : decode b_T_go 16 = .ok (.bipush 8, 2) := by decide +kernel
theorem d_T_go_18 : decode b_T_go 18 = .ok (.irem, 1) := by decide +kernel
theorem d_T_go_19 : decode b_T_go 19 = .ok (.invokevirtual 117, 3) := by decide +kernel
theorem d_T_go_22 : decode b_T_go 22 = .ok (.iload_n 1, 1) := by decide +kernel
theorem d_T_go_23 : decode b_T_go 23 = .ok (.ireturn, 1) := by decide +kernel
theorem d_T_tick_0 : decode b_T_tick 0 = .ok (.iload_n 1, 1) := by decide +kernel
theorem d_T_tick_1 : decode b_T_tick 1 = .ok (.iconst 0, 1) := by decide +kernel
theorem d_T_tick_2 : decode b_T_tick 2 = .ok (.sipush 200, 3) := by decide +kernel
theorem d_T_tick_5 : decode b_T_tick 5 = .ok (.invokestatic 59, 3) := by decide +kernel
theorem d_T_tick_8 : decode b_T_tick 8 = .ok (.ifCond .ne 5, 3) := by decide +kernel
theorem d_T_tick_11 : decode b_T_tick 11 = .ok (.iconst (-1), 1) := by decide +kernel
theorem d_T_tick_12 : decode b_T_tick 12 = .ok (.ireturn, 1) := by decide +kernel
theorem d_T_tick_13 : decode b_T_tick 13 = .ok (.iconst 0, 1) := by decide +kernel
theorem d_T_tick_14 : decode b_T_tick 14 = .ok (.istore_n 2, 1) := by decide +kernel
theorem d_T_tick_15 : decode b_T_tick 15 = .ok (.iconst 0, 1) := by decide +kernel
theorem d_T_tick_16 : decode b_T_tick 16 = .ok (.istore_n 3, 1) := by decide +kernel
theorem d_T_tick_17 : decode b_T_tick 17 = .ok (.iload_n 3, 1) := by decide +kernel
theorem d_T_tick_18 : decode b_T_tick 18 = .ok (.iconst 4, 1) := by decide +kernel
theorem d_T_tick_19 : decode b_T_tick 19 = .ok (.if_icmp .ge 69, 3) := by decide +kernel
theorem d_T_tick_22 : decode b_T_tick 22 = .ok (.aload_n 0, 1) := by decide +kernel
theorem d_T_tick_23 : decode b_T_tick 23 = .ok (.aload_n 0, 1) := by decide +kernel
theorem d_T_tick_24 : decode b_T_tick 24 = .ok (.getfield 39, 3) := by decide +kernel
theorem d_T_tick_27 : decode b_T_tick 27 = .ok (.iload_n 3, 1) := by decide +kernel
theorem d_T_tick_28 : decode b_T_tick 28 = .ok (.iaload, 1) := by decide +kernel
theorem d_T_tick_29 : decode b_T_tick 29 = .ok (.invokevirtual 70, 3) := by decide +kernel
theorem d_T_tick_32 : decode b_T_tick 32 = .ok (.astore 4, 2) := by decide +kernel
theorem d_T_tick_34 : decode b_T_tick 34 = .ok (.aload 4, 2) := by decide +kernel
theorem d_T_tick_36 : decode b_T_tick 36 = .ok (.ifnull 46, 3) := by decide +kernel
theorem d_T_tick_39 : decode b_T_tick 39 = .ok (.aload_n 0, 1) := by decide +kernel
theorem d_T_tick_40 : decode b_T_tick 40 = .ok (.getfield 10, 3) := by decide +kernel
theorem d_T_tick_43 : decode b_T_tick 43 = .ok (.iload_n 3, 1) := by decide +kernel
theorem d_T_tick_44 : decode b_T_tick 44 = .ok (.invokevirtual 129, 3) := by decide +kernel
theorem d_T_tick_47 : decode b_T_tick 47 = .ok (.ifCond .ne 35, 3) := by decide +kernel
theorem d_T_tick_50 : decode b_T_tick 50 = .ok (.aload 4, 2) := by decide +kernel
theorem d_T_tick_52 : decode b_T_tick 52 = .ok (.iload_n 1, 1) := by decide +kernel
theorem d_T_tick_53 : decode b_T_tick 53 = .ok (.aload_n 0, 1) := by decide +kernel
theorem d_T_tick_54 : decode b_T_tick 54 = .ok (.getfield 47, 3) := by decide +kernel
theorem d_T_tick_57 : decode b_T_tick 57 = .ok (.invokevirtual 133, 3) := by decide +kernel
theorem d_T_tick_60 : decode b_T_tick 60 = .ok (.iload_n 2, 1) := by decide +kernel
theorem d_T_tick_61 : decode b_T_tick 61 = .ok (.aload 4, 2) := by decide +kernel
theorem d_T_tick_63 : decode b_T_tick 63 = .ok (.aload_n 0, 1) := by decide +kernel
theorem d_T_tick_64 : decode b_T_tick 64 = .ok (.aload 4, 2) := by decide +kernel
theorem d_T_tick_66 : decode b_T_tick 66 = .ok (.invokevirtual 136, 3) := by decide +kernel
theorem d_T_tick_69 : decode b_T_tick 69 = .ok (.invokevirtual 140, 3) := by decide +kernel
theorem d_T_tick_72 : decode b_T_tick 72 = .ok (.ifCond .eq 7, 3) := by decide +kernel
theorem d_T_tick_75 : decode b_T_tick 75 = .ok (.iconst 1, 1) := by decide +kernel
theorem d_T_tick_76 : decode b_T_tick 76 = .ok (.goto 4, 3) := by decide +kernel
theorem d_T_tick_79 : decode b_T_tick 79 = .ok (.iconst 0, 1) := by decide +kernel
theorem d_T_tick_80 : decode b_T_tick 80 = .ok (.iadd, 1) := by decide +kernel
theorem d_T_tick_81 : decode b_T_tick 81 = .ok (.istore_n 2, 1) := by decide +kernel
theorem d_T_tick_82 : decode b_T_tick 82 = .ok (.iinc 3 1, 3) := by decide +kernel
theorem d_T_tick_85 : decode b_T_tick 85 = .ok (.goto (-68), 3) := by decide +kernel
theorem d_T_tick_88 : decode b_T_tick 88 = .ok (.aload_n 0, 1) := by decide +kernel
theorem d_T_tick_89 : decode b_T_tick 89 = .ok (.dup, 1) := by decide +kernel
theorem d_T_tick_90 : decode b_T_tick 90 = .ok (.getfield 47, 3) := by decide +kernel
theorem d_T_tick_93 : decode b_T_tick 93 = .ok (.iload_n 1, 1) := by decide +kernel
theorem d_T_tick_94 : decode b_T_tick 94 = .ok (.iadd, 1) := by decide +kernel
theorem d_T_tick_95 : decode b_T_tick 95 = .ok (.putfield 47, 3) := by decide +kernel
theorem d_T_tick_98 : decode b_T_tick 98 = .ok (.iload_n 1, 1) := by decide +kernel
theorem d_T_tick_99 : decode b_T_tick 99 = .ok (.ifCond .le 19, 3) := by decide +kernel
theorem d_T_tick_102 : decode b_T_tick 102 = .ok (.aload_n 0, 1) := by decide +kernel
theorem d_T_tick_103 : decode b_T_tick 103 = .ok (.getfield 26, 3) := by decide +kernel
theorem d_T_tick_106 : decode b_T_tick 106 = .ok (.iconst 0, 1) := by decide +kernel
theorem d_T_tick_107 : decode b_T_tick 107 = .ok (.putfield 110, 3) := by decide +kernel
theorem d_T_tick_110 : decode b_T_tick 110 = .ok (.aload_n 0, 1) := by decide +kernel
theorem d_T_tick_111 : decode b_T_tick 111 = .ok (.getfield 30, 3) := by decide +kernel
theorem d_T_tick_114 : decode b_T_tick 114 = .ok (.iconst 0, 1) := by decide +kernel
theorem d_T_tick_115 : decode b_T_tick 115 = .ok (.putfield 110, 3) := by decide +kernel
theorem d_T_tick_118 : decode b_T_tick 118 = .ok (.iload_n 2, 1) := by decide +kernel
theorem d_T_tick_119 : decode b_T_tick 119 = .ok (.ireturn, 1) := by decide +kernel
theorem d_T_down_0 : decode b_T_down 0 = .ok (.iload_n 1, 1) := by decide +kernel
theorem d_T_down_1 : decode b_T_down 1 = .ok (.iconst 0, 1) := by decide +kernel
theorem d_T_down_2 : decode b_T_down 2 = .ok (.iconst 3, 1) := by decide +kernel
theorem d_T_down_3 : decode b_T_down 3 = .ok (.invokestatic 59, 3) := by decide +kernel
theorem d_T_down_6 : decode b_T_down 6 = .ok (.ifCond .eq 15, 3) := by decide +kernel
theorem d_T_down_9 : decode b_T_down 9 = .ok (.aload_n 0, 1) := by decide +kernel
theorem d_T_down_10 : decode b_T_down 10 = .ok (.getfield 10, 3) := by decide +kernel
theorem d_T_down_13 : decode b_T_down 13 = .ok (.iload_n 1, 1) := by decide +kernel
theorem d_T_down_14 : decode b_T_down 14 = .ok (.invokevirtual 129, 3) := by decide +kernel
theorem d_T_down_17 : decode b_T_down 17 = .ok (.iload_n 2, 1) := by decide +kernel
theorem d_T_down_18 : decode b_T_down 18 = .ok (.if_icmp .ne 5, 3) := by decide +kernel
theorem d_T_down_21 : decode b_T_down 21 = .ok (.iconst 0, 1) := by decide +kernel
theorem d_T_down_22 : decode b_T_down 22 = .ok (.ireturn, 1) := by decide +kernel
theorem d_T_down_23 : decode b_T_down 23 = .ok (.aload_n 0, 1) := by decide +kernel
theorem d_T_down_24 : decode b_T_down 24 = .ok (.getfield 10, 3) := by decide +kernel
theorem d_T_down_27 : decode b_T_down 27 = .ok (.iload_n 1, 1) := by decide +kernel
theorem d_T_down_28 : decode b_T_down 28 = .ok (.invokevirtual 143, 3) := by decide +kernel
theorem d_T_down_31 : decode b_T_down 31 = .ok (.aload_n 0, 1) := by decide +kernel
theorem d_T_down_32 : decode b_T_down 32 = .ok (.getfield 19, 3) := by decide +kernel
theorem d_T_down_35 : decode b_T_down 35 = .ok (.invokevirtual 147, 3) := by decide +kernel
theorem d_T_down_38 : decode b_T_down 38 = .ok (.iconst 1, 1) := by decide +kernel
theorem d_T_down_39 : decode b_T_down 39 = .ok (.ireturn, 1) := by decide +kernel
theorem d_T_safe_0 : decode b_T_safe 0 = .ok (.aload_n 0, 1) := by decide +kernel
theorem d_T_safe_1 : decode b_T_safe 1 = .ok (.getfield 19, 3) := by decide +kernel
theorem d_T_safe_4 : decode b_T_safe 4 = .ok (.aload_n 0, 1) := by decide +kernel
theorem d_T_safe_5 : decode b_T_safe 5 = .ok (.getfield 10, 3) := by decide +kernel
theorem d_T_safe_8 : decode b_T_safe 8 = .ok (.aload_n 0, 1) := by decide +kernel
theorem d_T_safe_9 : decode b_T_safe 9 = .ok (.invokevirtual 150, 3) := by decide +kernel
theorem d_T_safe_12 : decode b_T_safe 12 = .ok (.iconst 0, 1) := by decide +kernel
theorem d_T_safe_13 : decode b_T_safe 13 = .ok (.invokevirtual 102, 3) := by decide +kernel
theorem d_T_safe_16 : decode b_T_safe 16 = .ok (.ireturn, 1) := by decide +kernel
theorem d_T_in_0 : decode b_T_in 0 = .ok (.iload_n 1, 1) := by decide +kernel
theorem d_T_in_1 : decode b_T_in 1 = .ok (.iconst 0, 1) := by decide +kernel
theorem d_T_in_2 : decode b_T_in 2 = .ok (.iconst 4, 1) := by decide +kernel
theorem d_T_in_3 : decode b_T_in 3 = .ok (.invokestatic 59, 3) := by decide +kernel
theorem d_T_in_6 : decode b_T_in 6 = .ok (.ifCond .eq 12, 3) := by decide +kernel
theorem d_T_in_9 : decode b_T_in 9 = .ok (.aload_n 0, 1) := by decide +kernel
theorem d_T_in_10 : decode b_T_in 10 = .ok (.getfield 39, 3) := by decide +kernel
theorem d_T_in_13 : decode b_T_in 13 = .ok (.iload_n 1, 1) := by decide +kernel
theorem d_T_in_14 : decode b_T_in 14 = .ok (.iaload, 1) := by decide +kernel
theorem d_T_in_15 : decode b_T_in 15 = .ok (.goto 4, 3) := by decide +kernel
theorem d_T_in_18 : decode b_T_in 18 = .ok (.iconst (-1), 1) := by decide +kernel
theorem d_T_in_19 : decode b_T_in 19 = .ok (.ireturn, 1) := by decide +kernel
theorem d_T_place_0 : decode b_T_place 0 = .ok (.aload_n 0, 1) := by decide +kernel
theorem d_T_place_1 : decode b_T_place 1 = .ok (.iload_n 1, 1) := by decide +kernel
theorem d_T_place_2 : decode b_T_place 2 = .ok (.invokevirtual 70, 3) := by decide +kernel
theorem d_T_place_5 : decode b_T_place 5 = .ok (.astore_n 2, 1) := by decide +kernel
theorem d_T_place_6 : decode b_T_place 6 = .ok (.aload_n 2, 1) := by decide +kernel
theorem d_T_place_7 : decode b_T_place 7 = .ok (.ifnonnull 7, 3) := by decide +kernel
theorem d_T_place_10 : decode b_T_place 10 = .ok (.iconst (-1), 1) := by decide +kernel
theorem d_T_place_11 : decode b_T_place 11 = .ok (.goto 7, 3) := by decide +kernel
theorem d_T_place_14 : decode b_T_place 14 = .ok (.aload_n 2, 1) := by decide +kernel
theorem d_T_place_15 : decode b_T_place 15 = .ok (.getfield 87, 3) := by decide +kernel
theorem d_T_place_18 : decode b_T_place 18 = .ok (.ireturn, 1) := by decide +kernel
theorem d_T_stage_0 : decode b_T_stage 0 = .ok (.aload_n 0, 1) := by decide +kernel
theorem d_T_stage_1 : decode b_T_stage 1 = .ok (.iload_n 1, 1) := by decide +kernel
theorem d_T_stage_2 : decode b_T_stage 2 = .ok (.invokevirtual 70, 3) := by decide +kernel
theorem d_T_stage_5 : decode b_T_stage 5 = .ok (.astore_n 2, 1) := by decide +kernel
theorem d_T_stage_6 : decode b_T_stage 6 = .ok (.aload_n 2, 1) := by decide +kernel
theorem d_T_stage_7 : decode b_T_stage 7 = .ok (.ifnonnull 7, 3) := by decide +kernel
theorem d_T_stage_10 : decode b_T_stage 10 = .ok (.iconst (-1), 1) := by decide +kernel
theorem d_T_stage_11 : decode b_T_stage 11 = .ok (.goto 7, 3) := by decide +kernel
theorem d_T_stage_14 : decode b_T_stage 14 = .ok (.aload_n 2, 1) := by decide +kernel
theorem d_T_stage_15 : decode b_T_stage 15 = .ok (.getfield 84, 3) := by decide +kernel
theorem d_T_stage_18 : decode b_T_stage 18 = .ok (.ireturn, 1) := by decide +kernel
theorem d_T_visited_0 : decode b_T_visited 0 = .ok (.aload_n 0, 1) := by decide +kernel
theorem d_T_visited_1 : decode b_T_visited 1 = .ok (.iload_n 1, 1) := by decide +kernel
theorem d_T_visited_2 : decode b_T_visited 2 = .ok (.invokevirtual 70, 3) := by decide +kernel
theorem d_T_visited_5 : decode b_T_visited 5 = .ok (.astore_n 3, 1) := by decide +kernel
theorem d_T_visited_6 : decode b_T_visited 6 = .ok (.aload_n 3, 1) := by decide +kernel
theorem d_T_visited_7 : decode b_T_visited 7 = .ok (.ifnull 11, 3) := by decide +kernel
theorem d_T_visited_10 : decode b_T_visited 10 = .ok (.aload_n 3, 1) := by decide +kernel
theorem d_T_visited_11 : decode b_T_visited 11 = .ok (.iload_n 2, 1) := by decide +kernel
theorem d_T_visited_12 : decode b_T_visited 12 = .ok (.invokevirtual 153, 3) := by decide +kernel
theorem d_T_visited_15 : decode b_T_visited 15 = .ok (.ifCond .ne 7, 3) := by decide +kernel
theorem d_T_visited_18 : decode b_T_visited 18 = .ok (.iconst (-1), 1) := by decide +kernel
theorem d_T_visited_19 : decode b_T_visited 19 = .ok (.goto 9, 3) := by decide +kernel
theorem d_T_visited_22 : decode b_T_visited 22 = .ok (.aload_n 3, 1) := by decide +kernel
theorem d_T_visited_23 : decode b_T_visited 23 = .ok (.getfield 156, 3) := by decide +kernel
theorem d_T_visited_26 : decode b_T_visited 26 = .ok (.iload_n 2, 1) := by decide +kernel
theorem d_T_visited_27 : decode b_T_visited 27 = .ok (.iaload, 1) := by decide +kernel
theorem d_T_visited_28 : decode b_T_visited 28 = .ok (.ireturn, 1) := by decide +kernel
theorem d_T_when_0 : decode b_T_when 0 = .ok (.aload_n 0, 1) := by decide +kernel
theorem d_T_when_1 : decode b_T_when 1 = .ok (.iload_n 1, 1) := by decide +kernel
theorem d_T_when_2 : decode b_T_when 2 = .ok (.invokevirtual 70, 3) := by decide +kernel
theorem d_T_when_5 : decode b_T_when 5 = .ok (.astore 4, 2) := by decide +kernel
theorem d_T_when_7 : decode b_T_when 7 = .ok (.aload 4, 2) := by decide +kernel
theorem d_T_when_9 : decode b_T_when 9 = .ok (.ifnull 12, 3) := by decide +kernel
theorem d_T_when_12 : decode b_T_when 12 = .ok (.aload 4, 2) := by decide +kernel
theorem d_T_when_14 : decode b_T_when 14 = .ok (.iload_n 2, 1) := by decide +kernel
theorem d_T_when_15 : decode b_T_when 15 = .ok (.invokevirtual 153, 3) := by decide +kernel
theorem d_T_when_18 : decode b_T_when 18 = .ok (.ifCond .ne 5, 3) := by decide +kernel
theorem d_T_when_21 : decode b_T_when 21 = .ok (.iconst (-1), 1) := by decide +kernel
theorem d_T_when_22 : decode b_T_when 22 = .ok (.ireturn, 1) := by decide +kernel
theorem d_T_when_23 : decode b_T_when 23 = .ok (.iload_n 3, 1) := by decide +kernel
theorem d_T_when_24 : decode b_T_when 24 = .ok (.ifCond .eq 13, 3) := by decide +kernel
theorem d_T_when_27 : decode b_T_when 27 = .ok (.aload 4, 2) := by decide +kernel
theorem d_T_when_29 : decode b_T_when 29 = .ok (.getfield 159, 3) := by decide +kernel
theorem d_T_when_32 : decode b_T_when 32 = .ok (.iload_n 2, 1) := by decide +kernel
theorem d_T_when_33 : decode b_T_when 33 = .ok (.iaload, 1) := by decide +kernel
theorem d_T_when_34 : decode b_T_when 34 = .ok (.goto 10, 3) := by decide +kernel
theorem d_T_when_37 : decode b_T_when 37 = .ok (.aload 4, 2) := by decide +kernel
theorem d_T_when_39 : decode b_T_when 39 = .ok (.getfield 162, 3) := by decide +kernel
theorem d_T_when_42 : decode b_T_when 42 = .ok (.iload_n 2, 1) := by decide +kernel
theorem d_T_when_43 : decode b_T_when 43 = .ok (.iaload, 1) := by decide +kernel
theorem d_T_when_44 : decode b_T_when 44 = .ok (.ireturn, 1) := by decide +kernel
theorem d_T_left_0 : decode b_T_left 0 = .ok (.aload_n 0, 1) := by decide +kernel
theorem d_T_left_1 : decode b_T_left 1 = .ok (.iload_n 1, 1) := by decide +kernel
theorem d_T_left_2 : decode b_T_left 2 = .ok (.invokevirtual 70, 3) := by decide +kernel
theorem d_T_left_5 : decode b_T_left 5 = .ok (.astore_n 2, 1) := by decide +kernel
theorem d_T_left_6 : decode b_T_left 6 = .ok (.aload_n 2, 1) := by decide +kernel
theorem d_T_left_7 : decode b_T_left 7 = .ok (.ifnonnull 7, 3) := by decide +kernel
theorem d_T_left_10 : decode b_T_left 10 = .ok (.iconst (-1), 1) := by decide +kernel
theorem d_T_left_11 : decode b_T_left 11 = .ok (.goto 7, 3) := by decide +kernel
theorem d_T_left_14 : decode b_T_left 14 = .ok (.aload_n 2, 1) := by decide +kernel
theorem d_T_left_15 : decode b_T_left 15 = .ok (.getfield 78, 3) := by decide +kernel
theorem d_T_left_18 : decode b_T_left 18 = .ok (.ireturn, 1) := by decide +kernel
theorem d_T_stay_0 : decode b_T_stay 0 = .ok (.aload_n 0, 1) := by decide +kernel
theorem d_T_stay_1 : decode b_T_stay 1 = .ok (.iload_n 1, 1) := by decide +kernel
theorem d_T_stay_2 : decode b_T_stay 2 = .ok (.invokevirtual 70, 3) := by decide +kernel
theorem d_T_stay_5 : decode b_T_stay 5 = .ok (.astore_n 2, 1) := by decide +kernel
theorem d_T_stay_6 : decode b_T_stay 6 = .ok (.aload_n 2, 1) := by decide +kernel
theorem d_T_stay_7 : decode b_T_stay 7 = .ok (.ifnull 11, 3) := by decide +kernel
theorem d_T_stay_10 : decode b_T_stay 10 = .ok (.aload_n 2, 1) := by decide +kernel
theorem d_T_stay_11 : decode b_T_stay 11 = .ok (.getfield 87, 3) := by decide +kernel
theorem d_T_stay_14 : decode b_T_stay 14 = .ok (.iconst 4, 1) := by decide +kernel
theorem d_T_stay_15 : decode b_T_stay 15 = .ok (.if_icmp .lt 5, 3) := by decide +kernel
theorem d_T_stay_18 : decode b_T_stay 18 = .ok (.iconst (-1), 1) := by decide +kernel
theorem d_T_stay_19 : decode b_T_stay 19 = .ok (.ireturn, 1) := by decide +kernel
theorem d_T_stay_20 : decode b_T_stay 20 = .ok (.aload_n 0, 1) := by decide +kernel
theorem d_T_stay_21 : decode b_T_stay 21 = .ok (.aload_n 2, 1) := by decide +kernel
theorem d_T_stay_22 : decode b_T_stay 22 = .ok (.invokevirtual 136, 3) := by decide +kernel
theorem d_T_stay_25 : decode b_T_stay 25 = .ok (.istore_n 3, 1) := by decide +kernel
theorem d_T_stay_26 : decode b_T_stay 26 = .ok (.iload_n 3, 1) := by decide +kernel
theorem d_T_stay_27 : decode b_T_stay 27 = .ok (.ifCond .ne 7, 3) := by decide +kernel
theorem d_T_stay_30 : decode b_T_stay 30 = .ok (.iconst (-1), 1) := by decide +kernel
theorem d_T_stay_31 : decode b_T_stay 31 = .ok (.goto 18, 3) := by decide +kernel
theorem d_T_stay_34 : decode b_T_stay 34 = .ok (.iconst 0, 1) := by decide +kernel
theorem d_T_stay_35 : decode b_T_stay 35 = .ok (.aload_n 2, 1) := by decide +kernel
theorem d_T_stay_36 : decode b_T_stay 36 = .ok (.getfield 78, 3) := by decide +kernel
theorem d_T_stay_39 : decode b_T_stay 39 = .ok (.iload_n 3, 1) := by decide +kernel
theorem d_T_stay_40 : decode b_T_stay 40 = .ok (.iadd, 1) := by decide +kernel
theorem d_T_stay_41 : decode b_T_stay 41 = .ok (.aload_n 2, 1) := by decide +kernel
theorem d_T_stay_42 : decode b_T_stay 42 = .ok (.getfield 165, 3) := by decide +kernel
theorem d_T_stay_45 : decode b_T_stay 45 = .ok (.isub, 1) := by decide +kernel
theorem d_T_stay_46 : decode b_T_stay 46 = .ok (.invokestatic 168, 3) := by decide +kernel
theorem d_T_stay_49 : decode b_T_stay 49 = .ok (.ireturn, 1) := by decide +kernel
theorem d_T_count_0 : decode b_T_count 0 = .ok (.iload_n 1, 1) := by decide +kernel
theorem d_T_count_1 : decode b_T_count 1 = .ok (.tableswitch 75 0 5 #[39, 44, 49, 54, 62, 70], 39) := by decide +kernel
theorem d_T_count_40 : decode b_T_count 40 = .ok (.aload_n 0, 1) := by decide +kernel
theorem d_T_count_41 : decode b_T_count 41 = .ok (.getfield 43, 3) := by decide +kernel
theorem d_T_count_44 : decode b_T_count 44 = .ok (.ireturn, 1) := by decide +kernel
theorem d_T_count_45 : decode b_T_count 45 = .ok (.aload_n 0, 1) := by decide +kernel
theorem d_T_count_46 : decode b_T_count 46 = .ok (.invokevirtual 173, 3) := by decide +kernel
theorem d_T_count_49 : decode b_T_count 49 = .ok (.ireturn, 1) := by decide +kernel
theorem d_T_count_50 : decode b_T_count 50 = .ok (.aload_n 0, 1) := by decide +kernel
theorem d_T_count_51 : decode b_T_count 51 = .ok (.invokevirtual 176, 3) := by decide +kernel
theorem d_T_count_54 : decode b_T_count 54 = .ok (.ireturn, 1) := by decide +kernel
theorem d_T_count_55 : decode b_T_count 55 = .ok (.aload_n 0, 1) := by decide +kernel
theorem d_T_count_56 : decode b_T_count 56 = .ok (.getfield 26, 3) := by decide +kernel
theorem d_T_count_59 : decode b_T_count 59 = .ok (.getfield 179, 3) := by decide +kernel
theorem d_T_count_62 : decode b_T_count 62 = .ok (.ireturn, 1) := by decide +kernel
theorem d_T_count_63 : decode b_T_count 63 = .ok (.aload_n 0, 1) := by decide +kernel
theorem d_T_count_64 : decode b_T_count 64 = .ok (.getfield 30, 3) := by decide +kernel
theorem d_T_count_67 : decode b_T_count 67 = .ok (.getfield 179, 3) := by decide +kernel
theorem d_T_count_70 : decode b_T_count 70 = .ok (.ireturn, 1) := by decide +kernel
theorem d_T_count_71 : decode b_T_count 71 = .ok (.aload_n 0, 1) := by decide +kernel
theorem d_T_count_72 : decode b_T_count 72 = .ok (.getfield 47, 3) := by decide +kernel
theorem d_T_count_75 : decode b_T_count 75 = .ok (.ireturn, 1) := by decide +kernel
theorem d_T_count_76 : decode b_T_count 76 = .ok (.iconst (-1), 1) := by decide +kernel
theorem d_T_count_77 : decode b_T_count 77 = .ok (.ireturn, 1) := by decide +kernel
theorem d_T_isWithin_0 : decode b_T_isWithin 0 = .ok (.iload_n 0, 1) := by decide +kernel
theorem d_T_isWithin_1 : decode b_T_isWithin 1 = .ok (.iload_n 1, 1) := by decide +kernel
theorem d_T_isWithin_2 : decode b_T_isWithin 2 = .ok (.if_icmp .lt 12, 3) := by decide +kernel
theorem d_T_isWithin_5 : decode b_T_isWithin 5 = .ok (.iload_n 0, 1) := by decide +kernel
theorem d_T_isWithin_6 : decode b_T_isWithin 6 = .ok (.iload_n 2, 1) := by decide +kernel
theorem d_T_isWithin_7 : decode b_T_isWithin 7 = .ok (.if_icmp .gt 7, 3) := by decide +kernel
theorem d_T_isWithin_10 : decode b_T_isWithin 10 = .ok (.iconst 1, 1) := by decide +kernel
theorem d_T_isWithin_11 : decode b_T_isWithin 11 = .ok (.goto 4, 3) := by decide +kernel
theorem d_T_isWithin_14 : decode b_T_isWithin 14 = .ok (.iconst 0, 1) := by decide +kernel
theorem d_T_isWithin_15 : decode b_T_isWithin 15 = .ok (.ireturn, 1) := by decide +kernel
theorem d_T_waferOf_0 : decode b_T_waferOf 0 = .ok (.iload_n 1, 1) := by decide +kernel
theorem d_T_waferOf_1 : decode b_T_waferOf 1 = .ok (.iconst 0, 1) := by decide +kernel
theorem d_T_waferOf_2 : decode b_T_waferOf 2 = .ok (.aload_n 0, 1) := by decide +kernel
theorem d_T_waferOf_3 : decode b_T_waferOf 3 = .ok (.getfield 43, 3) := by decide +kernel
theorem d_T_waferOf_6 : decode b_T_waferOf 6 = .ok (.iconst 1, 1) := by decide +kernel
theorem d_T_waferOf_7 : decode b_T_waferOf 7 = .ok (.isub, 1) := by decide +kernel
theorem d_T_waferOf_8 : decode b_T_waferOf 8 = .ok (.invokestatic 59, 3) := by decide +kernel
theorem d_T_waferOf_11 : decode b_T_waferOf 11 = .ok (.ifCond .eq 12, 3) := by decide +kernel
theorem d_T_waferOf_14 : decode b_T_waferOf 14 = .ok (.aload_n 0, 1) := by decide +kernel
theorem d_T_waferOf_15 : decode b_T_waferOf 15 = .ok (.getfield 35, 3) := by decide +kernel
theorem d_T_waferOf_18 : decode b_T_waferOf 18 = .ok (.iload_n 1, 1) := by decide +kernel
theorem d_T_waferOf_19 : decode b_T_waferOf 19 = .ok (.aaload, 1) := by decide +kernel
theorem d_T_waferOf_20 : decode b_T_waferOf 20 = .ok (.goto 4, 3) := by decide +kernel
theorem d_T_waferOf_23 : decode b_T_waferOf 23 = .ok (.aconst_null, 1) := by decide +kernel
theorem d_T_waferOf_24 : decode b_T_waferOf 24 = .ok (.areturn, 1) := by decide +kernel
theorem d_T_limitOf_0 : decode b_T_limitOf 0 = .ok (.aload_n 0, 1) := by decide +kernel
theorem d_T_limitOf_1 : decode b_T_limitOf 1 = .ok (.getfield 10, 3) := by decide +kernel
theorem d_T_limitOf_4 : decode b_T_limitOf 4 = .ok (.aload_n 1, 1) := by decide +kernel
theorem d_T_limitOf_5 : decode b_T_limitOf 5 = .ok (.getfield 81, 3) := by decide +kernel
theorem d_T_limitOf_8 : decode b_T_limitOf 8 = .ok (.invokevirtual 50, 3) := by decide +kernel
theorem d_T_limitOf_11 : decode b_T_limitOf 11 = .ok (.astore_n 2, 1) := by decide +kernel
theorem d_T_limitOf_12 : decode b_T_limitOf 12 = .ok (.aload_n 2, 1) := by decide +kernel
theorem d_T_limitOf_13 : decode b_T_limitOf 13 = .ok (.ifnonnull 7, 3) := by decide +kernel
theorem d_T_limitOf_16 : decode b_T_limitOf 16 = .ok (.iconst 0, 1) := by decide +kernel
theorem d_T_limitOf_17 : decode b_T_limitOf 17 = .ok (.goto 13, 3) := by decide +kernel
theorem d_T_limitOf_20 : decode b_T_limitOf 20 = .ok (.aload_n 2, 1) := by decide +kernel
theorem d_T_limitOf_21 : decode b_T_limitOf 21 = .ok (.aload_n 1, 1) := by decide +kernel
theorem d_T_limitOf_22 : decode b_T_limitOf 22 = .ok (.getfield 84, 3) := by decide +kernel
theorem d_T_limitOf_25 : decode b_T_limitOf 25 = .ok (.iconst 1, 1) := by decide +kernel
theorem d_T_limitOf_26 : decode b_T_limitOf 26 = .ok (.isub, 1) := by decide +kernel
theorem d_T_limitOf_27 : decode b_T_limitOf 27 = .ok (.invokevirtual 182, 3) := by decide +kernel
theorem d_T_limitOf_30 : decode b_T_limitOf 30 = .ok (.ireturn, 1) := by decide +kernel
theorem d_T_isTaken_0 : decode b_T_isTaken 0 = .ok (.iload_n 2, 1) := by decide +kernel
theorem d_T_isTaken_1 : decode b_T_isTaken 1 = .ok (.iconst 5, 1) := by decide +kernel
theorem d_T_isTaken_2 : decode b_T_isTaken 2 = .ok (.if_icmp .eq 25, 3) := by decide +kernel
theorem d_T_isTaken_5 : decode b_T_isTaken 5 = .ok (.iload_n 2, 1) := by decide +kernel
theorem d_T_isTaken_6 : decode b_T_isTaken 6 = .ok (.aload_n 1, 1) := by decide +kernel
theorem d_T_isTaken_7 : decode b_T_isTaken 7 = .ok (.getfield 87, 3) := by decide +kernel
theorem d_T_isTaken_10 : decode b_T_isTaken 10 = .ok (.if_icmp .eq 17, 3) := by decide +kernel
theorem d_T_isTaken_13 : decode b_T_isTaken 13 = .ok (.aload_n 0, 1) := by decide +kernel
theorem d_T_isTaken_14 : decode b_T_isTaken 14 = .ok (.getfield 39, 3) := by decide +kernel
theorem d_T_isTaken_17 : decode b_T_isTaken 17 = .ok (.iload_n 2, 1) := by decide +kernel
theorem d_T_isTaken_18 : decode b_T_isTaken 18 = .ok (.iaload, 1) := by decide +kernel
theorem d_T_isTaken_19 : decode b_T_isTaken 19 = .ok (.iconst (-1), 1) := by decide +kernel
theorem d_T_isTaken_20 : decode b_T_isTaken 20 = .ok (.if_icmp .eq 7, 3) := by decide +kernel
theorem d_T_isTaken_23 : decode b_T_isTaken 23 = .ok (.iconst 1, 1) := by decide +kernel
theorem d_T_isTaken_24 : decode b_T_isTaken 24 = .ok (.goto 4, 3) := by decide +kernel
theorem d_T_isTaken_27 : decode b_T_isTaken 27 = .ok (.iconst 0, 1) := by decide +kernel
theorem d_T_isTaken_28 : decode b_T_isTaken 28 = .ok (.ireturn, 1) := by decide +kernel
theorem d_T_situation_0 : decode b_T_situation 0 = .ok (.iconst 0, 1) := by decide +kernel
theorem d_T_situation_1 : decode b_T_situation 1 = .ok (.istore_n 1, 1) := by decide +kernel
theorem d_T_situation_2 : decode b_T_situation 2 = .ok (.iconst 0, 1) := by decide +kernel
theorem d_T_situation_3 : decode b_T_situation 3 = .ok (.istore_n 2, 1) := by decide +kernel
theorem d_T_situation_4 : decode b_T_situation 4 = .ok (.iload_n 2, 1) := by decide +kernel
theorem d_T_situation_5 : decode b_T_situation 5 = .ok (.iconst 4, 1) := by decide +kernel
theorem d_T_situation_6 : decode b_T_situation 6 = .ok (.if_icmp .gt 49, 3) := by decide +kernel
theorem d_T_situation_9 : decode b_T_situation 9 = .ok (.aload_n 0, 1) := by decide +kernel
theorem d_T_situation_10 : decode b_T_situation 10 = .ok (.aload_n 0, 1) := by decide +kernel
theorem d_T_situation_11 : decode b_T_situation 11 = .ok (.getfield 39, 3) := by decide +kernel
theorem d_T_situation_14 : decode b_T_situation 14 = .ok (.iload_n 2, 1) := by decide +kernel
theorem d_T_situation_15 : decode b_T_situation 15 = .ok (.iaload, 1) := by decide +kernel
theorem d_T_situation_16 : decode b_T_situation 16 = .ok (.invokevirtual 70, 3) := by decide +kernel
theorem d_T_situation_19 : decode b_T_situation 19 = .ok (.astore_n 3, 1) := by decide +kernel
theorem d_T_situation_20 : decode b_T_situation 20 = .ok (.aload_n 3, 1) := by decide +kernel
theorem d_T_situation_21 : decode b_T_situation 21 = .ok (.ifnull 28, 3) := by decide +kernel
theorem d_T_situation_24 : decode b_T_situation 24 = .ok (.aload_n 0, 1) := by decide +kernel
theorem d_T_situation_25 : decode b_T_situation 25 = .ok (.getfield 10, 3) := by decide +kernel
theorem d_T_situation_28 : decode b_T_situation 28 = .ok (.iload_n 2, 1) := by decide +kernel
theorem d_T_situation_29 : decode b_T_situation 29 = .ok (.invokevirtual 129, 3) := by decide +kernel
theorem d_T_situation_32 : decode b_T_situation 32 = .ok (.ifCond .ne 17, 3) := by decide +kernel
theorem d_T_situation_35 : decode b_T_situation 35 = .ok (.iload_n 1, 1) := by decide +kernel
theorem d_T_situation_36 : decode b_T_situation 36 = .ok (.iload_n 2, 1) := by decide +kernel
theorem d_T_situation_37 : decode b_T_situation 37 = .ok (.aload_n 3, 1) := by decide +kernel
theorem d_T_situation_38 : decode b_T_situation 38 = .ok (.getfield 81, 3) := by decide +kernel
theorem d_T_situation_41 : decode b_T_situation 41 = .ok (.aload_n 3, 1) := by decide +kernel
theorem d_T_situation_42 : decode b_T_situation 42 = .ok (.getfield 84, 3) := by decide +kernel
theorem d_T_situation_45 : decode b_T_situation 45 = .ok (.invokestatic 185, 3) := by decide +kernel
theorem d_T_situation_48 : decode b_T_situation 48 = .ok (.istore_n 1, 1) := by decide +kernel
theorem d_T_situation_49 : decode b_T_situation 49 = .ok (.iinc 2 1, 3) := by decide +kernel
theorem d_T_situation_52 : decode b_T_situation 52 = .ok (.goto (-48), 3) := by decide +kernel
theorem d_T_situation_55 : decode b_T_situation 55 = .ok (.iload_n 1, 1) := by decide +kernel
theorem d_T_situation_56 : decode b_T_situation 56 = .ok (.ireturn, 1) := by decide +kernel
theorem d_T_situationAfter_0 : decode b_T_situationAfter 0 = .ok (.aload_n 0, 1) := by decide +kernel
theorem d_T_situationAfter_1 : decode b_T_situationAfter 1 = .ok (.invokevirtual 150, 3) := by decide +kernel
theorem d_T_situationAfter_4 : decode b_T_situationAfter 4 = .ok (.aload_n 1, 1) := by decide +kernel
theorem d_T_situationAfter_5 : decode b_T_situationAfter 5 = .ok (.getfield 81, 3) := by decide +kernel
theorem d_T_situationAfter_8 : decode b_T_situationAfter 8 = .ok (.aload_n 1, 1) := by decide +kernel
theorem d_T_situationAfter_9 : decode b_T_situationAfter 9 = .ok (.getfield 84, 3) := by decide +kernel
theorem d_T_situationAfter_12 : decode b_T_situationAfter 12 = .ok (.aload_n 1, 1) := by decide +kernel
theorem d_T_situationAfter_13 : decode b_T_situationAfter 13 = .ok (.getfield 87, 3) := by decide +kernel
theorem d_T_situationAfter_16 : decode b_T_situationAfter 16 = .ok (.iload_n 2, 1) := by decide +kernel
theorem d_T_situationAfter_17 : decode b_T_situationAfter 17 = .ok (.invokestatic 191, 3) := by decide +kernel
theorem d_T_situationAfter_20 : decode b_T_situationAfter 20 = .ok (.ireturn, 1) := by decide +kernel
theorem d_T_robotFor_0 : decode b_T_robotFor 0 = .ok (.iload_n 1, 1) := by decide +kernel
theorem d_T_robotFor_1 : decode b_T_robotFor 1 = .ok (.invokestatic 195, 3) := by decide +kernel
theorem d_T_robotFor_4 : decode b_T_robotFor 4 = .ok (.ifCond .ne 10, 3) := by decide +kernel
theorem d_T_robotFor_7 : decode b_T_robotFor 7 = .ok (.iload_n 2, 1) := by decide +kernel
theorem d_T_robotFor_8 : decode b_T_robotFor 8 = .ok (.invokestatic 195, 3) := by decide +kernel
theorem d_T_robotFor_11 : decode b_T_robotFor 11 = .ok (.ifCond .eq 10, 3) := by decide +kernel
theorem d_T_robotFor_14 : decode b_T_robotFor 14 = .ok (.aload_n 0, 1) := by decide +kernel
theorem d_T_robotFor_15 : decode b_T_robotFor 15 = .ok (.getfield 30, 3) := by decide +kernel
theorem d_T_robotFor_18 : decode b_T_robotFor 18 = .ok (.goto 7, 3) := by decide +kernel
theorem d_T_robotFor_21 : decode b_T_robotFor 21 = .ok (.aload_n 0, 1) := by decide +kernel
theorem d_T_robotFor_22 : decode b_T_robotFor 22 = .ok (.getfield 26, 3) := by decide +kernel
theorem d_T_robotFor_25 : decode b_T_robotFor 25 = .ok (.areturn, 1) := by decide +kernel
theorem d_T_carry_0 : decode b_T_carry 0 = .ok (.aload_n 0, 1) := by decide +kernel
theorem d_T_carry_1 : decode b_T_carry 1 = .ok (.iload_n 1, 1) := by decide +kernel
theorem d_T_carry_2 : decode b_T_carry 2 = .ok (.invokevirtual 70, 3) := by decide +kernel
theorem d_T_carry_5 : decode b_T_carry 5 = .ok (.astore_n 3, 1) := by decide +kernel
theorem d_T_carry_6 : decode b_T_carry 6 = .ok (.aload_n 3, 1) := by decide +kernel
theorem d_T_carry_7 : decode b_T_carry 7 = .ok (.ifnonnull 4, 3) := by decide +kernel
theorem d_T_carry_10 : decode b_T_carry 10 = .ok (.return_, 1) := by decide +kernel
theorem d_T_carry_11 : decode b_T_carry 11 = .ok (.aload_n 0, 1) := by decide +kernel
theorem d_T_carry_12 : decode b_T_carry 12 = .ok (.aload_n 3, 1) := by decide +kernel
theorem d_T_carry_13 : decode b_T_carry 13 = .ok (.getfield 87, 3) := by decide +kernel
theorem d_T_carry_16 : decode b_T_carry 16 = .ok (.iload_n 2, 1) := by decide +kernel
theorem d_T_carry_17 : decode b_T_carry 17 = .ok (.invokevirtual 106, 3) := by decide +kernel
theorem d_T_carry_20 : decode b_T_carry 20 = .ok (.astore 4, 2) := by decide +kernel
theorem d_T_carry_22 : decode b_T_carry 22 = .ok (.aload 4, 2) := by decide +kernel
theorem d_T_carry_24 : decode b_T_carry 24 = .ok (.iconst 1, 1) := by decide +kernel
theorem d_T_carry_25 : decode b_T_carry 25 = .ok (.putfield 110, 3) := by decide +kernel
theorem d_T_carry_28 : decode b_T_carry 28 = .ok (.aload 4, 2) := by decide +kernel
theorem d_T_carry_30 : decode b_T_carry 30 = .ok (.dup, 1) := by decide +kernel
theorem d_T_carry_31 : decode b_T_carry 31 = .ok (.getfield 179, 3) := by decide +kernel
theorem d_T_carry_34 : decode b_T_carry 34 = .ok (.iconst 1, 1) := by decide +kernel
theorem d_T_carry_35 : decode b_T_carry 35 = .ok (.iadd, 1) := by decide +kernel
theorem d_T_carry_36 : decode b_T_carry 36 = .ok (.putfield 179, 3) := by decide +kernel
theorem d_T_carry_39 : decode b_T_carry 39 = .ok (.aload_n 3, 1) := by decide +kernel
theorem d_T_carry_40 : decode b_T_carry 40 = .ok (.getfield 87, 3) := by decide +kernel
theorem d_T_carry_43 : decode b_T_carry 43 = .ok (.iconst 5, 1) := by decide +kernel
theorem d_T_carry_44 : decode b_T_carry 44 = .ok (.if_icmp .eq 13, 3) := by decide +kernel
theorem d_T_carry_47 : decode b_T_carry 47 = .ok (.aload_n 0, 1) := by decide +kernel
theorem d_T_carry_48 : decode b_T_carry 48 = .ok (.getfield 39, 3) := by decide +kernel
theorem d_T_carry_51 : decode b_T_carry 51 = .ok (.aload_n 3, 1) := by decide +kernel
theorem d_T_carry_52 : decode b_T_carry 52 = .ok (.getfield 87, 3) := by decide +kernel
theorem d_T_carry_55 : decode b_T_carry 55 = .ok (.iconst (-1), 1) := by decide +kernel
theorem d_T_carry_56 : decode b_T_carry 56 = .ok (.iastore, 1) := by decide +kernel
theorem d_T_carry_57 : decode b_T_carry 57 = .ok (.iload_n 2, 1) := by decide +kernel
theorem d_T_carry_58 : decode b_T_carry 58 = .ok (.iconst 5, 1) := by decide +kernel
theorem d_T_carry_59 : decode b_T_carry 59 = .ok (.if_icmp .eq 10, 3) := by decide +kernel
theorem d_T_carry_62 : decode b_T_carry 62 = .ok (.aload_n 0, 1) := by decide +kernel
theorem d_T_carry_63 : decode b_T_carry 63 = .ok (.getfield 39, 3) := by decide +kernel
theorem d_T_carry_66 : decode b_T_carry 66 = .ok (.iload_n 2, 1) := by decide +kernel
theorem d_T_carry_67 : decode b_T_carry 67 = .ok (.iload_n 1, 1) := by decide +kernel
theorem d_T_carry_68 : decode b_T_carry 68 = .ok (.iastore, 1) := by decide +kernel
theorem d_T_carry_69 : decode b_T_carry 69 = .ok (.aload_n 3, 1) := by decide +kernel
theorem d_T_carry_70 : decode b_T_carry 70 = .ok (.iload_n 2, 1) := by decide +kernel
theorem d_T_carry_71 : decode b_T_carry 71 = .ok (.invokevirtual 198, 3) := by decide +kernel
theorem d_T_carry_74 : decode b_T_carry 74 = .ok (.aload_n 0, 1) := by decide +kernel
theorem d_T_carry_75 : decode b_T_carry 75 = .ok (.getfield 10, 3) := by decide +kernel
theorem d_T_carry_78 : decode b_T_carry 78 = .ok (.aload_n 3, 1) := by decide +kernel
theorem d_T_carry_79 : decode b_T_carry 79 = .ok (.getfield 81, 3) := by decide +kernel
theorem d_T_carry_82 : decode b_T_carry 82 = .ok (.invokevirtual 50, 3) := by decide +kernel
theorem d_T_carry_85 : decode b_T_carry 85 = .ok (.astore 5, 2) := by decide +kernel
theorem d_T_carry_87 : decode b_T_carry 87 = .ok (.iload_n 2, 1) := by decide +kernel
theorem d_T_carry_88 : decode b_T_carry 88 = .ok (.iconst 4, 1) := by decide +kernel
theorem d_T_carry_89 : decode b_T_carry 89 = .ok (.if_icmp .ge 25, 3) := by decide +kernel
theorem d_T_carry_92 : decode b_T_carry 92 = .ok (.aload 5, 2) := by decide +kernel
theorem d_T_carry_94 : decode b_T_carry 94 = .ok (.ifnull 20, 3) := by decide +kernel
theorem d_T_carry_97 : decode b_T_carry 97 = .ok (.aload_n 3, 1) := by decide +kernel
theorem d_T_carry_98 : decode b_T_carry 98 = .ok (.aload 5, 2) := by decide +kernel
theorem d_T_carry_100 : decode b_T_carry 100 = .ok (.aload_n 3, 1) := by decide +kernel
theorem d_T_carry_101 : decode b_T_carry 101 = .ok (.getfield 84, 3) := by decide +kernel
theorem d_T_carry_104 : decode b_T_carry 104 = .ok (.invokevirtual 201, 3) := by decide +kernel
theorem d_T_carry_107 : decode b_T_carry 107 = .ok (.aload_n 0, 1) := by decide +kernel
theorem d_T_carry_108 : decode b_T_carry 108 = .ok (.getfield 47, 3) := by decide +kernel
theorem d_T_carry_111 : decode b_T_carry 111 = .ok (.invokevirtual 204, 3) := by decide +kernel
theorem d_T_carry_114 : decode b_T_carry 114 = .ok (.return_, 1) := by decide +kernel
theorem d_T_rankOf_0 : decode b_T_rankOf 0 = .ok (.aload_n 0, 1) := by decide +kernel
theorem d_T_rankOf_1 : decode b_T_rankOf 1 = .ok (.iload_n 1, 1) := by decide +kernel
theorem d_T_rankOf_2 : decode b_T_rankOf 2 = .ok (.invokevirtual 207, 3) := by decide +kernel
theorem d_T_rankOf_5 : decode b_T_rankOf 5 = .ok (.iconst 5, 1) := by decide +kernel
theorem d_T_rankOf_6 : decode b_T_rankOf 6 = .ok (.if_icmp .ne 7, 3) := by decide +kernel
theorem d_T_rankOf_9 : decode b_T_rankOf 9 = .ok (.sipush 1001, 3) := by decide +kernel
theorem d_T_rankOf_12 : decode b_T_rankOf 12 = .ok (.ireturn, 1) := by decide +kernel
theorem d_T_rankOf_13 : decode b_T_rankOf 13 = .ok (.aload_n 0, 1) := by decide +kernel
theorem d_T_rankOf_14 : decode b_T_rankOf 14 = .ok (.iload_n 1, 1) := by decide +kernel
theorem d_T_rankOf_15 : decode b_T_rankOf 15 = .ok (.invokevirtual 209, 3) := by decide +kernel
theorem d_T_rankOf_18 : decode b_T_rankOf 18 = .ok (.istore_n 2, 1) := by decide +kernel
theorem d_T_rankOf_19 : decode b_T_rankOf 19 = .ok (.iload_n 2, 1) := by decide +kernel
theorem d_T_rankOf_20 : decode b_T_rankOf 20 = .ok (.iconst (-1), 1) := by decide +kernel
theorem d_T_rankOf_21 : decode b_T_rankOf 21 = .ok (.if_icmp .ne 9, 3) := by decide +kernel
theorem d_T_rankOf_24 : decode b_T_rankOf 24 = .ok (.sipush 1000, 3) := by decide +kernel
theorem d_T_rankOf_27 : decode b_T_rankOf 27 = .ok (.goto 4, 3) := by decide +kernel
theorem d_T_rankOf_30 : decode b_T_rankOf 30 = .ok (.iload_n 2, 1) := by decide +kernel
theorem d_T_rankOf_31 : decode b_T_rankOf 31 = .ok (.ireturn, 1) := by decide +kernel
theorem d_T_countFinished_0 : decode b_T_countFinished 0 = .ok (.iconst 0, 1) := by decide +kernel
theorem d_T_countFinished_1 : decode b_T_countFinished 1 = .ok (.istore_n 1, 1) := by decide +kernel
theorem d_T_countFinished_2 : decode b_T_countFinished 2 = .ok (.iconst 0, 1) := by decide +kernel
theorem d_T_countFinished_3 : decode b_T_countFinished 3 = .ok (.istore_n 2, 1) := by decide +kernel
theorem d_T_countFinished_4 : decode b_T_countFinished 4 = .ok (.iload_n 2, 1) := by decide +kernel
theorem d_T_countFinished_5 : decode b_T_countFinished 5 = .ok (.aload_n 0, 1) := by decide +kernel
theorem d_T_countFinished_6 : decode b_T_countFinished 6 = .ok (.getfield 43, 3) := by decide +kernel
theorem d_T_countFinished_9 : decode b_T_countFinished 9 = .ok (.if_icmp .ge 34, 3) := by decide +kernel
theorem d_T_countFinished_12 : decode b_T_countFinished 12 = .ok (.aload_n 0, 1) := by decide +kernel
theorem d_T_countFinished_13 : decode b_T_countFinished 13 = .ok (.iload_n 2, 1) := by decide +kernel
theorem d_T_countFinished_14 : decode b_T_countFinished 14 = .ok (.invokevirtual 70, 3) := by decide +kernel
theorem d_T_countFinished_17 : decode b_T_countFinished 17 = .ok (.astore_n 3, 1) := by decide +kernel
theorem d_T_countFinished_18 : decode b_T_countFinished 18 = .ok (.iload_n 1, 1) := by decide +kernel
theorem d_T_countFinished_19 : decode b_T_countFinished 19 = .ok (.aload_n 3, 1) := by decide +kernel
theorem d_T_countFinished_20 : decode b_T_countFinished 20 = .ok (.ifnull 14, 3) := by decide +kernel
theorem d_T_countFinished_23 : decode b_T_countFinished 23 = .ok (.aload_n 3, 1) := by decide +kernel
theorem d_T_countFinished_24 : decode b_T_countFinished 24 = .ok (.getfield 74, 3) := by decide +kernel
theorem d_T_countFinished_27 : decode b_T_countFinished 27 = .ok (.ifCond .eq 7, 3) := by decide +kernel
theorem d_T_countFinished_30 : decode b_T_countFinished 30 = .ok (.iconst 1, 1) := by decide +kernel
theorem d_T_countFinished_31 : decode b_T_countFinished 31 = .ok (.goto 4, 3) := by decide +kernel
theorem d_T_countFinished_34 : decode b_T_countFinished 34 = .ok (.iconst 0, 1) := by decide +kernel
theorem d_T_countFinished_35 : decode b_T_countFinished 35 = .ok (.iadd, 1) := by decide +kernel
theorem d_T_countFinished_36 : decode b_T_countFinished 36 = .ok (.istore_n 1, 1) := by decide +kernel
theorem d_T_countFinished_37 : decode b_T_countFinished 37 = .ok (.iinc 2 1, 3) := by decide +kernel
theorem d_T_countFinished_40 : decode b_T_countFinished 40 = .ok (.goto (-36), 3) := by decide +kernel
theorem d_T_countFinished_43 : decode b_T_countFinished 43 = .ok (.iload_n 1, 1) := by decide +kernel
theorem d_T_countFinished_44 : decode b_T_countFinished 44 = .ok (.ireturn, 1) := by decide +kernel
theorem d_T_countLate_0 : decode b_T_countLate 0 = .ok (.iconst 0, 1) := by decide +kernel
theorem d_T_countLate_1 : decode b_T_countLate 1 = .ok (.istore_n 1, 1) := by decide +kernel
theorem d_T_countLate_2 : decode b_T_countLate 2 = .ok (.iconst 0, 1) := by decide +kernel
theorem d_T_countLate_3 : decode b_T_countLate 3 = .ok (.istore_n 2, 1) := by decide +kernel
theorem d_T_countLate_4 : decode b_T_countLate 4 = .ok (.iload_n 2, 1) := by decide +kernel
theorem d_T_countLate_5 : decode b_T_countLate 5 = .ok (.aload_n 0, 1) := by decide +kernel
theorem d_T_countLate_6 : decode b_T_countLate 6 = .ok (.getfield 43, 3) := by decide +kernel
theorem d_T_countLate_9 : decode b_T_countLate 9 = .ok (.if_icmp .ge 34, 3) := by decide +kernel
theorem d_T_countLate_12 : decode b_T_countLate 12 = .ok (.aload_n 0, 1) := by decide +kernel
theorem d_T_countLate_13 : decode b_T_countLate 13 = .ok (.iload_n 2, 1) := by decide +kernel
theorem d_T_countLate_14 : decode b_T_countLate 14 = .ok (.invokevirtual 70, 3) := by decide +kernel
theorem d_T_countLate_17 : decode b_T_countLate 17 = .ok (.astore_n 3, 1) := by decide +kernel
theorem d_T_countLate_18 : decode b_T_countLate 18 = .ok (.iload_n 1, 1) := by decide +kernel
theorem d_T_countLate_19 : decode b_T_countLate 19 = .ok (.aload_n 3, 1) := by decide +kernel
theorem d_T_countLate_20 : decode b_T_countLate 20 = .ok (.ifnull 14, 3) := by decide +kernel
theorem d_T_countLate_23 : decode b_T_countLate 23 = .ok (.aload_n 3, 1) := by decide +kernel
theorem d_T_countLate_24 : decode b_T_countLate 24 = .ok (.getfield 212, 3) := by decide +kernel
theorem d_T_countLate_27 : decode b_T_countLate 27 = .ok (.ifCond .eq 7, 3) := by decide +kernel
theorem d_T_countLate_30 : decode b_T_countLate 30 = .ok (.iconst 1, 1) := by decide +kernel
theorem d_T_countLate_31 : decode b_T_countLate 31 = .ok (.goto 4, 3) := by decide +kernel
theorem d_T_countLate_34 : decode b_T_countLate 34 = .ok (.iconst 0, 1) := by decide +kernel
theorem d_T_countLate_35 : decode b_T_countLate 35 = .ok (.iadd, 1) := by decide +kernel
theorem d_T_countLate_36 : decode b_T_countLate 36 = .ok (.istore_n 1, 1) := by decide +kernel
theorem d_T_countLate_37 : decode b_T_countLate 37 = .ok (.iinc 2 1, 3) := by decide +kernel
theorem d_T_countLate_40 : decode b_T_countLate 40 = .ok (.goto (-36), 3) := by decide +kernel
theorem d_T_countLate_43 : decode b_T_countLate 43 = .ok (.iload_n 1, 1) := by decide +kernel
theorem d_T_countLate_44 : decode b_T_countLate 44 = .ok (.ireturn, 1) := by decide +kernel
end
section
abbrev rm_T_isWithin : Room := { frames := 0, cells := 0, slots := 0, locals := 0 }
def f_T_isWithin (x : Int32) (lo : Int32) (hi : Int32) : Bool :=
  if x < lo then
    false
  else
    if hi < x then
      false
    else
      true
set_option maxRecDepth 20000 in
set_option maxHeartbeats 4000000 in
theorem c_T_isWithin (l : Launch) (X : Xt) (x : Int32) (lo : Int32) (hi : Int32) : Met l y_T_isWithin (Cond.code y_T_isWithin b_T_isWithin 3 (some .boolean) :: WA) rm_T_isWithin (va_Pc [.int x, .int lo, .int hi] (fun U => True ∧ KK X U)) (vp_Si (fun ans => ans = b2i (f_T_isWithin x lo hi))) 0 0 (fun _ => False) := by
  refine vx_met (cc := b_T_isWithin) (maxL := 3) (ret := (some .boolean)) (by decide) rfl (Nat.le_of_ble_eq_true rfl) ?_
  intro p e s m below meth c ls hx hb hrt hts hown hlocks hname hml hB hl
  obtain ⟨hP, hK⟩ := hB
  have hown : s.vm.findClass R_ClusterTool = some m.cls := hown
  have hl : lv_has ls 3 [(0, .int x), (1, .int lo), (2, .int hi)] := hl
  refine lv_iload_n hx hb d_T_isWithin_0 rfl (lv_at hl 0 rfl) ?_
  refine lv_iload_n hx hb d_T_isWithin_1 rfl (lv_at hl 1 rfl) ?_
  refine lv_icmp_lt (tgt := 14) hx hb d_T_isWithin_2 rfl (fun h2 => ?_) (fun h2 => ?_)
  ·
    refine lv_iconst (v := 0) hx hb d_T_isWithin_14 rfl ?_
    exact W.zret (v := b2i false) hx hb hrt (b2i_nar _) (fun t ht hW => ⟨_, rfl, by rw [f_T_isWithin, if_pos h2], ht⟩) (fun q h => by cases h) d_T_isWithin_15
  ·
    refine lv_iload_n hx hb d_T_isWithin_5 rfl (lv_at hl 0 rfl) ?_
    refine lv_iload_n hx hb d_T_isWithin_6 rfl (lv_at hl 2 rfl) ?_
    refine lv_icmp_gt (tgt := 14) hx hb d_T_isWithin_7 rfl (fun h7 => ?_) (fun h7 => ?_)
    ·
      refine lv_iconst (v := 0) hx hb d_T_isWithin_14 rfl ?_
      exact W.zret (v := b2i false) hx hb hrt (b2i_nar _) (fun t ht hW => ⟨_, rfl, by rw [f_T_isWithin, if_neg h2, if_pos h7], ht⟩) (fun q h => by cases h) d_T_isWithin_15
    ·
      refine lv_iconst (v := 1) hx hb d_T_isWithin_10 rfl ?_
      refine lv_goto (tgt := 15) hx hb d_T_isWithin_11 rfl ?_
      exact W.zret (v := b2i true) hx hb hrt (b2i_nar _) (fun t ht hW => ⟨_, rfl, by rw [f_T_isWithin, if_neg h2, if_neg h7], ht⟩) (fun q h => by cases h) d_T_isWithin_15
abbrev rm_Y_isBack : Room := { frames := 0, cells := 0, slots := 0, locals := 0 }
def f_Y_isBack (x : Int32) : Bool :=
  if x = 2 then
    true
  else
    if x = 3 then
      true
    else
      false
set_option maxRecDepth 20000 in
set_option maxHeartbeats 4000000 in
theorem c_Y_isBack (l : Launch) (X : Xt) (x : Int32) : Met l y_Y_isBack (Cond.code y_Y_isBack b_Y_isBack 1 (some .boolean) :: WA) rm_Y_isBack (va_Pc [.int x] (fun U => True ∧ KK X U)) (vp_Si (fun ans => ans = b2i (f_Y_isBack x))) 0 0 (fun _ => False) := by
  refine vx_met (cc := b_Y_isBack) (maxL := 1) (ret := (some .boolean)) (by decide) rfl (Nat.le_of_ble_eq_true rfl) ?_
  intro p e s m below meth c ls hx hb hrt hts hown hlocks hname hml hB hl
  obtain ⟨hP, hK⟩ := hB
  have hown : s.vm.findClass R_Ways = some m.cls := hown
  have hl : lv_has ls 1 [(0, .int x)] := hl
  refine lv_iload_n hx hb d_Y_isBack_0 rfl (lv_at hl 0 rfl) ?_
  refine lv_iconst (v := 2) hx hb d_Y_isBack_1 rfl ?_
  refine lv_icmp_eq (tgt := 10) hx hb d_Y_isBack_2 rfl (fun h2 => ?_) (fun h2 => ?_)
  ·
    refine lv_iconst (v := 1) hx hb d_Y_isBack_10 rfl ?_
    refine lv_goto (tgt := 15) hx hb d_Y_isBack_11 rfl ?_
    exact W.zret (v := b2i true) hx hb hrt (b2i_nar _) (fun t ht hW => ⟨_, rfl, by rw [f_Y_isBack, if_pos h2], ht⟩) (fun q h => by cases h) d_Y_isBack_15
  ·
    refine lv_iload_n hx hb d_Y_isBack_5 rfl (lv_at hl 0 rfl) ?_
    refine lv_iconst (v := 3) hx hb d_Y_isBack_6 rfl ?_
    refine lv_icmp_ne (tgt := 14) hx hb d_Y_isBack_7 rfl (fun h7 => ?_) (fun h7 => ?_)
    ·
      refine lv_iconst (v := 0) hx hb d_Y_isBack_14 rfl ?_
      exact W.zret (v := b2i false) hx hb hrt (b2i_nar _) (fun t ht hW => ⟨_, rfl, by rw [f_Y_isBack, if_neg h2, if_neg h7], ht⟩) (fun q h => by cases h) d_Y_isBack_15
    ·
      refine lv_iconst (v := 1) hx hb d_Y_isBack_10 rfl ?_
      refine lv_goto (tgt := 15) hx hb d_Y_isBack_11 rfl ?_
      exact W.zret (v := b2i true) hx hb hrt (b2i_nar _) (fun t ht hW => ⟨_, rfl, by rw [f_Y_isBack, if_neg h2, if_pos h7], ht⟩) (fun q h => by cases h) d_Y_isBack_15
abbrev rm_Y_isReach : Room := { frames := 0, cells := 0, slots := 0, locals := 0 }
def f_Y_isReach (x : Int32) (y : Int32) : Bool :=
  if (51 &&& (((1 : Int32) <<< (x &&& 31)) ||| ((1 : Int32) <<< (y &&& 31)))) = (((1 : Int32) <<< (x &&& 31)) ||| ((1 : Int32) <<< (y &&& 31))) then
    true
  else
    if (28 &&& (((1 : Int32) <<< (x &&& 31)) ||| ((1 : Int32) <<< (y &&& 31)))) = (((1 : Int32) <<< (x &&& 31)) ||| ((1 : Int32) <<< (y &&& 31))) then
      true
    else
      false
set_option maxRecDepth 20000 in
set_option maxHeartbeats 4000000 in
theorem c_Y_isReach (l : Launch) (X : Xt) (x : Int32) (y : Int32) : Met l y_Y_isReach (Cond.code y_Y_isReach b_Y_isReach 3 (some .boolean) :: WA) rm_Y_isReach (va_Pc [.int x, .int y] (fun U => True ∧ KK X U)) (vp_Si (fun ans => ans = b2i (f_Y_isReach x y))) 0 0 (fun _ => False) := by
  refine vx_met (cc := b_Y_isReach) (maxL := 3) (ret := (some .boolean)) (by decide) rfl (Nat.le_of_ble_eq_true rfl) ?_
  intro p e s m below meth c ls hx hb hrt hts hown hlocks hname hml hB hl
  obtain ⟨hP, hK⟩ := hB
  have hown : s.vm.findClass R_Ways = some m.cls := hown
  have hl : lv_has ls 3 [(0, .int x), (1, .int y)] := hl
  refine lv_iconst (v := 1) hx hb d_Y_isReach_0 rfl ?_
  refine lv_iload_n hx hb d_Y_isReach_1 rfl (lv_at hl 0 rfl) ?_
  refine lv_ishl hx hb d_Y_isReach_2 ?_
  refine lv_iconst (v := 1) hx hb d_Y_isReach_3 rfl ?_
  refine lv_iload_n hx hb d_Y_isReach_4 rfl (lv_at hl 1 rfl) ?_
  refine lv_ishl hx hb d_Y_isReach_5 ?_
  refine lv_ior hx hb d_Y_isReach_6 ?_
  refine lv_istore_n (lv' := [(2, .int (((1 : Int32) <<< (x &&& 31)) ||| ((1 : Int32) <<< (y &&& 31)))), (0, .int x), (1, .int y)]) hx hb d_Y_isReach_7 rfl hl (by decide) rfl (fun ls hl => ?_)
  refine lv_bipush (v := 51) hx hb d_Y_isReach_8 rfl ?_
  refine lv_iload_n hx hb d_Y_isReach_10 rfl (lv_at hl 0 rfl) ?_
  refine lv_iand hx hb d_Y_isReach_11 ?_
  refine lv_iload_n hx hb d_Y_isReach_12 rfl (lv_at hl 0 rfl) ?_
  refine lv_icmp_eq (tgt := 24) hx hb d_Y_isReach_13 rfl (fun h13 => ?_) (fun h13 => ?_)
  ·
    refine lv_iconst (v := 1) hx hb d_Y_isReach_24 rfl ?_
    refine lv_goto (tgt := 29) hx hb d_Y_isReach_25 rfl ?_
    exact W.zret (v := b2i true) hx hb hrt (b2i_nar _) (fun t ht hW => ⟨_, rfl, by rw [f_Y_isReach, if_pos h13], ht⟩) (fun q h => by cases h) d_Y_isReach_29
  ·
    refine lv_bipush (v := 28) hx hb d_Y_isReach_16 rfl ?_
    refine lv_iload_n hx hb d_Y_isReach_18 rfl (lv_at hl 0 rfl) ?_
    refine lv_iand hx hb d_Y_isReach_19 ?_
    refine lv_iload_n hx hb d_Y_isReach_20 rfl (lv_at hl 0 rfl) ?_
    refine lv_icmp_ne (tgt := 28) hx hb d_Y_isReach_21 rfl (fun h21 => ?_) (fun h21 => ?_)
    ·
      refine lv_iconst (v := 0) hx hb d_Y_isReach_28 rfl ?_
      exact W.zret (v := b2i false) hx hb hrt (b2i_nar _) (fun t ht hW => ⟨_, rfl, by rw [f_Y_isReach, if_neg h13, if_neg h21], ht⟩) (fun q h => by cases h) d_Y_isReach_29
    ·
      refine lv_iconst (v := 1) hx hb d_Y_isReach_24 rfl ?_
      refine lv_goto (tgt := 29) hx hb d_Y_isReach_25 rfl ?_
      exact W.zret (v := b2i true) hx hb hrt (b2i_nar _) (fun t ht hW => ⟨_, rfl, by rw [f_Y_isReach, if_neg h13, if_pos h21], ht⟩) (fun q h => by cases h) d_Y_isReach_29
abbrev rm_Y_isHomeward : Room := { frames := 1, cells := 0, slots := 0, locals := 20 }
def f_Y_isHomeward (x : Int32) (y : Int32) : Bool :=
  if y = 5 then
    if x = 5 then
      false
    else
      true
  else
    if y = 4 then
      if (f_Y_isBack x) then
        true
      else
        false
    else
      false
set_option maxRecDepth 20000 in
set_option maxHeartbeats 4000000 in
theorem c_Y_isHomeward (l : Launch) (X : Xt) (x : Int32) (y : Int32) : Met l y_Y_isHomeward (Cond.code y_Y_isHomeward b_Y_isHomeward 2 (some .boolean) :: WA) rm_Y_isHomeward (va_Pc [.int x, .int y] (fun U => True ∧ KK X U)) (vp_Si (fun ans => ans = b2i (f_Y_isHomeward x y))) 0 0 (fun _ => False) := by
  refine vx_met (cc := b_Y_isHomeward) (maxL := 2) (ret := (some .boolean)) (by decide) rfl (Nat.le_of_ble_eq_true rfl) ?_
  intro p e s m below meth c ls hx hb hrt hts hown hlocks hname hml hB hl
  obtain ⟨hP, hK⟩ := hB
  have hown : s.vm.findClass R_Ways = some m.cls := hown
  have hl : lv_has ls 2 [(0, .int x), (1, .int y)] := hl
  refine lv_iload_n hx hb d_Y_isHomeward_0 rfl (lv_at hl 1 rfl) ?_
  refine lv_iconst (v := 5) hx hb d_Y_isHomeward_1 rfl ?_
  refine lv_icmp_ne (tgt := 18) hx hb d_Y_isHomeward_2 rfl (fun h2 => ?_) (fun h2 => ?_)
  ·
    refine lv_iload_n hx hb d_Y_isHomeward_18 rfl (lv_at hl 1 rfl) ?_
    refine lv_iconst (v := 4) hx hb d_Y_isHomeward_19 rfl ?_
    refine lv_icmp_ne (tgt := 34) hx hb d_Y_isHomeward_20 rfl (fun h20 => ?_) (fun h20 => ?_)
    ·
      refine lv_iconst (v := 0) hx hb d_Y_isHomeward_34 rfl ?_
      exact W.zret (v := b2i false) hx hb hrt (b2i_nar _) (fun t ht hW => ⟨_, rfl, by rw [f_Y_isHomeward, if_neg h2, if_neg h20], ht⟩) (fun q h => by cases h) d_Y_isHomeward_35
    ·
      refine lv_iload_n hx hb d_Y_isHomeward_23 rfl (lv_at hl 0 rfl) ?_
      refine vp_callSi (W.runS (As := [.int x]) (rest := []) ⟨hx, hb, hml, hown, hts⟩ (c_Y_isBack l X x) (va_cwS 1 hts (gT (wd_1 207 rfl rfl) (wd_1 208 rfl rfl) (wd_1 2 rfl rfl) (wd_1 209 rfl rfl)) rfl rfl rfl hd_Y_isBack ⟨Nat.le_of_ble_eq_true rfl, Nat.le_of_ble_eq_true rfl⟩) (vx_preS (P := fun _ => True) trivial hK) rfl rfl hl.1 rfl (lv_room (Nat.le_of_ble_eq_true rfl)) d_Y_isHomeward_24 ⟨Nat.zero_le _, Nat.zero_le _⟩) (fun r24 e24 => ?_)
      subst e24
      refine lv_if_eq (tgt := 34) hx hb d_Y_isHomeward_27 rfl (fun h27 => ?_) (fun h27 => ?_)
      ·
        have h27 := b2i_f h27
        refine lv_iconst (v := 0) hx hb d_Y_isHomeward_34 rfl ?_
        exact W.zret (v := b2i false) hx hb hrt (b2i_nar _) (fun t ht hW => ⟨_, rfl, by rw [f_Y_isHomeward, if_neg h2, if_pos h20, if_neg (nt_of h27)], ht⟩) (fun q h => by cases h) d_Y_isHomeward_35
      ·
        have h27 := b2i_t h27
        refine lv_iconst (v := 1) hx hb d_Y_isHomeward_30 rfl ?_
        refine lv_goto (tgt := 35) hx hb d_Y_isHomeward_31 rfl ?_
        exact W.zret (v := b2i true) hx hb hrt (b2i_nar _) (fun t ht hW => ⟨_, rfl, by rw [f_Y_isHomeward, if_neg h2, if_pos h20, if_pos h27], ht⟩) (fun q h => by cases h) d_Y_isHomeward_35
  ·
    refine lv_iload_n hx hb d_Y_isHomeward_5 rfl (lv_at hl 0 rfl) ?_
    refine lv_iconst (v := 5) hx hb d_Y_isHomeward_6 rfl ?_
    refine lv_icmp_eq (tgt := 14) hx hb d_Y_isHomeward_7 rfl (fun h7 => ?_) (fun h7 => ?_)
    ·
      refine lv_iconst (v := 0) hx hb d_Y_isHomeward_14 rfl ?_
      refine lv_goto (tgt := 35) hx hb d_Y_isHomeward_15 rfl ?_
      exact W.zret (v := b2i false) hx hb hrt (b2i_nar _) (fun t ht hW => ⟨_, rfl, by rw [f_Y_isHomeward, if_pos h2, if_pos h7], ht⟩) (fun q h => by cases h) d_Y_isHomeward_35
    ·
      refine lv_iconst (v := 1) hx hb d_Y_isHomeward_10 rfl ?_
      refine lv_goto (tgt := 35) hx hb d_Y_isHomeward_11 rfl ?_
      exact W.zret (v := b2i true) hx hb hrt (b2i_nar _) (fun t ht hW => ⟨_, rfl, by rw [f_Y_isHomeward, if_pos h2, if_neg h7], ht⟩) (fun q h => by cases h) d_Y_isHomeward_35
abbrev rm_Y_beyond : Room := { frames := 1, cells := 0, slots := 0, locals := 20 }
def f_Y_beyond (x : Int32) : Int32 :=
  if x = 4 then
    0
  else
    if (f_Y_isBack x) then
      3
    else
      12
set_option maxRecDepth 20000 in
set_option maxHeartbeats 4000000 in
theorem c_Y_beyond (l : Launch) (X : Xt) (x : Int32) : Met l y_Y_beyond (Cond.code y_Y_beyond b_Y_beyond 1 (some .int) :: WA) rm_Y_beyond (va_Pc [.int x] (fun U => True ∧ KK X U)) (vp_Si (fun ans => ans = f_Y_beyond x)) 0 0 (fun _ => False) := by
  refine vx_met (cc := b_Y_beyond) (maxL := 1) (ret := (some .int)) (by decide) rfl (Nat.le_of_ble_eq_true rfl) ?_
  intro p e s m below meth c ls hx hb hrt hts hown hlocks hname hml hB hl
  obtain ⟨hP, hK⟩ := hB
  have hown : s.vm.findClass R_Ways = some m.cls := hown
  have hl : lv_has ls 1 [(0, .int x)] := hl
  refine lv_iload_n hx hb d_Y_beyond_0 rfl (lv_at hl 0 rfl) ?_
  refine lv_iconst (v := 4) hx hb d_Y_beyond_1 rfl ?_
  refine lv_icmp_ne (tgt := 7) hx hb d_Y_beyond_2 rfl (fun h2 => ?_) (fun h2 => ?_)
  ·
    refine lv_iload_n hx hb d_Y_beyond_7 rfl (lv_at hl 0 rfl) ?_
    refine vp_callSi (W.runS (As := [.int x]) (rest := []) ⟨hx, hb, hml, hown, hts⟩ (c_Y_isBack l X x) (va_cwS 1 hts (gT (wd_1 207 rfl rfl) (wd_1 208 rfl rfl) (wd_1 2 rfl rfl) (wd_1 209 rfl rfl)) rfl rfl rfl hd_Y_isBack ⟨Nat.le_of_ble_eq_true rfl, Nat.le_of_ble_eq_true rfl⟩) (vx_preS (P := fun _ => True) trivial hK) rfl rfl hl.1 rfl (lv_room (Nat.le_of_ble_eq_true rfl)) d_Y_beyond_8 ⟨Nat.zero_le _, Nat.zero_le _⟩) (fun r8 e8 => ?_)
    subst e8
    refine lv_if_eq (tgt := 18) hx hb d_Y_beyond_11 rfl (fun h11 => ?_) (fun h11 => ?_)
    ·
      have h11 := b2i_f h11
      refine lv_bipush (v := 12) hx hb d_Y_beyond_18 rfl ?_
      exact W.iret (v := 12) hx hb hrt (fun t ht hW => ⟨_, rfl, by rw [f_Y_beyond, if_neg h2, if_neg (nt_of h11)], ht⟩) (fun q h => by cases h) d_Y_beyond_20
    ·
      have h11 := b2i_t h11
      refine lv_iconst (v := 3) hx hb d_Y_beyond_14 rfl ?_
      refine lv_goto (tgt := 20) hx hb d_Y_beyond_15 rfl ?_
      exact W.iret (v := 3) hx hb hrt (fun t ht hW => ⟨_, rfl, by rw [f_Y_beyond, if_neg h2, if_pos h11], ht⟩) (fun q h => by cases h) d_Y_beyond_20
  ·
    refine lv_iconst (v := 0) hx hb d_Y_beyond_5 rfl ?_
    exact W.iret (v := 0) hx hb hrt (fun t ht hW => ⟨_, rfl, by rw [f_Y_beyond, if_pos h2], ht⟩) (fun q h => by cases h) d_Y_beyond_6
abbrev rm_S_with : Room := { frames := 0, cells := 0, slots := 0, locals := 0 }
def f_S_with (k : Int32) (x : Int32) (r : Int32) (g : Int32) : Int32 :=
  if x = 4 then
    (k ||| (((8 ||| (r <<< ((2 : Int32) &&& 31))) ||| g) <<< ((3 * x) &&& 31)))
  else
    (k ||| (((0 ||| (r <<< ((2 : Int32) &&& 31))) ||| g) <<< ((3 * x) &&& 31)))
set_option maxRecDepth 20000 in
set_option maxHeartbeats 4000000 in
theorem c_S_with (l : Launch) (X : Xt) (k : Int32) (x : Int32) (r : Int32) (g : Int32) : Met l y_S_with (Cond.code y_S_with b_S_with 5 (some .int) :: WA) rm_S_with (va_Pc [.int k, .int x, .int r, .int g] (fun U => True ∧ KK X U)) (vp_Si (fun ans => ans = f_S_with k x r g)) 0 0 (fun _ => False) := by
  refine vx_met (cc := b_S_with) (maxL := 5) (ret := (some .int)) (by decide) rfl (Nat.le_of_ble_eq_true rfl) ?_
  intro p e s m below meth c ls hx hb hrt hts hown hlocks hname hml hB hl
  obtain ⟨hP, hK⟩ := hB
  have hown : s.vm.findClass R_Situation = some m.cls := hown
  have hl : lv_has ls 5 [(0, .int k), (1, .int x), (2, .int r), (3, .int g)] := hl
  refine lv_iload_n hx hb d_S_with_0 rfl (lv_at hl 1 rfl) ?_
  refine lv_iconst (v := 4) hx hb d_S_with_1 rfl ?_
  refine lv_icmp_ne (tgt := 10) hx hb d_S_with_2 rfl (fun h2 => ?_) (fun h2 => ?_)
  ·
    refine lv_iconst (v := 0) hx hb d_S_with_10 rfl ?_
    refine lv_iload_n hx hb d_S_with_11 rfl (lv_at hl 2 rfl) ?_
    refine lv_iconst (v := 2) hx hb d_S_with_12 rfl ?_
    refine lv_ishl hx hb d_S_with_13 ?_
    refine lv_ior hx hb d_S_with_14 ?_
    refine lv_iload_n hx hb d_S_with_15 rfl (lv_at hl 3 rfl) ?_
    refine lv_ior hx hb d_S_with_16 ?_
    refine lv_istore (lv' := [(4, .int ((0 ||| (r <<< ((2 : Int32) &&& 31))) ||| g)), (0, .int k), (1, .int x), (2, .int r), (3, .int g)]) hx hb d_S_with_17 hl (by decide) rfl (fun ls hl => ?_)
    refine lv_iload_n hx hb d_S_with_19 rfl (lv_at hl 1 rfl) ?_
    refine lv_iload hx hb d_S_with_20 (lv_at hl 0 rfl) ?_
    refine lv_iconst (v := 3) hx hb d_S_with_22 rfl ?_
    refine lv_iload_n hx hb d_S_with_23 rfl (lv_at hl 2 rfl) ?_
    refine lv_imul hx hb d_S_with_24 ?_
    refine lv_ishl hx hb d_S_with_25 ?_
    refine lv_ior hx hb d_S_with_26 ?_
    exact W.iret (v := (k ||| (((0 ||| (r <<< ((2 : Int32) &&& 31))) ||| g) <<< ((3 * x) &&& 31)))) hx hb hrt (fun t ht hW => ⟨_, rfl, by rw [f_S_with, if_neg h2], ht⟩) (fun q h => by cases h) d_S_with_27
  ·
    refine lv_bipush (v := 8) hx hb d_S_with_5 rfl ?_
    refine lv_goto (tgt := 11) hx hb d_S_with_7 rfl ?_
    refine lv_iload_n hx hb d_S_with_11 rfl (lv_at hl 2 rfl) ?_
    refine lv_iconst (v := 2) hx hb d_S_with_12 rfl ?_
    refine lv_ishl hx hb d_S_with_13 ?_
    refine lv_ior hx hb d_S_with_14 ?_
    refine lv_iload_n hx hb d_S_with_15 rfl (lv_at hl 3 rfl) ?_
    refine lv_ior hx hb d_S_with_16 ?_
    refine lv_istore (lv' := [(4, .int ((8 ||| (r <<< ((2 : Int32) &&& 31))) ||| g)), (0, .int k), (1, .int x), (2, .int r), (3, .int g)]) hx hb d_S_with_17 hl (by decide) rfl (fun ls hl => ?_)
    refine lv_iload_n hx hb d_S_with_19 rfl (lv_at hl 1 rfl) ?_
    refine lv_iload hx hb d_S_with_20 (lv_at hl 0 rfl) ?_
    refine lv_iconst (v := 3) hx hb d_S_with_22 rfl ?_
    refine lv_iload_n hx hb d_S_with_23 rfl (lv_at hl 2 rfl) ?_
    refine lv_imul hx hb d_S_with_24 ?_
    refine lv_ishl hx hb d_S_with_25 ?_
    refine lv_ior hx hb d_S_with_26 ?_
    exact W.iret (v := (k ||| (((8 ||| (r <<< ((2 : Int32) &&& 31))) ||| g) <<< ((3 * x) &&& 31)))) hx hb hrt (fun t ht hW => ⟨_, rfl, by rw [f_S_with, if_pos h2], ht⟩) (fun q h => by cases h) d_S_with_27
abbrev rm_S_markAt : Room := { frames := 0, cells := 0, slots := 0, locals := 0 }
def f_S_markAt (k : Int32) (x : Int32) : Int32 :=
  if x = 4 then
    ((k >>> ((3 * x) &&& 31)) &&& 15)
  else
    ((k >>> ((3 * x) &&& 31)) &&& 7)
set_option maxRecDepth 20000 in
set_option maxHeartbeats 4000000 in
theorem c_S_markAt (l : Launch) (X : Xt) (k : Int32) (x : Int32) : Met l y_S_markAt (Cond.code y_S_markAt b_S_markAt 2 (some .int) :: WA) rm_S_markAt (va_Pc [.int k, .int x] (fun U => True ∧ KK X U)) (vp_Si (fun ans => ans = f_S_markAt k x)) 0 0 (fun _ => False) := by
  refine vx_met (cc := b_S_markAt) (maxL := 2) (ret := (some .int)) (by decide) rfl (Nat.le_of_ble_eq_true rfl) ?_
  intro p e s m below meth c ls hx hb hrt hts hown hlocks hname hml hB hl
  obtain ⟨hP, hK⟩ := hB
  have hown : s.vm.findClass R_Situation = some m.cls := hown
  have hl : lv_has ls 2 [(0, .int k), (1, .int x)] := hl
  refine lv_iload_n hx hb d_S_markAt_0 rfl (lv_at hl 0 rfl) ?_
  refine lv_iconst (v := 3) hx hb d_S_markAt_1 rfl ?_
  refine lv_iload_n hx hb d_S_markAt_2 rfl (lv_at hl 1 rfl) ?_
  refine lv_imul hx hb d_S_markAt_3 ?_
  refine lv_ishr hx hb d_S_markAt_4 ?_
  refine lv_iload_n hx hb d_S_markAt_5 rfl (lv_at hl 1 rfl) ?_
  refine lv_iconst (v := 4) hx hb d_S_markAt_6 rfl ?_
  refine lv_icmp_ne (tgt := 15) hx hb d_S_markAt_7 rfl (fun h7 => ?_) (fun h7 => ?_)
  ·
    refine lv_bipush (v := 7) hx hb d_S_markAt_15 rfl ?_
    refine lv_iand hx hb d_S_markAt_17 ?_
    exact W.iret (v := ((k >>> ((3 * x) &&& 31)) &&& 7)) hx hb hrt (fun t ht hW => ⟨_, rfl, by rw [f_S_markAt, if_neg h7], ht⟩) (fun q h => by cases h) d_S_markAt_18
  ·
    refine lv_bipush (v := 15) hx hb d_S_markAt_10 rfl ?_
    refine lv_goto (tgt := 17) hx hb d_S_markAt_12 rfl ?_
    refine lv_iand hx hb d_S_markAt_17 ?_
    exact W.iret (v := ((k >>> ((3 * x) &&& 31)) &&& 15)) hx hb hrt (fun t ht hW => ⟨_, rfl, by rw [f_S_markAt, if_pos h7], ht⟩) (fun q h => by cases h) d_S_markAt_18
abbrev rm_S_routeIn : Room := { frames := 0, cells := 0, slots := 0, locals := 0 }
def f_S_routeIn (k : Int32) : Int32 :=
  ((k >>> ((2 : Int32) &&& 31)) &&& 1)
set_option maxRecDepth 20000 in
set_option maxHeartbeats 4000000 in
theorem c_S_routeIn (l : Launch) (X : Xt) (k : Int32) : Met l y_S_routeIn (Cond.code y_S_routeIn b_S_routeIn 1 (some .int) :: WA) rm_S_routeIn (va_Pc [.int k] (fun U => True ∧ KK X U)) (vp_Si (fun ans => ans = f_S_routeIn k)) 0 0 (fun _ => False) := by
  refine vx_met (cc := b_S_routeIn) (maxL := 1) (ret := (some .int)) (by decide) rfl (Nat.le_of_ble_eq_true rfl) ?_
  intro p e s m below meth c ls hx hb hrt hts hown hlocks hname hml hB hl
  obtain ⟨hP, hK⟩ := hB
  have hown : s.vm.findClass R_Situation = some m.cls := hown
  have hl : lv_has ls 1 [(0, .int k)] := hl
  refine lv_iload_n hx hb d_S_routeIn_0 rfl (lv_at hl 0 rfl) ?_
  refine lv_iconst (v := 2) hx hb d_S_routeIn_1 rfl ?_
  refine lv_ishr hx hb d_S_routeIn_2 ?_
  refine lv_iconst (v := 1) hx hb d_S_routeIn_3 rfl ?_
  refine lv_iand hx hb d_S_routeIn_4 ?_
  exact W.iret (v := ((k >>> ((2 : Int32) &&& 31)) &&& 1)) hx hb hrt (fun t ht hW => ⟨_, rfl, by rw [f_S_routeIn], ht⟩) (fun q h => by cases h) d_S_routeIn_5
abbrev rm_S_stageIn : Room := { frames := 0, cells := 0, slots := 0, locals := 0 }
def f_S_stageIn (k : Int32) : Int32 :=
  (k &&& 3)
set_option maxRecDepth 20000 in
set_option maxHeartbeats 4000000 in
theorem c_S_stageIn (l : Launch) (X : Xt) (k : Int32) : Met l y_S_stageIn (Cond.code y_S_stageIn b_S_stageIn 1 (some .int) :: WA) rm_S_stageIn (va_Pc [.int k] (fun U => True ∧ KK X U)) (vp_Si (fun ans => ans = f_S_stageIn k)) 0 0 (fun _ => False) := by
  refine vx_met (cc := b_S_stageIn) (maxL := 1) (ret := (some .int)) (by decide) rfl (Nat.le_of_ble_eq_true rfl) ?_
  intro p e s m below meth c ls hx hb hrt hts hown hlocks hname hml hB hl
  obtain ⟨hP, hK⟩ := hB
  have hown : s.vm.findClass R_Situation = some m.cls := hown
  have hl : lv_has ls 1 [(0, .int k)] := hl
  refine lv_iload_n hx hb d_S_stageIn_0 rfl (lv_at hl 0 rfl) ?_
  refine lv_iconst (v := 3) hx hb d_S_stageIn_1 rfl ?_
  refine lv_iand hx hb d_S_stageIn_2 ?_
  exact W.iret (v := (k &&& 3)) hx hb hrt (fun t ht hW => ⟨_, rfl, by rw [f_S_stageIn], ht⟩) (fun q h => by cases h) d_S_stageIn_3
abbrev rm_S_after : Room := { frames := 1, cells := 0, slots := 0, locals := 24 }
def f_S_after (k : Int32) (r : Int32) (g : Int32) (x : Int32) (y : Int32) : Int32 :=
  if x = 5 then
    if y = 5 then
      k
    else
      if 4 ≤ y then
        f_S_with k y r g
      else
        f_S_with k y r (g + 1)
  else
    if y = 5 then
      (k - ((f_S_markAt k x) <<< ((3 * x) &&& 31)))
    else
      if 4 ≤ y then
        f_S_with (k - ((f_S_markAt k x) <<< ((3 * x) &&& 31))) y r g
      else
        f_S_with (k - ((f_S_markAt k x) <<< ((3 * x) &&& 31))) y r (g + 1)
set_option maxRecDepth 20000 in
set_option maxHeartbeats 4000000 in
theorem c_S_after (l : Launch) (X : Xt) (k : Int32) (r : Int32) (g : Int32) (x : Int32) (y : Int32) : Met l y_S_after (Cond.code y_S_after b_S_after 6 (some .int) :: WA) rm_S_after (va_Pc [.int k, .int r, .int g, .int x, .int y] (fun U => True ∧ KK X U)) (vp_Si (fun ans => ans = f_S_after k r g x y)) 0 0 (fun _ => False) := by
  refine vx_met (cc := b_S_after) (maxL := 6) (ret := (some .int)) (by decide) rfl (Nat.le_of_ble_eq_true rfl) ?_
  intro p e s m below meth c ls hx hb hrt hts hown hlocks hname hml hB hl
  obtain ⟨hP, hK⟩ := hB
  have hown : s.vm.findClass R_Situation = some m.cls := hown
  have hl : lv_has ls 6 [(0, .int k), (1, .int r), (2, .int g), (3, .int x), (4, .int y)] := hl
  refine lv_iload_n hx hb d_S_after_0 rfl (lv_at hl 3 rfl) ?_
  refine lv_iconst (v := 5) hx hb d_S_after_1 rfl ?_
  refine lv_icmp_ne (tgt := 9) hx hb d_S_after_2 rfl (fun h2 => ?_) (fun h2 => ?_)
  ·
    refine lv_iload_n hx hb d_S_after_9 rfl (lv_at hl 0 rfl) ?_
    refine lv_iload_n hx hb d_S_after_10 rfl (lv_at hl 0 rfl) ?_
    refine lv_iload_n hx hb d_S_after_11 rfl (lv_at hl 3 rfl) ?_
    refine vp_callSi (W.runS (As := [.int k, .int x]) (rest := [.int k]) ⟨hx, hb, hml, hown, hts⟩ (c_S_markAt l X k x) (va_cwS 2 hts (gT (wd_1 232 rfl rfl) (wd_1 233 rfl rfl) (wd_1 8 rfl rfl) (wd_1 234 rfl rfl)) rfl rfl rfl hd_S_markAt ⟨Nat.le_of_ble_eq_true rfl, Nat.le_of_ble_eq_true rfl⟩) (vx_preS (P := fun _ => True) trivial hK) rfl rfl hl.1 rfl (lv_room (Nat.le_of_ble_eq_true rfl)) d_S_after_12 ⟨Nat.zero_le _, Nat.zero_le _⟩) (fun r12 e12 => ?_)
    subst e12
    refine lv_iconst (v := 3) hx hb d_S_after_15 rfl ?_
    refine lv_iload_n hx hb d_S_after_16 rfl (lv_at hl 3 rfl) ?_
    refine lv_imul hx hb d_S_after_17 ?_
    refine lv_ishl hx hb d_S_after_18 ?_
    refine lv_isub hx hb d_S_after_19 ?_
    refine lv_istore (lv' := [(5, .int (k - ((f_S_markAt k x) <<< ((3 * x) &&& 31)))), (0, .int k), (1, .int r), (2, .int g), (3, .int x), (4, .int y)]) hx hb d_S_after_20 hl (by decide) rfl (fun ls hl => ?_)
    refine lv_iload hx hb d_S_after_22 (lv_at hl 5 rfl) ?_
    refine lv_iconst (v := 5) hx hb d_S_after_24 rfl ?_
    refine lv_icmp_ne (tgt := 31) hx hb d_S_after_25 rfl (fun h25 => ?_) (fun h25 => ?_)
    ·
      refine lv_iload hx hb d_S_after_31 (lv_at hl 0 rfl) ?_
      refine lv_iload hx hb d_S_after_33 (lv_at hl 5 rfl) ?_
      refine lv_iload_n hx hb d_S_after_35 rfl (lv_at hl 2 rfl) ?_
      refine lv_iload hx hb d_S_after_36 (lv_at hl 5 rfl) ?_
      refine lv_iconst (v := 4) hx hb d_S_after_38 rfl ?_
      refine lv_icmp_ge (tgt := 48) hx hb d_S_after_39 rfl (fun h39 => ?_) (fun h39 => ?_)
      ·
        refine lv_iload_n hx hb d_S_after_48 rfl (lv_at hl 3 rfl) ?_
        refine vp_callSi (W.runS (As := [.int (k - ((f_S_markAt k x) <<< ((3 * x) &&& 31))), .int y, .int r, .int g]) (rest := []) ⟨hx, hb, hml, hown, hts⟩ (c_S_with l X (k - ((f_S_markAt k x) <<< ((3 * x) &&& 31))) y r g) (va_cwS 4 hts (gT (wd_1 235 rfl rfl) (wd_1 227 rfl rfl) (wd_1 8 rfl rfl) (wd_1 228 rfl rfl)) rfl rfl rfl hd_S_with ⟨Nat.le_of_ble_eq_true rfl, Nat.le_of_ble_eq_true rfl⟩) (vx_preS (P := fun _ => True) trivial hK) rfl rfl hl.1 rfl (lv_room (Nat.le_of_ble_eq_true rfl)) d_S_after_49 ⟨Nat.zero_le _, Nat.zero_le _⟩) (fun r49 e49 => ?_)
        subst e49
        exact W.iret (v := f_S_with (k - ((f_S_markAt k x) <<< ((3 * x) &&& 31))) y r g) hx hb hrt (fun t ht hW => ⟨_, rfl, by rw [f_S_after, if_neg h2, if_neg h25, if_pos h39], ht⟩) (fun q h => by cases h) d_S_after_52
      ·
        refine lv_iload_n hx hb d_S_after_42 rfl (lv_at hl 3 rfl) ?_
        refine lv_iconst (v := 1) hx hb d_S_after_43 rfl ?_
        refine lv_iadd hx hb d_S_after_44 ?_
        refine lv_goto (tgt := 49) hx hb d_S_after_45 rfl ?_
        refine vp_callSi (W.runS (As := [.int (k - ((f_S_markAt k x) <<< ((3 * x) &&& 31))), .int y, .int r, .int (g + 1)]) (rest := []) ⟨hx, hb, hml, hown, hts⟩ (c_S_with l X (k - ((f_S_markAt k x) <<< ((3 * x) &&& 31))) y r (g + 1)) (va_cwS 4 hts (gT (wd_1 235 rfl rfl) (wd_1 227 rfl rfl) (wd_1 8 rfl rfl) (wd_1 228 rfl rfl)) rfl rfl rfl hd_S_with ⟨Nat.le_of_ble_eq_true rfl, Nat.le_of_ble_eq_true rfl⟩) (vx_preS (P := fun _ => True) trivial hK) rfl rfl hl.1 rfl (lv_room (Nat.le_of_ble_eq_true rfl)) d_S_after_49 ⟨Nat.zero_le _, Nat.zero_le _⟩) (fun r49 e49 => ?_)
        subst e49
        exact W.iret (v := f_S_with (k - ((f_S_markAt k x) <<< ((3 * x) &&& 31))) y r (g + 1)) hx hb hrt (fun t ht hW => ⟨_, rfl, by rw [f_S_after, if_neg h2, if_neg h25, if_neg h39], ht⟩) (fun q h => by cases h) d_S_after_52
    ·
      refine lv_iload hx hb d_S_after_28 (lv_at hl 0 rfl) ?_
      exact W.iret (v := (k - ((f_S_markAt k x) <<< ((3 * x) &&& 31)))) hx hb hrt (fun t ht hW => ⟨_, rfl, by rw [f_S_after, if_neg h2, if_pos h25], ht⟩) (fun q h => by cases h) d_S_after_30
  ·
    refine lv_iload_n hx hb d_S_after_5 rfl (lv_at hl 0 rfl) ?_
    refine lv_goto (tgt := 20) hx hb d_S_after_6 rfl ?_
    refine lv_istore (lv' := [(5, .int k), (0, .int k), (1, .int r), (2, .int g), (3, .int x), (4, .int y)]) hx hb d_S_after_20 hl (by decide) rfl (fun ls hl => ?_)
    refine lv_iload hx hb d_S_after_22 (lv_at hl 5 rfl) ?_
    refine lv_iconst (v := 5) hx hb d_S_after_24 rfl ?_
    refine lv_icmp_ne (tgt := 31) hx hb d_S_after_25 rfl (fun h25 => ?_) (fun h25 => ?_)
    ·
      refine lv_iload hx hb d_S_after_31 (lv_at hl 0 rfl) ?_
      refine lv_iload hx hb d_S_after_33 (lv_at hl 5 rfl) ?_
      refine lv_iload_n hx hb d_S_after_35 rfl (lv_at hl 2 rfl) ?_
      refine lv_iload hx hb d_S_after_36 (lv_at hl 5 rfl) ?_
      refine lv_iconst (v := 4) hx hb d_S_after_38 rfl ?_
      refine lv_icmp_ge (tgt := 48) hx hb d_S_after_39 rfl (fun h39 => ?_) (fun h39 => ?_)
      ·
        refine lv_iload_n hx hb d_S_after_48 rfl (lv_at hl 3 rfl) ?_
        refine vp_callSi (W.runS (As := [.int k, .int y, .int r, .int g]) (rest := []) ⟨hx, hb, hml, hown, hts⟩ (c_S_with l X k y r g) (va_cwS 4 hts (gT (wd_1 235 rfl rfl) (wd_1 227 rfl rfl) (wd_1 8 rfl rfl) (wd_1 228 rfl rfl)) rfl rfl rfl hd_S_with ⟨Nat.le_of_ble_eq_true rfl, Nat.le_of_ble_eq_true rfl⟩) (vx_preS (P := fun _ => True) trivial hK) rfl rfl hl.1 rfl (lv_room (Nat.le_of_ble_eq_true rfl)) d_S_after_49 ⟨Nat.zero_le _, Nat.zero_le _⟩) (fun r49 e49 => ?_)
        subst e49
        exact W.iret (v := f_S_with k y r g) hx hb hrt (fun t ht hW => ⟨_, rfl, by rw [f_S_after, if_pos h2, if_neg h25, if_pos h39], ht⟩) (fun q h => by cases h) d_S_after_52
      ·
        refine lv_iload_n hx hb d_S_after_42 rfl (lv_at hl 3 rfl) ?_
        refine lv_iconst (v := 1) hx hb d_S_after_43 rfl ?_
        refine lv_iadd hx hb d_S_after_44 ?_
        refine lv_goto (tgt := 49) hx hb d_S_after_45 rfl ?_
        refine vp_callSi (W.runS (As := [.int k, .int y, .int r, .int (g + 1)]) (rest := []) ⟨hx, hb, hml, hown, hts⟩ (c_S_with l X k y r (g + 1)) (va_cwS 4 hts (gT (wd_1 235 rfl rfl) (wd_1 227 rfl rfl) (wd_1 8 rfl rfl) (wd_1 228 rfl rfl)) rfl rfl rfl hd_S_with ⟨Nat.le_of_ble_eq_true rfl, Nat.le_of_ble_eq_true rfl⟩) (vx_preS (P := fun _ => True) trivial hK) rfl rfl hl.1 rfl (lv_room (Nat.le_of_ble_eq_true rfl)) d_S_after_49 ⟨Nat.zero_le _, Nat.zero_le _⟩) (fun r49 e49 => ?_)
        subst e49
        exact W.iret (v := f_S_with k y r (g + 1)) hx hb hrt (fun t ht hW => ⟨_, rfl, by rw [f_S_after, if_pos h2, if_neg h25, if_neg h39], ht⟩) (fun q h => by cases h) d_S_after_52
    ·
      refine lv_iload hx hb d_S_after_28 (lv_at hl 0 rfl) ?_
      exact W.iret (v := k) hx hb hrt (fun t ht hW => ⟨_, rfl, by rw [f_S_after, if_pos h2, if_pos h25], ht⟩) (fun q h => by cases h) d_S_after_30
abbrev rm_S_isFree : Room := { frames := 1, cells := 0, slots := 0, locals := 21 }
def f_S_isFree (k : Int32) (x : Int32) (y : Int32) : Bool :=
  if y = 5 then
    true
  else
    if y = x then
      true
    else
      if (f_S_markAt k y) = 0 then
        true
      else
        false
set_option maxRecDepth 20000 in
set_option maxHeartbeats 4000000 in
theorem c_S_isFree (l : Launch) (X : Xt) (k : Int32) (x : Int32) (y : Int32) : Met l y_S_isFree (Cond.code y_S_isFree b_S_isFree 3 (some .boolean) :: WA) rm_S_isFree (va_Pc [.int k, .int x, .int y] (fun U => True ∧ KK X U)) (vp_Si (fun ans => ans = b2i (f_S_isFree k x y))) 0 0 (fun _ => False) := by
  refine vx_met (cc := b_S_isFree) (maxL := 3) (ret := (some .boolean)) (by decide) rfl (Nat.le_of_ble_eq_true rfl) ?_
  intro p e s m below meth c ls hx hb hrt hts hown hlocks hname hml hB hl
  obtain ⟨hP, hK⟩ := hB
  have hown : s.vm.findClass R_Situation = some m.cls := hown
  have hl : lv_has ls 3 [(0, .int k), (1, .int x), (2, .int y)] := hl
  refine lv_iload_n hx hb d_S_isFree_0 rfl (lv_at hl 2 rfl) ?_
  refine lv_iconst (v := 5) hx hb d_S_isFree_1 rfl ?_
  refine lv_icmp_eq (tgt := 18) hx hb d_S_isFree_2 rfl (fun h2 => ?_) (fun h2 => ?_)
  ·
    refine lv_iconst (v := 1) hx hb d_S_isFree_18 rfl ?_
    refine lv_goto (tgt := 23) hx hb d_S_isFree_19 rfl ?_
    exact W.zret (v := b2i true) hx hb hrt (b2i_nar _) (fun t ht hW => ⟨_, rfl, by rw [f_S_isFree, if_pos h2], ht⟩) (fun q h => by cases h) d_S_isFree_23
  ·
    refine lv_iload_n hx hb d_S_isFree_5 rfl (lv_at hl 2 rfl) ?_
    refine lv_iload_n hx hb d_S_isFree_6 rfl (lv_at hl 1 rfl) ?_
    refine lv_icmp_eq (tgt := 18) hx hb d_S_isFree_7 rfl (fun h7 => ?_) (fun h7 => ?_)
    ·
      refine lv_iconst (v := 1) hx hb d_S_isFree_18 rfl ?_
      refine lv_goto (tgt := 23) hx hb d_S_isFree_19 rfl ?_
      exact W.zret (v := b2i true) hx hb hrt (b2i_nar _) (fun t ht hW => ⟨_, rfl, by rw [f_S_isFree, if_neg h2, if_pos h7], ht⟩) (fun q h => by cases h) d_S_isFree_23
    ·
      refine lv_iload_n hx hb d_S_isFree_10 rfl (lv_at hl 0 rfl) ?_
      refine lv_iload_n hx hb d_S_isFree_11 rfl (lv_at hl 2 rfl) ?_
      refine vp_callSi (W.runS (As := [.int k, .int y]) (rest := []) ⟨hx, hb, hml, hown, hts⟩ (c_S_markAt l X k y) (va_cwS 2 hts (gT (wd_1 232 rfl rfl) (wd_1 233 rfl rfl) (wd_1 8 rfl rfl) (wd_1 234 rfl rfl)) rfl rfl rfl hd_S_markAt ⟨Nat.le_of_ble_eq_true rfl, Nat.le_of_ble_eq_true rfl⟩) (vx_preS (P := fun _ => True) trivial hK) rfl rfl hl.1 rfl (lv_room (Nat.le_of_ble_eq_true rfl)) d_S_isFree_12 ⟨Nat.zero_le _, Nat.zero_le _⟩) (fun r12 e12 => ?_)
      subst e12
      refine lv_if_ne (tgt := 22) hx hb d_S_isFree_15 rfl (fun h15 => ?_) (fun h15 => ?_)
      ·
        refine lv_iconst (v := 0) hx hb d_S_isFree_22 rfl ?_
        exact W.zret (v := b2i false) hx hb hrt (b2i_nar _) (fun t ht hW => ⟨_, rfl, by rw [f_S_isFree, if_neg h2, if_neg h7, if_neg h15], ht⟩) (fun q h => by cases h) d_S_isFree_23
      ·
        refine lv_iconst (v := 1) hx hb d_S_isFree_18 rfl ?_
        refine lv_goto (tgt := 23) hx hb d_S_isFree_19 rfl ?_
        exact W.zret (v := b2i true) hx hb hrt (b2i_nar _) (fun t ht hW => ⟨_, rfl, by rw [f_S_isFree, if_neg h2, if_neg h7, if_pos h15], ht⟩) (fun q h => by cases h) d_S_isFree_23
end
section
/-! Bounds out of isWithin. Own work. -/
theorem vp_clamp {x : Int32} {n : Nat} (h : vp_in x n) : x.toNatClampNeg < n := Nat.not_le.mp fun q => h (Or.inr q)
theorem i32_le {x y : Int32} : ¬ x < y ↔ y ≤ x := by
  rw [Int32.lt_iff_toInt_lt, Int32.le_iff_toInt_le]
  omega
theorem within_iff {x lo hi : Int32} : f_T_isWithin x lo hi = true ↔ lo ≤ x ∧ x ≤ hi := by
  unfold f_T_isWithin
  constructor
  · intro h
    split at h
    · cases h
    · next h1 =>
      split at h
      · cases h
      · next h2 => exact ⟨i32_le.mp h1, i32_le.mp h2⟩
  · rintro ⟨h1, h2⟩
    rw [if_neg (i32_le.mpr h1), if_neg (i32_le.mpr h2)]
theorem within_in {x hi : Int32} {n : Nat} (h : f_T_isWithin x 0 hi = true) (hn : hi.toInt < n) : vp_in x n := by
  rw [vp_in_iff]
  obtain ⟨h1, h2⟩ := within_iff.mp h
  rw [Int32.le_iff_toInt_le] at h1 h2
  have : (0 : Int32).toInt = 0 := rfl
  omega
theorem nI_m1 {n : Nat} (hn : n ≤ 100) : (nI n - 1).toInt = (n : Int) - 1 := pk_sub_toInt (a := n) (b := 1) (by omega) (by omega)
theorem rRefs_at {G : Gc} {r : Nat} (hr : r < 2) : rRefs G r = some (gA_ad G (8 + 4 * r)) := by
  rcases (show r = 0 ∨ r = 1 by omega) with rfl | rfl <;> rfl
theorem wRefs_at {G : Gc} {A : St} {i : Nat} (hi : i < sA_n A) : wRefs G A i = some (gA_ad G (18 + 4 * i)) := by
  unfold wRefs
  rw [if_pos hi]
end
section
abbrev rm_Y_isDown : Room := { frames := 0, cells := 0, slots := 0, locals := 0 }
def f_Y_isDown (A : St) (x : Int32) : Bool :=
  if ((nI (sA_dn A)) &&& ((1 : Int32) <<< (x &&& 31))) = 0 then
    false
  else
    true
set_option maxRecDepth 20000 in
set_option maxHeartbeats 4000000 in
theorem c_Y_isDown (l : Launch) (X : Xt) (G : Gc) (A : St) (x : Int32) : Met l y_Y_isDown (Cond.code y_Y_isDown b_Y_isDown 2 (some .boolean) :: WA) rm_Y_isDown (va_Pc [.ref (gA_ad G 1), .int x] (fun U => PR X G A U.heap ∧ KK X U)) (vp_Si (fun ans => ans = b2i (f_Y_isDown A x))) 0 0 (fun _ => False) := by
  refine vx_met (cc := b_Y_isDown) (maxL := 2) (ret := (some .boolean)) (by decide) rfl (Nat.le_of_ble_eq_true rfl) ?_
  intro p e s m below meth c ls hx hb hrt hts hown hlocks hname hml hB hl
  obtain ⟨hP, hK⟩ := hB
  have hown : s.vm.findClass R_Ways = some m.cls := hown
  have hl : lv_has ls 2 [(0, .ref (gA_ad G 1)), (1, .int x)] := hl
  have hP : va_P X.1 classes (cw X G A) s.heap := hP
  refine lv_aload_n hx hb d_Y_isDown_0 rfl (lv_at hl 0 rfl) ?_
  refine va_get (D := X.1) (ci := 1) (C := R_Ways) (T := F_Ways) (N := 2) hx hb hts hin_Ways hown hK.1 hP 1 cw_1 rfl 1 (by decide) (hts _ (wd_1 48 rfl rfl)) (fun _ h9 => h9) rfl d_Y_isDown_1 ?_
  refine lv_iconst (v := 1) hx hb d_Y_isDown_4 rfl ?_
  refine lv_iload_n hx hb d_Y_isDown_5 rfl (lv_at hl 1 rfl) ?_
  refine lv_ishl hx hb d_Y_isDown_6 ?_
  refine lv_iand hx hb d_Y_isDown_7 ?_
  refine lv_if_eq (tgt := 15) hx hb d_Y_isDown_8 rfl (fun h8 => ?_) (fun h8 => ?_)
  ·
    refine lv_iconst (v := 0) hx hb d_Y_isDown_15 rfl ?_
    exact W.zret (v := b2i false) hx hb hrt (b2i_nar _) (fun t ht hW => ⟨_, rfl, by rw [f_Y_isDown, if_pos h8], ht⟩) (fun q h => by cases h) d_Y_isDown_16
  ·
    refine lv_iconst (v := 1) hx hb d_Y_isDown_11 rfl ?_
    refine lv_goto (tgt := 16) hx hb d_Y_isDown_12 rfl ?_
    exact W.zret (v := b2i true) hx hb hrt (b2i_nar _) (fun t ht hW => ⟨_, rfl, by rw [f_Y_isDown, if_neg h8], ht⟩) (fun q h => by cases h) d_Y_isDown_16
abbrev rm_Y_routeOf : Room := { frames := 1, cells := 0, slots := 0, locals := 22 }
def f_Y_routeOf (x : Int32) : Option Nat :=
  if (f_T_isWithin x 0 1) then
    some x.toNatClampNeg
  else
    none
set_option maxRecDepth 20000 in
set_option maxHeartbeats 4000000 in
theorem c_Y_routeOf (l : Launch) (X : Xt) (G : Gc) (A : St) (x : Int32) : Met l y_Y_routeOf (Cond.code y_Y_routeOf b_Y_routeOf 2 (some (.object "ClusterTool$Route")) :: WA) rm_Y_routeOf (va_Pc [.ref (gA_ad G 1), .int x] (fun U => PR X G A U.heap ∧ KK X U)) (va_Sq (fun ans => ans = (f_Y_routeOf x).map (fun j => gA_ad G (8 + 4 * j)))) 0 0 (fun _ => False) := by
  refine vx_met (cc := b_Y_routeOf) (maxL := 2) (ret := (some (.object "ClusterTool$Route"))) (by decide) rfl (Nat.le_of_ble_eq_true rfl) ?_
  intro p e s m below meth c ls hx hb hrt hts hown hlocks hname hml hB hl
  obtain ⟨hP, hK⟩ := hB
  have hown : s.vm.findClass R_Ways = some m.cls := hown
  have hl : lv_has ls 2 [(0, .ref (gA_ad G 1)), (1, .int x)] := hl
  have hP : va_P X.1 classes (cw X G A) s.heap := hP
  refine lv_iload_n hx hb d_Y_routeOf_0 rfl (lv_at hl 1 rfl) ?_
  refine lv_iconst (v := 0) hx hb d_Y_routeOf_1 rfl ?_
  refine lv_iconst (v := 1) hx hb d_Y_routeOf_2 rfl ?_
  refine vp_callSi (va_Run.call (va_runSN (As := [.int x, .int 0, .int 1]) (rest := []) ⟨hx, hb, hml, hown, hts⟩ (c_T_isWithin l X x 0 1) ⟨va_cnB 3 hts (gC (wd_1 120 rfl rfl) rfl) rfl rfl rfl (hK.2.1 _ (List.mem_of_getElem? (i := 7) rfl)) (hts _ (wd_1 1 rfl rfl)) hd_T_isWithin ⟨Nat.le_of_ble_eq_true rfl, Nat.le_of_ble_eq_true rfl⟩, hts _ (wd_1 119 rfl rfl), trivial⟩ (vx_preS (P := fun _ => True) trivial hK) rfl rfl hl.1 rfl (lv_room (Nat.le_of_ble_eq_true rfl)) d_Y_routeOf_3 ⟨Nat.zero_le _, Nat.zero_le _⟩)) (fun r3 e3 => ?_)
  subst e3
  refine lv_if_eq (tgt := 18) hx hb d_Y_routeOf_6 rfl (fun h6 => ?_) (fun h6 => ?_)
  ·
    have h6 := b2i_f h6
    refine lv_null hx hb d_Y_routeOf_18 ?_
    exact W.aret (v := va_rf none) hx hb hrt (Or.inl ⟨_, rfl⟩) (Or.inl rfl) (fun t ht hW => ⟨_, rfl, by rw [f_Y_routeOf, if_neg (nt_of h6)]; rfl, ht⟩) (fun q h => by cases h) d_Y_routeOf_19
  ·
    have h6 := b2i_t h6
    refine lv_aload_n hx hb d_Y_routeOf_9 rfl (lv_at hl 0 rfl) ?_
    refine va_get (D := X.1) (ci := 1) (C := R_Ways) (T := F_Ways) (N := 2) hx hb hts hin_Ways hown hK.1 hP 1 cw_1 rfl 0 (by decide) (hts _ (wd_1 47 rfl rfl)) (fun _ h9 => h9) rfl d_Y_routeOf_10 ?_
    refine lv_iload_n hx hb d_Y_routeOf_13 rfl (lv_at hl 1 rfl) ?_
    refine va_aldq hx hb hK.1 hP 7 4 cw_7 rfl (within_in h6 (by decide)) d_Y_routeOf_14 ?_
    rw [rRefs_at (vp_clamp (within_in h6 (by decide)))]
    refine lv_goto (tgt := 19) hx hb d_Y_routeOf_15 rfl ?_
    exact W.aret (v := va_rf (some (gA_ad G (8 + 4 * x.toNatClampNeg)))) hx hb hrt (Or.inl ⟨_, rfl⟩) (Or.inr ⟨_, rfl⟩) (fun t ht hW => ⟨_, rfl, by rw [f_Y_routeOf, if_pos h6]; rfl, ht⟩) (fun q h => by cases h) d_Y_routeOf_19
abbrev rm_U_has : Room := { frames := 0, cells := 0, slots := 0, locals := 0 }
def f_U_has (A : St) (r : Nat) (x : Int32) : Bool :=
  if x < 0 then
    false
  else
    if (nI (sA_len A r)) ≤ x then
      false
    else
      true
set_option maxRecDepth 20000 in
set_option maxHeartbeats 4000000 in
theorem c_U_has (l : Launch) (X : Xt) (G : Gc) (A : St) (r : Nat) (hr : r < 2) (x : Int32) : Met l y_U_has (Cond.code y_U_has b_U_has 2 (some .boolean) :: WA) rm_U_has (va_Pc [.ref (gA_ad G (8 + 4 * r)), .int x] (fun U => PR X G A U.heap ∧ KK X U)) (vp_Si (fun ans => ans = b2i (f_U_has A r x))) 0 0 (fun _ => False) := by
  refine vx_met (cc := b_U_has) (maxL := 2) (ret := (some .boolean)) (by decide) rfl (Nat.le_of_ble_eq_true rfl) ?_
  intro p e s m below meth c ls hx hb hrt hts hown hlocks hname hml hB hl
  obtain ⟨hP, hK⟩ := hB
  have hown : s.vm.findClass R_Route = some m.cls := hown
  have hl : lv_has ls 2 [(0, .ref (gA_ad G (8 + 4 * r))), (1, .int x)] := hl
  have hP : va_P X.1 classes (cw X G A) s.heap := hP
  refine lv_iload_n hx hb d_U_has_0 rfl (lv_at hl 1 rfl) ?_
  refine lv_if_lt (tgt := 16) hx hb d_U_has_1 rfl (fun h1 => ?_) (fun h1 => ?_)
  ·
    refine lv_iconst (v := 0) hx hb d_U_has_16 rfl ?_
    exact W.zret (v := b2i false) hx hb hrt (b2i_nar _) (fun t ht hW => ⟨_, rfl, by rw [f_U_has, if_pos h1], ht⟩) (fun q h => by cases h) d_U_has_17
  ·
    refine lv_iload_n hx hb d_U_has_4 rfl (lv_at hl 1 rfl) ?_
    refine lv_aload_n hx hb d_U_has_5 rfl (lv_at hl 0 rfl) ?_
    refine va_get (D := X.1) (ci := 4) (C := R_Route) (T := F_Route) (N := 4) hx hb hts hin_Route hown hK.1 hP (8 + 4 * r) (cw_r hr) rfl 3 (by decide) (hts _ (wd_1 35 rfl rfl)) (fun _ h9 => h9) rfl d_U_has_6 ?_
    refine lv_icmp_ge (tgt := 16) hx hb d_U_has_9 rfl (fun h9 => ?_) (fun h9 => ?_)
    ·
      refine lv_iconst (v := 0) hx hb d_U_has_16 rfl ?_
      exact W.zret (v := b2i false) hx hb hrt (b2i_nar _) (fun t ht hW => ⟨_, rfl, by rw [f_U_has, if_neg h1, if_pos h9], ht⟩) (fun q h => by cases h) d_U_has_17
    ·
      refine lv_iconst (v := 1) hx hb d_U_has_12 rfl ?_
      refine lv_goto (tgt := 17) hx hb d_U_has_13 rfl ?_
      exact W.zret (v := b2i true) hx hb hrt (b2i_nar _) (fun t ht hW => ⟨_, rfl, by rw [f_U_has, if_neg h1, if_neg h9], ht⟩) (fun q h => by cases h) d_U_has_17
abbrev rm_W_hasBegun : Room := { frames := 1, cells := 0, slots := 0, locals := 22 }
def f_W_hasBegun (A : St) (i : Nat) (x : Int32) : Bool :=
  (f_T_isWithin x 0 ((nI (sA_sg A i)) - 1))
set_option maxRecDepth 20000 in
set_option maxHeartbeats 4000000 in
theorem c_W_hasBegun (l : Launch) (X : Xt) (G : Gc) (A : St) (i : Nat) (hi : i < sA_n A) (x : Int32) : Met l y_W_hasBegun (Cond.code y_W_hasBegun b_W_hasBegun 2 (some .boolean) :: WA) rm_W_hasBegun (va_Pc [.ref (gA_ad G (18 + 4 * i)), .int x] (fun U => PR X G A U.heap ∧ KK X U)) (vp_Si (fun ans => ans = b2i (f_W_hasBegun A i x))) 0 0 (fun _ => False) := by
  refine vx_met (cc := b_W_hasBegun) (maxL := 2) (ret := (some .boolean)) (by decide) rfl (Nat.le_of_ble_eq_true rfl) ?_
  intro p e s m below meth c ls hx hb hrt hts hown hlocks hname hml hB hl
  obtain ⟨hP, hK⟩ := hB
  have hown : s.vm.findClass R_Wafer = some m.cls := hown
  have hl : lv_has ls 2 [(0, .ref (gA_ad G (18 + 4 * i))), (1, .int x)] := hl
  have hP : va_P X.1 classes (cw X G A) s.heap := hP
  refine lv_iload_n hx hb d_W_hasBegun_0 rfl (lv_at hl 1 rfl) ?_
  refine lv_iconst (v := 0) hx hb d_W_hasBegun_1 rfl ?_
  refine lv_aload_n hx hb d_W_hasBegun_2 rfl (lv_at hl 0 rfl) ?_
  refine va_get (D := X.1) (ci := 5) (C := R_Wafer) (T := F_Wafer) (N := 10) hx hb hts hin_Wafer hown hK.1 hP (18 + 4 * i) (cw_w hi) rfl 5 (by decide) (hts _ (wd_1 145 rfl rfl)) (fun _ h9 => h9) rfl d_W_hasBegun_3 ?_
  refine lv_iconst (v := 1) hx hb d_W_hasBegun_6 rfl ?_
  refine lv_isub hx hb d_W_hasBegun_7 ?_
  refine vp_callSi (va_Run.call (va_runSN (As := [.int x, .int 0, .int ((nI (sA_sg A i)) - 1)]) (rest := []) ⟨hx, hb, hml, hown, hts⟩ (c_T_isWithin l X x 0 ((nI (sA_sg A i)) - 1)) ⟨va_cnB 3 hts (gC (wd_1 120 rfl rfl) rfl) rfl rfl rfl (hK.2.1 _ (List.mem_of_getElem? (i := 19) rfl)) (hts _ (wd_1 1 rfl rfl)) hd_T_isWithin ⟨Nat.le_of_ble_eq_true rfl, Nat.le_of_ble_eq_true rfl⟩, hts _ (wd_1 119 rfl rfl), trivial⟩ (vx_preS (P := fun _ => True) trivial hK) rfl rfl hl.1 rfl (lv_room (Nat.le_of_ble_eq_true rfl)) d_W_hasBegun_8 ⟨Nat.zero_le _, Nat.zero_le _⟩)) (fun r8 e8 => ?_)
  subst e8
  exact W.zret (v := b2i (f_T_isWithin x 0 ((nI (sA_sg A i)) - 1))) hx hb hrt (b2i_nar _) (fun t ht hW => ⟨_, rfl, by rw [f_W_hasBegun], ht⟩) (fun q h => by cases h) d_W_hasBegun_11
abbrev rm_T_waferOf : Room := { frames := 1, cells := 0, slots := 0, locals := 22 }
def f_T_waferOf (A : St) (x : Int32) : Option Nat :=
  if (f_T_isWithin x 0 ((nI (sA_n A)) - 1)) then
    some x.toNatClampNeg
  else
    none
set_option maxRecDepth 20000 in
set_option maxHeartbeats 4000000 in
theorem c_T_waferOf (l : Launch) (X : Xt) (G : Gc) (A : St) (x : Int32) (hn : sA_n A ≤ 25) : Met l y_T_waferOf (Cond.code y_T_waferOf b_T_waferOf 2 (some (.object "ClusterTool$Wafer")) :: WA) rm_T_waferOf (va_Pc [.ref (gA_ad G 0), .int x] (fun U => PR X G A U.heap ∧ KK X U)) (va_Sq (fun ans => ans = (f_T_waferOf A x).map (fun j => gA_ad G (18 + 4 * j)))) 0 0 (fun _ => False) := by
  refine vx_met (cc := b_T_waferOf) (maxL := 2) (ret := (some (.object "ClusterTool$Wafer"))) (by decide) rfl (Nat.le_of_ble_eq_true rfl) ?_
  intro p e s m below meth c ls hx hb hrt hts hown hlocks hname hml hB hl
  obtain ⟨hP, hK⟩ := hB
  have hown : s.vm.findClass R_ClusterTool = some m.cls := hown
  have hl : lv_has ls 2 [(0, .ref (gA_ad G 0)), (1, .int x)] := hl
  have hP : va_P X.1 classes (cw X G A) s.heap := hP
  refine lv_iload_n hx hb d_T_waferOf_0 rfl (lv_at hl 1 rfl) ?_
  refine lv_iconst (v := 0) hx hb d_T_waferOf_1 rfl ?_
  refine lv_aload_n hx hb d_T_waferOf_2 rfl (lv_at hl 0 rfl) ?_
  refine va_get (D := X.1) (ci := 0) (C := R_ClusterTool) (T := F_ClusterTool) (N := 8) hx hb hts hin_ClusterTool hown hK.1 hP 0 cw_0 rfl 6 (by decide) (hts _ (wd_1 91 rfl rfl)) (fun _ h9 => h9) rfl d_T_waferOf_3 ?_
  refine lv_iconst (v := 1) hx hb d_T_waferOf_6 rfl ?_
  refine lv_isub hx hb d_T_waferOf_7 ?_
  refine vp_callSi (W.runS (As := [.int x, .int 0, .int ((nI (sA_n A)) - 1)]) (rest := []) ⟨hx, hb, hml, hown, hts⟩ (c_T_isWithin l X x 0 ((nI (sA_n A)) - 1)) (va_cwS 3 hts (gT (wd_1 121 rfl rfl) (wd_1 119 rfl rfl) (wd_1 1 rfl rfl) (wd_1 120 rfl rfl)) rfl rfl rfl hd_T_isWithin ⟨Nat.le_of_ble_eq_true rfl, Nat.le_of_ble_eq_true rfl⟩) (vx_preS (P := fun _ => True) trivial hK) rfl rfl hl.1 rfl (lv_room (Nat.le_of_ble_eq_true rfl)) d_T_waferOf_8 ⟨Nat.zero_le _, Nat.zero_le _⟩) (fun r8 e8 => ?_)
  subst e8
  refine lv_if_eq (tgt := 23) hx hb d_T_waferOf_11 rfl (fun h11 => ?_) (fun h11 => ?_)
  ·
    have h11 := b2i_f h11
    refine lv_null hx hb d_T_waferOf_23 ?_
    exact W.aret (v := va_rf none) hx hb hrt (Or.inl ⟨_, rfl⟩) (Or.inl rfl) (fun t ht hW => ⟨_, rfl, by rw [f_T_waferOf, if_neg (nt_of h11)]; rfl, ht⟩) (fun q h => by cases h) d_T_waferOf_24
  ·
    have h11 := b2i_t h11
    refine lv_aload_n hx hb d_T_waferOf_14 rfl (lv_at hl 0 rfl) ?_
    refine va_get (D := X.1) (ci := 0) (C := R_ClusterTool) (T := F_ClusterTool) (N := 8) hx hb hts hin_ClusterTool hown hK.1 hP 0 cw_0 rfl 4 (by decide) (hts _ (wd_1 89 rfl rfl)) (fun _ h9 => h9) rfl d_T_waferOf_15 ?_
    refine lv_iload_n hx hb d_T_waferOf_18 rfl (lv_at hl 1 rfl) ?_
    refine va_aldq hx hb hK.1 hP 5 3 cw_5 rfl (within_in h11 (by rw [nI_m1 (by omega)]; omega)) d_T_waferOf_19 ?_
    rw [wRefs_at (vp_clamp (within_in h11 (by rw [nI_m1 (by omega)]; omega)))]
    refine lv_goto (tgt := 24) hx hb d_T_waferOf_20 rfl ?_
    exact W.aret (v := va_rf (some (gA_ad G (18 + 4 * x.toNatClampNeg)))) hx hb hrt (Or.inl ⟨_, rfl⟩) (Or.inr ⟨_, rfl⟩) (fun t ht hW => ⟨_, rfl, by rw [f_T_waferOf, if_pos h11]; rfl, ht⟩) (fun q h => by cases h) d_T_waferOf_24
end
section
/-! Indices that readers hand back. Own work. -/
theorem routeOf_lt {x : Int32} {j : Nat} (h : f_Y_routeOf x = some j) : j < 2 := by
  unfold f_Y_routeOf at h
  split at h
  · next hc =>
    cases h
    exact vp_clamp (within_in hc (by decide))
  · cases h
theorem waferOf_lt {A : St} {x : Int32} {j : Nat} (hn : sA_n A ≤ 25) (h : f_T_waferOf A x = some j) : j < sA_n A := by
  unfold f_T_waferOf at h
  split at h
  · next hc =>
    cases h
    exact vp_clamp (within_in hc (by rw [nI_m1 (by omega)]; omega))
  · cases h
theorem has_in {A : St} {r : Nat} {x : Int32} (hR : rOk A) (h : f_U_has A r x = true) : vp_in x 3 := by
  have hl := hR.1 r
  unfold f_U_has at h
  split at h
  · cases h
  · next h1 =>
    split at h
    · cases h
    · next h2 =>
      rw [vp_in_iff]
      rw [Int32.lt_iff_toInt_lt] at h1
      rw [Int32.le_iff_toInt_le, nI_toInt (by omega)] at h2
      have : (0 : Int32).toInt = 0 := rfl
      omega
theorem begun_in {A : St} {i : Nat} {x : Int32} (hI : Inv A) (hi : i < sA_n A) (h : f_W_hasBegun A i x = true) : vp_in x 3 := by
  have h1 := (hI.2.2.1 i hi).2.1
  have h2 := hI.2.1.1 (sA_rt A i)
  exact within_in (n := 3) h (by rw [nI_m1 (by omega)]; omega)
theorem ne5 {q : Nat} (hq : q < 6) (h : ¬ nI q = 5) : q < 5 := by
  have : q ≠ 5 := fun e => h (by rw [e]; rfl)
  omega
end
section
abbrev rm_U_maskAt : Room := { frames := 1, cells := 0, slots := 0, locals := 21 }
def f_U_maskAt (A : St) (r : Nat) (x : Int32) : Int32 :=
  if (f_U_has A r x) then
    nI (sA_mk A r x.toNatClampNeg)
  else
    0
set_option maxRecDepth 20000 in
set_option maxHeartbeats 4000000 in
theorem c_U_maskAt (l : Launch) (X : Xt) (G : Gc) (A : St) (r : Nat) (hr : r < 2) (x : Int32) (hR : rOk A) : Met l y_U_maskAt (Cond.code y_U_maskAt b_U_maskAt 2 (some .int) :: WA) rm_U_maskAt (va_Pc [.ref (gA_ad G (8 + 4 * r)), .int x] (fun U => PR X G A U.heap ∧ KK X U)) (vp_Si (fun ans => ans = f_U_maskAt A r x)) 0 0 (fun _ => False) := by
  refine vx_met (cc := b_U_maskAt) (maxL := 2) (ret := (some .int)) (by decide) rfl (Nat.le_of_ble_eq_true rfl) ?_
  intro p e s m below meth c ls hx hb hrt hts hown hlocks hname hml hB hl
  obtain ⟨hP, hK⟩ := hB
  have hown : s.vm.findClass R_Route = some m.cls := hown
  have hl : lv_has ls 2 [(0, .ref (gA_ad G (8 + 4 * r))), (1, .int x)] := hl
  have hP : va_P X.1 classes (cw X G A) s.heap := hP
  refine lv_aload_n hx hb d_U_maskAt_0 rfl (lv_at hl 0 rfl) ?_
  refine lv_iload_n hx hb d_U_maskAt_1 rfl (lv_at hl 1 rfl) ?_
  refine vp_callSi (W.runV (As := [.int x]) (rest := []) ⟨hx, hb, hml, hown, hts⟩ (c_U_has l X G A r hr x) (cwV 1 hts (gV (wd_1 200 rfl rfl) (wd_1 202 rfl rfl) (wd_s 1 rfl) (wd_1 3 rfl rfl) (wd_1 203 rfl rfl)) rfl rfl rfl ⟨rfl, hd_U_has⟩ ⟨Nat.le_of_ble_eq_true rfl, Nat.le_of_ble_eq_true rfl⟩) (vx_preV (P := PR X G A) hP hK (va_recv hK.1 hP (ci := 4) rfl (cw_r hr))) rfl rfl hl.1 rfl (lv_room (Nat.le_of_ble_eq_true rfl)) d_U_maskAt_2 ⟨Nat.zero_le _, Nat.zero_le _⟩) (fun r2 e2 => ?_)
  subst e2
  refine lv_if_eq (tgt := 17) hx hb d_U_maskAt_5 rfl (fun h5 => ?_) (fun h5 => ?_)
  ·
    have h5 := b2i_f h5
    refine lv_iconst (v := 0) hx hb d_U_maskAt_17 rfl ?_
    exact W.iret (v := 0) hx hb hrt (fun t ht hW => ⟨_, rfl, by rw [f_U_maskAt, if_neg (nt_of h5)], ht⟩) (fun q h => by cases h) d_U_maskAt_18
  ·
    have h5 := b2i_t h5
    refine lv_aload_n hx hb d_U_maskAt_8 rfl (lv_at hl 0 rfl) ?_
    refine va_get (D := X.1) (ci := 4) (C := R_Route) (T := F_Route) (N := 4) hx hb hts hin_Route hown hK.1 hP (8 + 4 * r) (cw_r hr) rfl 0 (by decide) (hts _ (wd_1 32 rfl rfl)) (fun _ h9 => h9) rfl d_U_maskAt_9 ?_
    refine lv_iload_n hx hb d_U_maskAt_12 rfl (lv_at hl 1 rfl) ?_
    refine va_iald hx hb hK.1 hP (9 + 4 * r) 0 (cw_rm hr) rfl (has_in hR h5) d_U_maskAt_13 ?_
    refine lv_goto (tgt := 18) hx hb d_U_maskAt_14 rfl ?_
    exact W.iret (v := nI (sA_mk A r x.toNatClampNeg)) hx hb hrt (fun t ht hW => ⟨_, rfl, by rw [f_U_maskAt, if_pos h5], ht⟩) (fun q h => by cases h) d_U_maskAt_18
abbrev rm_U_timeAt : Room := { frames := 1, cells := 0, slots := 0, locals := 21 }
def f_U_timeAt (A : St) (r : Nat) (x : Int32) : Int32 :=
  if (f_U_has A r x) then
    nI (sA_tm A r x.toNatClampNeg)
  else
    0
set_option maxRecDepth 20000 in
set_option maxHeartbeats 4000000 in
theorem c_U_timeAt (l : Launch) (X : Xt) (G : Gc) (A : St) (r : Nat) (hr : r < 2) (x : Int32) (hR : rOk A) : Met l y_U_timeAt (Cond.code y_U_timeAt b_U_timeAt 2 (some .int) :: WA) rm_U_timeAt (va_Pc [.ref (gA_ad G (8 + 4 * r)), .int x] (fun U => PR X G A U.heap ∧ KK X U)) (vp_Si (fun ans => ans = f_U_timeAt A r x)) 0 0 (fun _ => False) := by
  refine vx_met (cc := b_U_timeAt) (maxL := 2) (ret := (some .int)) (by decide) rfl (Nat.le_of_ble_eq_true rfl) ?_
  intro p e s m below meth c ls hx hb hrt hts hown hlocks hname hml hB hl
  obtain ⟨hP, hK⟩ := hB
  have hown : s.vm.findClass R_Route = some m.cls := hown
  have hl : lv_has ls 2 [(0, .ref (gA_ad G (8 + 4 * r))), (1, .int x)] := hl
  have hP : va_P X.1 classes (cw X G A) s.heap := hP
  refine lv_aload_n hx hb d_U_timeAt_0 rfl (lv_at hl 0 rfl) ?_
  refine lv_iload_n hx hb d_U_timeAt_1 rfl (lv_at hl 1 rfl) ?_
  refine vp_callSi (W.runV (As := [.int x]) (rest := []) ⟨hx, hb, hml, hown, hts⟩ (c_U_has l X G A r hr x) (cwV 1 hts (gV (wd_1 200 rfl rfl) (wd_1 202 rfl rfl) (wd_s 1 rfl) (wd_1 3 rfl rfl) (wd_1 203 rfl rfl)) rfl rfl rfl ⟨rfl, hd_U_has⟩ ⟨Nat.le_of_ble_eq_true rfl, Nat.le_of_ble_eq_true rfl⟩) (vx_preV (P := PR X G A) hP hK (va_recv hK.1 hP (ci := 4) rfl (cw_r hr))) rfl rfl hl.1 rfl (lv_room (Nat.le_of_ble_eq_true rfl)) d_U_timeAt_2 ⟨Nat.zero_le _, Nat.zero_le _⟩) (fun r2 e2 => ?_)
  subst e2
  refine lv_if_eq (tgt := 17) hx hb d_U_timeAt_5 rfl (fun h5 => ?_) (fun h5 => ?_)
  ·
    have h5 := b2i_f h5
    refine lv_iconst (v := 0) hx hb d_U_timeAt_17 rfl ?_
    exact W.iret (v := 0) hx hb hrt (fun t ht hW => ⟨_, rfl, by rw [f_U_timeAt, if_neg (nt_of h5)], ht⟩) (fun q h => by cases h) d_U_timeAt_18
  ·
    have h5 := b2i_t h5
    refine lv_aload_n hx hb d_U_timeAt_8 rfl (lv_at hl 0 rfl) ?_
    refine va_get (D := X.1) (ci := 4) (C := R_Route) (T := F_Route) (N := 4) hx hb hts hin_Route hown hK.1 hP (8 + 4 * r) (cw_r hr) rfl 1 (by decide) (hts _ (wd_1 33 rfl rfl)) (fun _ h9 => h9) rfl d_U_timeAt_9 ?_
    refine lv_iload_n hx hb d_U_timeAt_12 rfl (lv_at hl 1 rfl) ?_
    refine va_iald hx hb hK.1 hP (10 + 4 * r) 0 (cw_rt hr) rfl (has_in hR h5) d_U_timeAt_13 ?_
    refine lv_goto (tgt := 18) hx hb d_U_timeAt_14 rfl ?_
    exact W.iret (v := nI (sA_tm A r x.toNatClampNeg)) hx hb hrt (fun t ht hW => ⟨_, rfl, by rw [f_U_timeAt, if_pos h5], ht⟩) (fun q h => by cases h) d_U_timeAt_18
abbrev rm_U_limitAt : Room := { frames := 1, cells := 0, slots := 0, locals := 21 }
def f_U_limitAt (A : St) (r : Nat) (x : Int32) : Int32 :=
  if (f_U_has A r x) then
    nI (sA_lm A r x.toNatClampNeg)
  else
    0
set_option maxRecDepth 20000 in
set_option maxHeartbeats 4000000 in
theorem c_U_limitAt (l : Launch) (X : Xt) (G : Gc) (A : St) (r : Nat) (hr : r < 2) (x : Int32) (hR : rOk A) : Met l y_U_limitAt (Cond.code y_U_limitAt b_U_limitAt 2 (some .int) :: WA) rm_U_limitAt (va_Pc [.ref (gA_ad G (8 + 4 * r)), .int x] (fun U => PR X G A U.heap ∧ KK X U)) (vp_Si (fun ans => ans = f_U_limitAt A r x)) 0 0 (fun _ => False) := by
  refine vx_met (cc := b_U_limitAt) (maxL := 2) (ret := (some .int)) (by decide) rfl (Nat.le_of_ble_eq_true rfl) ?_
  intro p e s m below meth c ls hx hb hrt hts hown hlocks hname hml hB hl
  obtain ⟨hP, hK⟩ := hB
  have hown : s.vm.findClass R_Route = some m.cls := hown
  have hl : lv_has ls 2 [(0, .ref (gA_ad G (8 + 4 * r))), (1, .int x)] := hl
  have hP : va_P X.1 classes (cw X G A) s.heap := hP
  refine lv_aload_n hx hb d_U_limitAt_0 rfl (lv_at hl 0 rfl) ?_
  refine lv_iload_n hx hb d_U_limitAt_1 rfl (lv_at hl 1 rfl) ?_
  refine vp_callSi (W.runV (As := [.int x]) (rest := []) ⟨hx, hb, hml, hown, hts⟩ (c_U_has l X G A r hr x) (cwV 1 hts (gV (wd_1 200 rfl rfl) (wd_1 202 rfl rfl) (wd_s 1 rfl) (wd_1 3 rfl rfl) (wd_1 203 rfl rfl)) rfl rfl rfl ⟨rfl, hd_U_has⟩ ⟨Nat.le_of_ble_eq_true rfl, Nat.le_of_ble_eq_true rfl⟩) (vx_preV (P := PR X G A) hP hK (va_recv hK.1 hP (ci := 4) rfl (cw_r hr))) rfl rfl hl.1 rfl (lv_room (Nat.le_of_ble_eq_true rfl)) d_U_limitAt_2 ⟨Nat.zero_le _, Nat.zero_le _⟩) (fun r2 e2 => ?_)
  subst e2
  refine lv_if_eq (tgt := 17) hx hb d_U_limitAt_5 rfl (fun h5 => ?_) (fun h5 => ?_)
  ·
    have h5 := b2i_f h5
    refine lv_iconst (v := 0) hx hb d_U_limitAt_17 rfl ?_
    exact W.iret (v := 0) hx hb hrt (fun t ht hW => ⟨_, rfl, by rw [f_U_limitAt, if_neg (nt_of h5)], ht⟩) (fun q h => by cases h) d_U_limitAt_18
  ·
    have h5 := b2i_t h5
    refine lv_aload_n hx hb d_U_limitAt_8 rfl (lv_at hl 0 rfl) ?_
    refine va_get (D := X.1) (ci := 4) (C := R_Route) (T := F_Route) (N := 4) hx hb hts hin_Route hown hK.1 hP (8 + 4 * r) (cw_r hr) rfl 2 (by decide) (hts _ (wd_1 34 rfl rfl)) (fun _ h9 => h9) rfl d_U_limitAt_9 ?_
    refine lv_iload_n hx hb d_U_limitAt_12 rfl (lv_at hl 1 rfl) ?_
    refine va_iald hx hb hK.1 hP (11 + 4 * r) 0 (cw_rl hr) rfl (has_in hR h5) d_U_limitAt_13 ?_
    refine lv_goto (tgt := 18) hx hb d_U_limitAt_14 rfl ?_
    exact W.iret (v := nI (sA_lm A r x.toNatClampNeg)) hx hb hrt (fun t ht hW => ⟨_, rfl, by rw [f_U_limitAt, if_pos h5], ht⟩) (fun q h => by cases h) d_U_limitAt_18
abbrev rm_Y_leads : Room := { frames := 2, cells := 0, slots := 0, locals := 43 }
def f_Y_leads (A : St) (x : Int32) (g : Int32) (u : Int32) (v : Int32) : Bool :=
  oc (f_Y_routeOf x)
    (false)
    (fun i2 =>
      if (f_Y_isDown A u) then
        false
      else
        if (f_Y_isDown A v) then
          false
        else
          if (f_Y_isReach u v) then
            if (f_U_maskAt A i2 g) = 0 then
              (f_Y_isHomeward u v)
            else
              if 4 ≤ v then
                if v = 4 then
                  if ((f_U_maskAt A i2 g) &&& (f_Y_beyond u)) = 0 then
                    false
                  else
                    true
                else
                  false
              else
                if ((f_U_maskAt A i2 g) &&& ((1 : Int32) <<< (v &&& 31))) = 0 then
                  false
                else
                  true
          else
            false)
set_option maxRecDepth 20000 in
set_option maxHeartbeats 4000000 in
theorem c_Y_leads (l : Launch) (X : Xt) (G : Gc) (A : St) (x : Int32) (g : Int32) (u : Int32) (v : Int32) (hR : rOk A) : Met l y_Y_leads (Cond.code y_Y_leads b_Y_leads 7 (some .boolean) :: WA) rm_Y_leads (va_Pc [.ref (gA_ad G 1), .int x, .int g, .int u, .int v] (fun U => PR X G A U.heap ∧ KK X U)) (vp_Si (fun ans => ans = b2i (f_Y_leads A x g u v))) 0 0 (fun _ => False) := by
  refine vx_met (cc := b_Y_leads) (maxL := 7) (ret := (some .boolean)) (by decide) rfl (Nat.le_of_ble_eq_true rfl) ?_
  intro p e s m below meth c ls hx hb hrt hts hown hlocks hname hml hB hl
  obtain ⟨hP, hK⟩ := hB
  have hown : s.vm.findClass R_Ways = some m.cls := hown
  have hl : lv_has ls 7 [(0, .ref (gA_ad G 1)), (1, .int x), (2, .int g), (3, .int u), (4, .int v)] := hl
  have hP : va_P X.1 classes (cw X G A) s.heap := hP
  refine lv_aload_n hx hb d_Y_leads_0 rfl (lv_at hl 0 rfl) ?_
  refine lv_iload_n hx hb d_Y_leads_1 rfl (lv_at hl 1 rfl) ?_
  refine va_csq (W.runV (As := [.int x]) (rest := []) ⟨hx, hb, hml, hown, hts⟩ (c_Y_routeOf l X G A x) (cwV 1 hts (gV (wd_1 188 rfl rfl) (wd_1 115 rfl rfl) (wd_1 116 rfl rfl) (wd_1 2 rfl rfl) (wd_1 117 rfl rfl)) rfl rfl rfl ⟨rfl, hd_Y_routeOf⟩ ⟨Nat.le_of_ble_eq_true rfl, Nat.le_of_ble_eq_true rfl⟩) (vx_preV (P := PR X G A) hP hK (va_recv hK.1 hP (ci := 1) rfl cw_1)) rfl rfl hl.1 rfl (lv_room (Nat.le_of_ble_eq_true rfl)) d_Y_leads_2 ⟨Nat.zero_le _, Nat.zero_le _⟩) (fun r2 e2 => ?_)
  cases q2 : f_Y_routeOf x with
  | none =>
    have e2 : r2 = none := by rw [e2, q2]; rfl
    subst e2
    refine lv_astoreN (lv' := [(5, .null), (0, .ref (gA_ad G 1)), (1, .int x), (2, .int g), (3, .int u), (4, .int v)]) hx hb d_Y_leads_5 hl (by decide) rfl (fun ls hl => ?_)
    refine lv_aloadN hx hb d_Y_leads_7 (lv_at hl 0 rfl) ?_
    refine lv_ifnullN (tgt := 38) hx hb d_Y_leads_9 rfl ?_
    refine lv_iconst (v := 0) hx hb d_Y_leads_38 rfl ?_
    exact W.zret (v := b2i false) hx hb hrt (b2i_nar _) (fun t ht hW => ⟨_, rfl, by rw [f_Y_leads, oc_none q2], ht⟩) (fun q h => by cases h) d_Y_leads_39
  | some i2 =>
    have e2 : r2 = some (gA_ad G (8 + 4 * i2)) := by rw [e2, q2]; rfl
    subst e2
    have hli2 := routeOf_lt q2
    refine lv_astore (lv' := [(5, .ref (gA_ad G (8 + 4 * i2))), (0, .ref (gA_ad G 1)), (1, .int x), (2, .int g), (3, .int u), (4, .int v)]) hx hb d_Y_leads_5 hl (by decide) rfl (fun ls hl => ?_)
    refine lv_aload hx hb d_Y_leads_7 (lv_at hl 0 rfl) ?_
    refine lv_ifnull hx hb d_Y_leads_9 ?_
    refine lv_aload_n hx hb d_Y_leads_12 rfl (lv_at hl 1 rfl) ?_
    refine lv_iload_n hx hb d_Y_leads_13 rfl (lv_at hl 4 rfl) ?_
    refine vp_callSi (W.runV (As := [.int u]) (rest := []) ⟨hx, hb, hml, hown, hts⟩ (c_Y_isDown l X G A u) (cwV 1 hts (gV (wd_1 189 rfl rfl) (wd_1 190 rfl rfl) (wd_1 191 rfl rfl) (wd_1 2 rfl rfl) (wd_1 192 rfl rfl)) rfl rfl rfl ⟨rfl, hd_Y_isDown⟩ ⟨Nat.le_of_ble_eq_true rfl, Nat.le_of_ble_eq_true rfl⟩) (vx_preV (P := PR X G A) hP hK (va_recv hK.1 hP (ci := 1) rfl cw_1)) rfl rfl hl.1 rfl (lv_room (Nat.le_of_ble_eq_true rfl)) d_Y_leads_14 ⟨Nat.zero_le _, Nat.zero_le _⟩) (fun r14 e14 => ?_)
    subst e14
    refine lv_if_ne (tgt := 38) hx hb d_Y_leads_17 rfl (fun h17 => ?_) (fun h17 => ?_)
    ·
      have h17 := b2i_t h17
      refine lv_iconst (v := 0) hx hb d_Y_leads_38 rfl ?_
      exact W.zret (v := b2i false) hx hb hrt (b2i_nar _) (fun t ht hW => ⟨_, rfl, by rw [f_Y_leads, oc_some q2, if_pos h17], ht⟩) (fun q h => by cases h) d_Y_leads_39
    ·
      have h17 := b2i_f h17
      refine lv_aload_n hx hb d_Y_leads_20 rfl (lv_at hl 1 rfl) ?_
      refine lv_iload hx hb d_Y_leads_21 (lv_at hl 5 rfl) ?_
      refine vp_callSi (W.runV (As := [.int v]) (rest := []) ⟨hx, hb, hml, hown, hts⟩ (c_Y_isDown l X G A v) (cwV 1 hts (gV (wd_1 189 rfl rfl) (wd_1 190 rfl rfl) (wd_1 191 rfl rfl) (wd_1 2 rfl rfl) (wd_1 192 rfl rfl)) rfl rfl rfl ⟨rfl, hd_Y_isDown⟩ ⟨Nat.le_of_ble_eq_true rfl, Nat.le_of_ble_eq_true rfl⟩) (vx_preV (P := PR X G A) hP hK (va_recv hK.1 hP (ci := 1) rfl cw_1)) rfl rfl hl.1 rfl (lv_room (Nat.le_of_ble_eq_true rfl)) d_Y_leads_23 ⟨Nat.zero_le _, Nat.zero_le _⟩) (fun r23 e23 => ?_)
      subst e23
      refine lv_if_ne (tgt := 38) hx hb d_Y_leads_26 rfl (fun h26 => ?_) (fun h26 => ?_)
      ·
        have h26 := b2i_t h26
        refine lv_iconst (v := 0) hx hb d_Y_leads_38 rfl ?_
        exact W.zret (v := b2i false) hx hb hrt (b2i_nar _) (fun t ht hW => ⟨_, rfl, by rw [f_Y_leads, oc_some q2, if_neg (nt_of h17), if_pos h26], ht⟩) (fun q h => by cases h) d_Y_leads_39
      ·
        have h26 := b2i_f h26
        refine lv_iload_n hx hb d_Y_leads_29 rfl (lv_at hl 4 rfl) ?_
        refine lv_iload hx hb d_Y_leads_30 (lv_at hl 5 rfl) ?_
        refine vp_callSi (W.runS (As := [.int u, .int v]) (rest := []) ⟨hx, hb, hml, hown, hts⟩ (c_Y_isReach l X u v) (va_cwS 2 hts (gT (wd_1 193 rfl rfl) (wd_1 194 rfl rfl) (wd_1 2 rfl rfl) (wd_1 195 rfl rfl)) rfl rfl rfl hd_Y_isReach ⟨Nat.le_of_ble_eq_true rfl, Nat.le_of_ble_eq_true rfl⟩) (vx_preS (P := fun _ => True) trivial hK) rfl rfl hl.1 rfl (lv_room (Nat.le_of_ble_eq_true rfl)) d_Y_leads_32 ⟨Nat.zero_le _, Nat.zero_le _⟩) (fun r32 e32 => ?_)
        subst e32
        refine lv_if_ne (tgt := 40) hx hb d_Y_leads_35 rfl (fun h35 => ?_) (fun h35 => ?_)
        ·
          have h35 := b2i_t h35
          refine lv_aload hx hb d_Y_leads_40 (lv_at hl 0 rfl) ?_
          refine lv_iload_n hx hb d_Y_leads_42 rfl (lv_at hl 3 rfl) ?_
          refine vp_callSi (W.runV (As := [.int g]) (rest := []) ⟨hx, hb, hml, hown, hts⟩ (c_U_maskAt l X G A i2 hli2 g hR) (cwV 1 hts (gV (wd_1 196 rfl rfl) (wd_1 197 rfl rfl) (wd_1 198 rfl rfl) (wd_1 3 rfl rfl) (wd_1 199 rfl rfl)) rfl rfl rfl ⟨rfl, hd_U_maskAt⟩ ⟨Nat.le_of_ble_eq_true rfl, Nat.le_of_ble_eq_true rfl⟩) (vx_preV (P := PR X G A) hP hK (va_recv hK.1 hP (ci := 4) rfl (cw_r hli2))) rfl rfl hl.1 rfl (lv_room (Nat.le_of_ble_eq_true rfl)) d_Y_leads_43 ⟨Nat.zero_le _, Nat.zero_le _⟩) (fun r43 e43 => ?_)
          subst e43
          refine lv_istore (lv' := [(6, .int (f_U_maskAt A i2 g)), (5, .ref (gA_ad G (8 + 4 * i2))), (0, .ref (gA_ad G 1)), (1, .int x), (2, .int g), (3, .int u), (4, .int v)]) hx hb d_Y_leads_46 hl (by decide) rfl (fun ls hl => ?_)
          refine lv_iload hx hb d_Y_leads_48 (lv_at hl 0 rfl) ?_
          refine lv_if_ne (tgt := 60) hx hb d_Y_leads_50 rfl (fun h50 => ?_) (fun h50 => ?_)
          ·
            refine lv_iload hx hb d_Y_leads_60 (lv_at hl 6 rfl) ?_
            refine lv_iconst (v := 4) hx hb d_Y_leads_62 rfl ?_
            refine lv_icmp_ge (tgt := 82) hx hb d_Y_leads_63 rfl (fun h63 => ?_) (fun h63 => ?_)
            ·
              refine lv_iload hx hb d_Y_leads_82 (lv_at hl 6 rfl) ?_
              refine lv_iconst (v := 4) hx hb d_Y_leads_84 rfl ?_
              refine lv_icmp_ne (tgt := 102) hx hb d_Y_leads_85 rfl (fun h85 => ?_) (fun h85 => ?_)
              ·
                refine lv_iconst (v := 0) hx hb d_Y_leads_102 rfl ?_
                exact W.zret (v := b2i false) hx hb hrt (b2i_nar _) (fun t ht hW => ⟨_, rfl, by rw [f_Y_leads, oc_some q2, if_neg (nt_of h17), if_neg (nt_of h26), if_pos h35, if_neg h50, if_pos h63, if_neg h85], ht⟩) (fun q h => by cases h) d_Y_leads_103
              ·
                refine lv_iload hx hb d_Y_leads_88 (lv_at hl 0 rfl) ?_
                refine lv_iload_n hx hb d_Y_leads_90 rfl (lv_at hl 5 rfl) ?_
                refine vp_callSi (W.runS (As := [.int u]) (rest := [.int (f_U_maskAt A i2 g)]) ⟨hx, hb, hml, hown, hts⟩ (c_Y_beyond l X u) (va_cwS 1 hts (gT (wd_1 210 rfl rfl) (wd_1 211 rfl rfl) (wd_1 2 rfl rfl) (wd_1 212 rfl rfl)) rfl rfl rfl hd_Y_beyond ⟨Nat.le_of_ble_eq_true rfl, Nat.le_of_ble_eq_true rfl⟩) (vx_preS (P := fun _ => True) trivial hK) rfl rfl hl.1 rfl (lv_room (Nat.le_of_ble_eq_true rfl)) d_Y_leads_91 ⟨Nat.zero_le _, Nat.zero_le _⟩) (fun r91 e91 => ?_)
                subst e91
                refine lv_iand hx hb d_Y_leads_94 ?_
                refine lv_if_eq (tgt := 102) hx hb d_Y_leads_95 rfl (fun h95 => ?_) (fun h95 => ?_)
                ·
                  refine lv_iconst (v := 0) hx hb d_Y_leads_102 rfl ?_
                  exact W.zret (v := b2i false) hx hb hrt (b2i_nar _) (fun t ht hW => ⟨_, rfl, by rw [f_Y_leads, oc_some q2, if_neg (nt_of h17), if_neg (nt_of h26), if_pos h35, if_neg h50, if_pos h63, if_pos h85, if_pos h95], ht⟩) (fun q h => by cases h) d_Y_leads_103
                ·
                  refine lv_iconst (v := 1) hx hb d_Y_leads_98 rfl ?_
                  refine lv_goto (tgt := 103) hx hb d_Y_leads_99 rfl ?_
                  exact W.zret (v := b2i true) hx hb hrt (b2i_nar _) (fun t ht hW => ⟨_, rfl, by rw [f_Y_leads, oc_some q2, if_neg (nt_of h17), if_neg (nt_of h26), if_pos h35, if_neg h50, if_pos h63, if_pos h85, if_neg h95], ht⟩) (fun q h => by cases h) d_Y_leads_103
            ·
              refine lv_iload hx hb d_Y_leads_66 (lv_at hl 0 rfl) ?_
              refine lv_iconst (v := 1) hx hb d_Y_leads_68 rfl ?_
              refine lv_iload hx hb d_Y_leads_69 (lv_at hl 6 rfl) ?_
              refine lv_ishl hx hb d_Y_leads_71 ?_
              refine lv_iand hx hb d_Y_leads_72 ?_
              refine lv_if_eq (tgt := 80) hx hb d_Y_leads_73 rfl (fun h73 => ?_) (fun h73 => ?_)
              ·
                refine lv_iconst (v := 0) hx hb d_Y_leads_80 rfl ?_
                exact W.zret (v := b2i false) hx hb hrt (b2i_nar _) (fun t ht hW => ⟨_, rfl, by rw [f_Y_leads, oc_some q2, if_neg (nt_of h17), if_neg (nt_of h26), if_pos h35, if_neg h50, if_neg h63, if_pos h73], ht⟩) (fun q h => by cases h) d_Y_leads_81
              ·
                refine lv_iconst (v := 1) hx hb d_Y_leads_76 rfl ?_
                refine lv_goto (tgt := 81) hx hb d_Y_leads_77 rfl ?_
                exact W.zret (v := b2i true) hx hb hrt (b2i_nar _) (fun t ht hW => ⟨_, rfl, by rw [f_Y_leads, oc_some q2, if_neg (nt_of h17), if_neg (nt_of h26), if_pos h35, if_neg h50, if_neg h63, if_neg h73], ht⟩) (fun q h => by cases h) d_Y_leads_81
          ·
            refine lv_iload_n hx hb d_Y_leads_53 rfl (lv_at hl 5 rfl) ?_
            refine lv_iload hx hb d_Y_leads_54 (lv_at hl 6 rfl) ?_
            refine vp_callSi (W.runS (As := [.int u, .int v]) (rest := []) ⟨hx, hb, hml, hown, hts⟩ (c_Y_isHomeward l X u v) (va_cwS 2 hts (gT (wd_1 204 rfl rfl) (wd_1 205 rfl rfl) (wd_1 2 rfl rfl) (wd_1 206 rfl rfl)) rfl rfl rfl hd_Y_isHomeward ⟨Nat.le_of_ble_eq_true rfl, Nat.le_of_ble_eq_true rfl⟩) (vx_preS (P := fun _ => True) trivial hK) rfl rfl hl.1 rfl (lv_room (Nat.le_of_ble_eq_true rfl)) d_Y_leads_56 ⟨Nat.zero_le _, Nat.zero_le _⟩) (fun r56 e56 => ?_)
            subst e56
            exact W.zret (v := b2i (f_Y_isHomeward u v)) hx hb hrt (b2i_nar _) (fun t ht hW => ⟨_, rfl, by rw [f_Y_leads, oc_some q2, if_neg (nt_of h17), if_neg (nt_of h26), if_pos h35, if_pos h50], ht⟩) (fun q h => by cases h) d_Y_leads_59
        ·
          have h35 := b2i_f h35
          refine lv_iconst (v := 0) hx hb d_Y_leads_38 rfl ?_
          exact W.zret (v := b2i false) hx hb hrt (b2i_nar _) (fun t ht hW => ⟨_, rfl, by rw [f_Y_leads, oc_some q2, if_neg (nt_of h17), if_neg (nt_of h26), if_neg (nt_of h35)], ht⟩) (fun q h => by cases h) d_Y_leads_39
abbrev rm_T_limitOf : Room := { frames := 2, cells := 0, slots := 0, locals := 43 }
def f_T_limitOf (A : St) (i : Nat) : Int32 :=
  oc (f_Y_routeOf (nI (sA_rt A i)))
    (0)
    (fun i8 =>
      f_U_limitAt A i8 ((nI (sA_sg A i)) - 1))
set_option maxRecDepth 20000 in
set_option maxHeartbeats 4000000 in
theorem c_T_limitOf (l : Launch) (X : Xt) (G : Gc) (A : St) (i : Nat) (hi : i < sA_n A) (hR : rOk A) : Met l y_T_limitOf (Cond.code y_T_limitOf b_T_limitOf 3 (some .int) :: WA) rm_T_limitOf (va_Pc [.ref (gA_ad G 0), .ref (gA_ad G (18 + 4 * i))] (fun U => PR X G A U.heap ∧ KK X U)) (vp_Si (fun ans => ans = f_T_limitOf A i)) 0 0 (fun _ => False) := by
  refine vx_met (cc := b_T_limitOf) (maxL := 3) (ret := (some .int)) (by decide) rfl (Nat.le_of_ble_eq_true rfl) ?_
  intro p e s m below meth c ls hx hb hrt hts hown hlocks hname hml hB hl
  obtain ⟨hP, hK⟩ := hB
  have hown : s.vm.findClass R_ClusterTool = some m.cls := hown
  have hl : lv_has ls 3 [(0, .ref (gA_ad G 0)), (1, .ref (gA_ad G (18 + 4 * i)))] := hl
  have hP : va_P X.1 classes (cw X G A) s.heap := hP
  refine lv_aload_n hx hb d_T_limitOf_0 rfl (lv_at hl 0 rfl) ?_
  refine va_get (D := X.1) (ci := 0) (C := R_ClusterTool) (T := F_ClusterTool) (N := 8) hx hb hts hin_ClusterTool hown hK.1 hP 0 cw_0 rfl 0 (by decide) (hts _ (wd_1 85 rfl rfl)) (fun _ h9 => h9) rfl d_T_limitOf_1 ?_
  refine lv_aload_n hx hb d_T_limitOf_4 rfl (lv_at hl 1 rfl) ?_
  refine va_getN (D := X.1) (ci := 5) (C := R_Wafer) (T := F_Wafer) (N := 10) hx hb hts hin_Wafer hown hK.1 hP (18 + 4 * i) (cw_w hi) rfl 0 (by decide) (va_Nw.use rfl (hK.2.1 _ (List.mem_of_getElem? (i := 8) rfl))) (fun _ h9 => h9) rfl d_T_limitOf_5 ?_
  refine va_csq (W.runV (As := [.int (nI (sA_rt A i))]) (rest := []) ⟨hx, hb, hml, hown, hts⟩ (c_Y_routeOf l X G A (nI (sA_rt A i))) (cwV 1 hts (gV (wd_1 114 rfl rfl) (wd_1 115 rfl rfl) (wd_1 116 rfl rfl) (wd_1 2 rfl rfl) (wd_1 117 rfl rfl)) rfl rfl rfl ⟨rfl, hd_Y_routeOf⟩ ⟨Nat.le_of_ble_eq_true rfl, Nat.le_of_ble_eq_true rfl⟩) (vx_preV (P := PR X G A) hP hK (va_recv hK.1 hP (ci := 1) rfl cw_1)) rfl rfl hl.1 rfl (lv_room (Nat.le_of_ble_eq_true rfl)) d_T_limitOf_8 ⟨Nat.zero_le _, Nat.zero_le _⟩) (fun r8 e8 => ?_)
  cases q8 : f_Y_routeOf (nI (sA_rt A i)) with
  | none =>
    have e8 : r8 = none := by rw [e8, q8]; rfl
    subst e8
    refine lv_astore_nN (lv' := [(2, .null), (0, .ref (gA_ad G 0)), (1, .ref (gA_ad G (18 + 4 * i)))]) hx hb d_T_limitOf_11 rfl hl (by decide) rfl (fun ls hl => ?_)
    refine lv_aload_nN hx hb d_T_limitOf_12 rfl (lv_at hl 0 rfl) ?_
    refine lv_ifnonnullN hx hb d_T_limitOf_13 ?_
    refine lv_iconst (v := 0) hx hb d_T_limitOf_16 rfl ?_
    refine lv_goto (tgt := 30) hx hb d_T_limitOf_17 rfl ?_
    exact W.iret (v := 0) hx hb hrt (fun t ht hW => ⟨_, rfl, by rw [f_T_limitOf, oc_none q8], ht⟩) (fun q h => by cases h) d_T_limitOf_30
  | some i8 =>
    have e8 : r8 = some (gA_ad G (8 + 4 * i8)) := by rw [e8, q8]; rfl
    subst e8
    have hli8 := routeOf_lt q8
    refine lv_astore_n (lv' := [(2, .ref (gA_ad G (8 + 4 * i8))), (0, .ref (gA_ad G 0)), (1, .ref (gA_ad G (18 + 4 * i)))]) hx hb d_T_limitOf_11 rfl hl (by decide) rfl (fun ls hl => ?_)
    refine lv_aload_n hx hb d_T_limitOf_12 rfl (lv_at hl 0 rfl) ?_
    refine lv_ifnonnull (tgt := 20) hx hb d_T_limitOf_13 rfl ?_
    refine lv_aload_n hx hb d_T_limitOf_20 rfl (lv_at hl 0 rfl) ?_
    refine lv_aload_n hx hb d_T_limitOf_21 rfl (lv_at hl 2 rfl) ?_
    refine va_getN (D := X.1) (ci := 5) (C := R_Wafer) (T := F_Wafer) (N := 10) hx hb hts hin_Wafer hown hK.1 hP (18 + 4 * i) (cw_w hi) rfl 5 (by decide) (va_Nw.use rfl (hK.2.1 _ (List.mem_of_getElem? (i := 13) rfl))) (fun _ h9 => h9) rfl d_T_limitOf_22 ?_
    refine lv_iconst (v := 1) hx hb d_T_limitOf_25 rfl ?_
    refine lv_isub hx hb d_T_limitOf_26 ?_
    refine vp_callSi (W.runV (As := [.int ((nI (sA_sg A i)) - 1)]) (rest := []) ⟨hx, hb, hml, hown, hts⟩ (c_U_limitAt l X G A i8 hli8 ((nI (sA_sg A i)) - 1) hR) (cwV 1 hts (gV (wd_2 63 rfl rfl) (wd_2 64 rfl rfl) (wd_2 65 rfl rfl) (wd_1 3 rfl rfl) (wd_2 66 rfl rfl)) rfl rfl rfl ⟨rfl, hd_U_limitAt⟩ ⟨Nat.le_of_ble_eq_true rfl, Nat.le_of_ble_eq_true rfl⟩) (vx_preV (P := PR X G A) hP hK (va_recv hK.1 hP (ci := 4) rfl (cw_r hli8))) rfl rfl hl.1 rfl (lv_room (Nat.le_of_ble_eq_true rfl)) d_T_limitOf_27 ⟨Nat.zero_le _, Nat.zero_le _⟩) (fun r27 e27 => ?_)
    subst e27
    exact W.iret (v := f_U_limitAt A i8 ((nI (sA_sg A i)) - 1)) hx hb hrt (fun t ht hW => ⟨_, rfl, by rw [f_T_limitOf, oc_some q8], ht⟩) (fun q h => by cases h) d_T_limitOf_30
abbrev rm_T_isTaken : Room := { frames := 0, cells := 0, slots := 0, locals := 0 }
def f_T_isTaken (G : Gc) (A : St) (i : Nat) (q : Nat) : Bool :=
  if (nI q) = 5 then
    false
  else
    if (nI q) = (nI (sA_pl A i)) then
      false
    else
      if (gA_ins G q) = (-1) then
        false
      else
        true
set_option maxRecDepth 20000 in
set_option maxHeartbeats 4000000 in
theorem c_T_isTaken (l : Launch) (X : Xt) (G : Gc) (A : St) (i : Nat) (hi : i < sA_n A) (q : Nat) (hq : q < 6) : Met l y_T_isTaken (Cond.code y_T_isTaken b_T_isTaken 3 (some .boolean) :: WA) rm_T_isTaken (va_Pc [.ref (gA_ad G 0), .ref (gA_ad G (18 + 4 * i)), .int (nI q)] (fun U => PR X G A U.heap ∧ KK X U)) (vp_Si (fun ans => ans = b2i (f_T_isTaken G A i q))) 0 0 (fun _ => False) := by
  refine vx_met (cc := b_T_isTaken) (maxL := 3) (ret := (some .boolean)) (by decide) rfl (Nat.le_of_ble_eq_true rfl) ?_
  intro p e s m below meth c ls hx hb hrt hts hown hlocks hname hml hB hl
  obtain ⟨hP, hK⟩ := hB
  have hown : s.vm.findClass R_ClusterTool = some m.cls := hown
  have hl : lv_has ls 3 [(0, .ref (gA_ad G 0)), (1, .ref (gA_ad G (18 + 4 * i))), (2, .int (nI q))] := hl
  have hP : va_P X.1 classes (cw X G A) s.heap := hP
  refine lv_iload_n hx hb d_T_isTaken_0 rfl (lv_at hl 2 rfl) ?_
  refine lv_iconst (v := 5) hx hb d_T_isTaken_1 rfl ?_
  refine lv_icmp_eq (tgt := 27) hx hb d_T_isTaken_2 rfl (fun h2 => ?_) (fun h2 => ?_)
  ·
    refine lv_iconst (v := 0) hx hb d_T_isTaken_27 rfl ?_
    exact W.zret (v := b2i false) hx hb hrt (b2i_nar _) (fun t ht hW => ⟨_, rfl, by rw [f_T_isTaken, if_pos h2], ht⟩) (fun q h => by cases h) d_T_isTaken_28
  ·
    refine lv_iload_n hx hb d_T_isTaken_5 rfl (lv_at hl 2 rfl) ?_
    refine lv_aload_n hx hb d_T_isTaken_6 rfl (lv_at hl 1 rfl) ?_
    refine va_getN (D := X.1) (ci := 5) (C := R_Wafer) (T := F_Wafer) (N := 10) hx hb hts hin_Wafer hown hK.1 hP (18 + 4 * i) (cw_w hi) rfl 4 (by decide) (va_Nw.use rfl (hK.2.1 _ (List.mem_of_getElem? (i := 12) rfl))) (fun _ h9 => h9) rfl d_T_isTaken_7 ?_
    refine lv_icmp_eq (tgt := 27) hx hb d_T_isTaken_10 rfl (fun h10 => ?_) (fun h10 => ?_)
    ·
      refine lv_iconst (v := 0) hx hb d_T_isTaken_27 rfl ?_
      exact W.zret (v := b2i false) hx hb hrt (b2i_nar _) (fun t ht hW => ⟨_, rfl, by rw [f_T_isTaken, if_neg h2, if_pos h10], ht⟩) (fun q h => by cases h) d_T_isTaken_28
    ·
      refine lv_aload_n hx hb d_T_isTaken_13 rfl (lv_at hl 0 rfl) ?_
      refine va_get (D := X.1) (ci := 0) (C := R_ClusterTool) (T := F_ClusterTool) (N := 8) hx hb hts hin_ClusterTool hown hK.1 hP 0 cw_0 rfl 5 (by decide) (hts _ (wd_1 90 rfl rfl)) (fun _ h9 => h9) rfl d_T_isTaken_14 ?_
      refine lv_iload_n hx hb d_T_isTaken_17 rfl (lv_at hl 2 rfl) ?_
      refine va_iald hx hb hK.1 hP 6 0 cw_6 rfl (vp_in_nI (ne5 hq h2) (by omega)) d_T_isTaken_18 ?_
      rw [nI_clamp (n := q) (by omega)]
      refine lv_iconst (v := (-1)) hx hb d_T_isTaken_19 rfl ?_
      refine lv_icmp_eq (tgt := 27) hx hb d_T_isTaken_20 rfl (fun h20 => ?_) (fun h20 => ?_)
      ·
        refine lv_iconst (v := 0) hx hb d_T_isTaken_27 rfl ?_
        exact W.zret (v := b2i false) hx hb hrt (b2i_nar _) (fun t ht hW => ⟨_, rfl, by rw [f_T_isTaken, if_neg h2, if_neg h10, if_pos h20], ht⟩) (fun q h => by cases h) d_T_isTaken_28
      ·
        refine lv_iconst (v := 1) hx hb d_T_isTaken_23 rfl ?_
        refine lv_goto (tgt := 28) hx hb d_T_isTaken_24 rfl ?_
        exact W.zret (v := b2i true) hx hb hrt (b2i_nar _) (fun t ht hW => ⟨_, rfl, by rw [f_T_isTaken, if_neg h2, if_neg h10, if_neg h20], ht⟩) (fun q h => by cases h) d_T_isTaken_28
abbrev rm_T_robotFor : Room := { frames := 1, cells := 0, slots := 0, locals := 20 }
def f_T_robotFor (x : Int32) (y : Int32) : Option Nat :=
  if (f_Y_isBack x) then
    some 4
  else
    if (f_Y_isBack y) then
      some 4
    else
      some 3
set_option maxRecDepth 20000 in
set_option maxHeartbeats 4000000 in
theorem c_T_robotFor (l : Launch) (X : Xt) (G : Gc) (A : St) (x : Int32) (y : Int32) : Met l y_T_robotFor (Cond.code y_T_robotFor b_T_robotFor 3 (some (.object "ClusterTool$Robot")) :: WA) rm_T_robotFor (va_Pc [.ref (gA_ad G 0), .int x, .int y] (fun U => PR X G A U.heap ∧ KK X U)) (va_Sq (fun ans => ans = (f_T_robotFor x y).map (fun j => gA_ad G (j)))) 0 0 (fun _ => False) := by
  refine vx_met (cc := b_T_robotFor) (maxL := 3) (ret := (some (.object "ClusterTool$Robot"))) (by decide) rfl (Nat.le_of_ble_eq_true rfl) ?_
  intro p e s m below meth c ls hx hb hrt hts hown hlocks hname hml hB hl
  obtain ⟨hP, hK⟩ := hB
  have hown : s.vm.findClass R_ClusterTool = some m.cls := hown
  have hl : lv_has ls 3 [(0, .ref (gA_ad G 0)), (1, .int x), (2, .int y)] := hl
  have hP : va_P X.1 classes (cw X G A) s.heap := hP
  refine lv_iload_n hx hb d_T_robotFor_0 rfl (lv_at hl 1 rfl) ?_
  refine vp_callSi (W.runS (As := [.int x]) (rest := []) ⟨hx, hb, hml, hown, hts⟩ (c_Y_isBack l X x) (va_cwS 1 hts (gT (wd_2 21 rfl rfl) (wd_1 208 rfl rfl) (wd_1 2 rfl rfl) (wd_1 209 rfl rfl)) rfl rfl rfl hd_Y_isBack ⟨Nat.le_of_ble_eq_true rfl, Nat.le_of_ble_eq_true rfl⟩) (vx_preS (P := fun _ => True) trivial hK) rfl rfl hl.1 rfl (lv_room (Nat.le_of_ble_eq_true rfl)) d_T_robotFor_1 ⟨Nat.zero_le _, Nat.zero_le _⟩) (fun r1 e1 => ?_)
  subst e1
  refine lv_if_ne (tgt := 14) hx hb d_T_robotFor_4 rfl (fun h4 => ?_) (fun h4 => ?_)
  ·
    have h4 := b2i_t h4
    refine lv_aload_n hx hb d_T_robotFor_14 rfl (lv_at hl 0 rfl) ?_
    refine va_get (D := X.1) (ci := 0) (C := R_ClusterTool) (T := F_ClusterTool) (N := 8) hx hb hts hin_ClusterTool hown hK.1 hP 0 cw_0 rfl 3 (by decide) (hts _ (wd_1 88 rfl rfl)) (fun _ h9 => h9) rfl d_T_robotFor_15 ?_
    refine lv_goto (tgt := 25) hx hb d_T_robotFor_18 rfl ?_
    exact W.aret (v := va_rf (some (gA_ad G 4))) hx hb hrt (Or.inl ⟨_, rfl⟩) (Or.inr ⟨_, rfl⟩) (fun t ht hW => ⟨_, rfl, by rw [f_T_robotFor, if_pos h4]; rfl, ht⟩) (fun q h => by cases h) d_T_robotFor_25
  ·
    have h4 := b2i_f h4
    refine lv_iload_n hx hb d_T_robotFor_7 rfl (lv_at hl 2 rfl) ?_
    refine vp_callSi (W.runS (As := [.int y]) (rest := []) ⟨hx, hb, hml, hown, hts⟩ (c_Y_isBack l X y) (va_cwS 1 hts (gT (wd_2 21 rfl rfl) (wd_1 208 rfl rfl) (wd_1 2 rfl rfl) (wd_1 209 rfl rfl)) rfl rfl rfl hd_Y_isBack ⟨Nat.le_of_ble_eq_true rfl, Nat.le_of_ble_eq_true rfl⟩) (vx_preS (P := fun _ => True) trivial hK) rfl rfl hl.1 rfl (lv_room (Nat.le_of_ble_eq_true rfl)) d_T_robotFor_8 ⟨Nat.zero_le _, Nat.zero_le _⟩) (fun r8 e8 => ?_)
    subst e8
    refine lv_if_eq (tgt := 21) hx hb d_T_robotFor_11 rfl (fun h11 => ?_) (fun h11 => ?_)
    ·
      have h11 := b2i_f h11
      refine lv_aload_n hx hb d_T_robotFor_21 rfl (lv_at hl 0 rfl) ?_
      refine va_get (D := X.1) (ci := 0) (C := R_ClusterTool) (T := F_ClusterTool) (N := 8) hx hb hts hin_ClusterTool hown hK.1 hP 0 cw_0 rfl 2 (by decide) (hts _ (wd_1 87 rfl rfl)) (fun _ h9 => h9) rfl d_T_robotFor_22 ?_
      exact W.aret (v := va_rf (some (gA_ad G 3))) hx hb hrt (Or.inl ⟨_, rfl⟩) (Or.inr ⟨_, rfl⟩) (fun t ht hW => ⟨_, rfl, by rw [f_T_robotFor, if_neg (nt_of h4), if_neg (nt_of h11)]; rfl, ht⟩) (fun q h => by cases h) d_T_robotFor_25
    ·
      have h11 := b2i_t h11
      refine lv_aload_n hx hb d_T_robotFor_14 rfl (lv_at hl 0 rfl) ?_
      refine va_get (D := X.1) (ci := 0) (C := R_ClusterTool) (T := F_ClusterTool) (N := 8) hx hb hts hin_ClusterTool hown hK.1 hP 0 cw_0 rfl 3 (by decide) (hts _ (wd_1 88 rfl rfl)) (fun _ h9 => h9) rfl d_T_robotFor_15 ?_
      refine lv_goto (tgt := 25) hx hb d_T_robotFor_18 rfl ?_
      exact W.aret (v := va_rf (some (gA_ad G 4))) hx hb hrt (Or.inl ⟨_, rfl⟩) (Or.inr ⟨_, rfl⟩) (fun t ht hW => ⟨_, rfl, by rw [f_T_robotFor, if_neg (nt_of h4), if_pos h11]; rfl, ht⟩) (fun q h => by cases h) d_T_robotFor_25
abbrev rm_T_place : Room := { frames := 2, cells := 0, slots := 0, locals := 43 }
def f_T_place (A : St) (x : Int32) : Int32 :=
  oc (f_T_waferOf A x)
    ((-1))
    (fun i2 =>
      nI (sA_pl A i2))
set_option maxRecDepth 20000 in
set_option maxHeartbeats 4000000 in
theorem c_T_place (l : Launch) (X : Xt) (G : Gc) (A : St) (x : Int32) (hI : Inv A) : Met l y_T_place (Cond.code y_T_place b_T_place 3 (some .int) :: WA) rm_T_place (va_Pc [.ref (gA_ad G 0), .int x] (fun U => PR X G A U.heap ∧ KK X U)) (vp_Si (fun ans => ans = f_T_place A x)) 0 0 (fun _ => False) := by
  refine vx_met (cc := b_T_place) (maxL := 3) (ret := (some .int)) (by decide) rfl (Nat.le_of_ble_eq_true rfl) ?_
  intro p e s m below meth c ls hx hb hrt hts hown hlocks hname hml hB hl
  obtain ⟨hP, hK⟩ := hB
  have hown : s.vm.findClass R_ClusterTool = some m.cls := hown
  have hl : lv_has ls 3 [(0, .ref (gA_ad G 0)), (1, .int x)] := hl
  have hP : va_P X.1 classes (cw X G A) s.heap := hP
  have hn := hI.1
  have hR := hI.2.1
  refine lv_aload_n hx hb d_T_place_0 rfl (lv_at hl 0 rfl) ?_
  refine lv_iload_n hx hb d_T_place_1 rfl (lv_at hl 1 rfl) ?_
  refine va_csq (W.runV (As := [.int x]) (rest := []) ⟨hx, hb, hml, hown, hts⟩ (c_T_waferOf l X G A x hn) (cwV 1 hts (gV (wd_1 180 rfl rfl) (wd_1 182 rfl rfl) (wd_s 0 rfl) (wd_1 1 rfl rfl) (wd_1 183 rfl rfl)) rfl rfl rfl ⟨rfl, hd_T_waferOf⟩ ⟨Nat.le_of_ble_eq_true rfl, Nat.le_of_ble_eq_true rfl⟩) (vx_preV (P := PR X G A) hP hK (va_recv hK.1 hP (ci := 0) rfl cw_0)) rfl rfl hl.1 rfl (lv_room (Nat.le_of_ble_eq_true rfl)) d_T_place_2 ⟨Nat.zero_le _, Nat.zero_le _⟩) (fun r2 e2 => ?_)
  cases q2 : f_T_waferOf A x with
  | none =>
    have e2 : r2 = none := by rw [e2, q2]; rfl
    subst e2
    refine lv_astore_nN (lv' := [(2, .null), (0, .ref (gA_ad G 0)), (1, .int x)]) hx hb d_T_place_5 rfl hl (by decide) rfl (fun ls hl => ?_)
    refine lv_aload_nN hx hb d_T_place_6 rfl (lv_at hl 0 rfl) ?_
    refine lv_ifnonnullN hx hb d_T_place_7 ?_
    refine lv_iconst (v := (-1)) hx hb d_T_place_10 rfl ?_
    refine lv_goto (tgt := 18) hx hb d_T_place_11 rfl ?_
    exact W.iret (v := (-1)) hx hb hrt (fun t ht hW => ⟨_, rfl, by rw [f_T_place, oc_none q2], ht⟩) (fun q h => by cases h) d_T_place_18
  | some i2 =>
    have e2 : r2 = some (gA_ad G (18 + 4 * i2)) := by rw [e2, q2]; rfl
    subst e2
    have hli2 := waferOf_lt hn q2
    refine lv_astore_n (lv' := [(2, .ref (gA_ad G (18 + 4 * i2))), (0, .ref (gA_ad G 0)), (1, .int x)]) hx hb d_T_place_5 rfl hl (by decide) rfl (fun ls hl => ?_)
    refine lv_aload_n hx hb d_T_place_6 rfl (lv_at hl 0 rfl) ?_
    refine lv_ifnonnull (tgt := 14) hx hb d_T_place_7 rfl ?_
    refine lv_aload_n hx hb d_T_place_14 rfl (lv_at hl 0 rfl) ?_
    refine va_getN (D := X.1) (ci := 5) (C := R_Wafer) (T := F_Wafer) (N := 10) hx hb hts hin_Wafer hown hK.1 hP (18 + 4 * i2) (cw_w hli2) rfl 4 (by decide) (va_Nw.use rfl (hK.2.1 _ (List.mem_of_getElem? (i := 12) rfl))) (fun _ h9 => h9) rfl d_T_place_15 ?_
    exact W.iret (v := nI (sA_pl A i2)) hx hb hrt (fun t ht hW => ⟨_, rfl, by rw [f_T_place, oc_some q2], ht⟩) (fun q h => by cases h) d_T_place_18
abbrev rm_T_stage : Room := { frames := 2, cells := 0, slots := 0, locals := 43 }
def f_T_stage (A : St) (x : Int32) : Int32 :=
  oc (f_T_waferOf A x)
    ((-1))
    (fun i2 =>
      nI (sA_sg A i2))
set_option maxRecDepth 20000 in
set_option maxHeartbeats 4000000 in
theorem c_T_stage (l : Launch) (X : Xt) (G : Gc) (A : St) (x : Int32) (hI : Inv A) : Met l y_T_stage (Cond.code y_T_stage b_T_stage 3 (some .int) :: WA) rm_T_stage (va_Pc [.ref (gA_ad G 0), .int x] (fun U => PR X G A U.heap ∧ KK X U)) (vp_Si (fun ans => ans = f_T_stage A x)) 0 0 (fun _ => False) := by
  refine vx_met (cc := b_T_stage) (maxL := 3) (ret := (some .int)) (by decide) rfl (Nat.le_of_ble_eq_true rfl) ?_
  intro p e s m below meth c ls hx hb hrt hts hown hlocks hname hml hB hl
  obtain ⟨hP, hK⟩ := hB
  have hown : s.vm.findClass R_ClusterTool = some m.cls := hown
  have hl : lv_has ls 3 [(0, .ref (gA_ad G 0)), (1, .int x)] := hl
  have hP : va_P X.1 classes (cw X G A) s.heap := hP
  have hn := hI.1
  have hR := hI.2.1
  refine lv_aload_n hx hb d_T_stage_0 rfl (lv_at hl 0 rfl) ?_
  refine lv_iload_n hx hb d_T_stage_1 rfl (lv_at hl 1 rfl) ?_
  refine va_csq (W.runV (As := [.int x]) (rest := []) ⟨hx, hb, hml, hown, hts⟩ (c_T_waferOf l X G A x hn) (cwV 1 hts (gV (wd_1 180 rfl rfl) (wd_1 182 rfl rfl) (wd_s 0 rfl) (wd_1 1 rfl rfl) (wd_1 183 rfl rfl)) rfl rfl rfl ⟨rfl, hd_T_waferOf⟩ ⟨Nat.le_of_ble_eq_true rfl, Nat.le_of_ble_eq_true rfl⟩) (vx_preV (P := PR X G A) hP hK (va_recv hK.1 hP (ci := 0) rfl cw_0)) rfl rfl hl.1 rfl (lv_room (Nat.le_of_ble_eq_true rfl)) d_T_stage_2 ⟨Nat.zero_le _, Nat.zero_le _⟩) (fun r2 e2 => ?_)
  cases q2 : f_T_waferOf A x with
  | none =>
    have e2 : r2 = none := by rw [e2, q2]; rfl
    subst e2
    refine lv_astore_nN (lv' := [(2, .null), (0, .ref (gA_ad G 0)), (1, .int x)]) hx hb d_T_stage_5 rfl hl (by decide) rfl (fun ls hl => ?_)
    refine lv_aload_nN hx hb d_T_stage_6 rfl (lv_at hl 0 rfl) ?_
    refine lv_ifnonnullN hx hb d_T_stage_7 ?_
    refine lv_iconst (v := (-1)) hx hb d_T_stage_10 rfl ?_
    refine lv_goto (tgt := 18) hx hb d_T_stage_11 rfl ?_
    exact W.iret (v := (-1)) hx hb hrt (fun t ht hW => ⟨_, rfl, by rw [f_T_stage, oc_none q2], ht⟩) (fun q h => by cases h) d_T_stage_18
  | some i2 =>
    have e2 : r2 = some (gA_ad G (18 + 4 * i2)) := by rw [e2, q2]; rfl
    subst e2
    have hli2 := waferOf_lt hn q2
    refine lv_astore_n (lv' := [(2, .ref (gA_ad G (18 + 4 * i2))), (0, .ref (gA_ad G 0)), (1, .int x)]) hx hb d_T_stage_5 rfl hl (by decide) rfl (fun ls hl => ?_)
    refine lv_aload_n hx hb d_T_stage_6 rfl (lv_at hl 0 rfl) ?_
    refine lv_ifnonnull (tgt := 14) hx hb d_T_stage_7 rfl ?_
    refine lv_aload_n hx hb d_T_stage_14 rfl (lv_at hl 0 rfl) ?_
    refine va_getN (D := X.1) (ci := 5) (C := R_Wafer) (T := F_Wafer) (N := 10) hx hb hts hin_Wafer hown hK.1 hP (18 + 4 * i2) (cw_w hli2) rfl 5 (by decide) (va_Nw.use rfl (hK.2.1 _ (List.mem_of_getElem? (i := 13) rfl))) (fun _ h9 => h9) rfl d_T_stage_15 ?_
    exact W.iret (v := nI (sA_sg A i2)) hx hb hrt (fun t ht hW => ⟨_, rfl, by rw [f_T_stage, oc_some q2], ht⟩) (fun q h => by cases h) d_T_stage_18
abbrev rm_T_left : Room := { frames := 2, cells := 0, slots := 0, locals := 43 }
def f_T_left (A : St) (x : Int32) : Int32 :=
  oc (f_T_waferOf A x)
    ((-1))
    (fun i2 =>
      nI (sA_lf A i2))
set_option maxRecDepth 20000 in
set_option maxHeartbeats 4000000 in
theorem c_T_left (l : Launch) (X : Xt) (G : Gc) (A : St) (x : Int32) (hI : Inv A) : Met l y_T_left (Cond.code y_T_left b_T_left 3 (some .int) :: WA) rm_T_left (va_Pc [.ref (gA_ad G 0), .int x] (fun U => PR X G A U.heap ∧ KK X U)) (vp_Si (fun ans => ans = f_T_left A x)) 0 0 (fun _ => False) := by
  refine vx_met (cc := b_T_left) (maxL := 3) (ret := (some .int)) (by decide) rfl (Nat.le_of_ble_eq_true rfl) ?_
  intro p e s m below meth c ls hx hb hrt hts hown hlocks hname hml hB hl
  obtain ⟨hP, hK⟩ := hB
  have hown : s.vm.findClass R_ClusterTool = some m.cls := hown
  have hl : lv_has ls 3 [(0, .ref (gA_ad G 0)), (1, .int x)] := hl
  have hP : va_P X.1 classes (cw X G A) s.heap := hP
  have hn := hI.1
  have hR := hI.2.1
  refine lv_aload_n hx hb d_T_left_0 rfl (lv_at hl 0 rfl) ?_
  refine lv_iload_n hx hb d_T_left_1 rfl (lv_at hl 1 rfl) ?_
  refine va_csq (W.runV (As := [.int x]) (rest := []) ⟨hx, hb, hml, hown, hts⟩ (c_T_waferOf l X G A x hn) (cwV 1 hts (gV (wd_1 180 rfl rfl) (wd_1 182 rfl rfl) (wd_s 0 rfl) (wd_1 1 rfl rfl) (wd_1 183 rfl rfl)) rfl rfl rfl ⟨rfl, hd_T_waferOf⟩ ⟨Nat.le_of_ble_eq_true rfl, Nat.le_of_ble_eq_true rfl⟩) (vx_preV (P := PR X G A) hP hK (va_recv hK.1 hP (ci := 0) rfl cw_0)) rfl rfl hl.1 rfl (lv_room (Nat.le_of_ble_eq_true rfl)) d_T_left_2 ⟨Nat.zero_le _, Nat.zero_le _⟩) (fun r2 e2 => ?_)
  cases q2 : f_T_waferOf A x with
  | none =>
    have e2 : r2 = none := by rw [e2, q2]; rfl
    subst e2
    refine lv_astore_nN (lv' := [(2, .null), (0, .ref (gA_ad G 0)), (1, .int x)]) hx hb d_T_left_5 rfl hl (by decide) rfl (fun ls hl => ?_)
    refine lv_aload_nN hx hb d_T_left_6 rfl (lv_at hl 0 rfl) ?_
    refine lv_ifnonnullN hx hb d_T_left_7 ?_
    refine lv_iconst (v := (-1)) hx hb d_T_left_10 rfl ?_
    refine lv_goto (tgt := 18) hx hb d_T_left_11 rfl ?_
    exact W.iret (v := (-1)) hx hb hrt (fun t ht hW => ⟨_, rfl, by rw [f_T_left, oc_none q2], ht⟩) (fun q h => by cases h) d_T_left_18
  | some i2 =>
    have e2 : r2 = some (gA_ad G (18 + 4 * i2)) := by rw [e2, q2]; rfl
    subst e2
    have hli2 := waferOf_lt hn q2
    refine lv_astore_n (lv' := [(2, .ref (gA_ad G (18 + 4 * i2))), (0, .ref (gA_ad G 0)), (1, .int x)]) hx hb d_T_left_5 rfl hl (by decide) rfl (fun ls hl => ?_)
    refine lv_aload_n hx hb d_T_left_6 rfl (lv_at hl 0 rfl) ?_
    refine lv_ifnonnull (tgt := 14) hx hb d_T_left_7 rfl ?_
    refine lv_aload_n hx hb d_T_left_14 rfl (lv_at hl 0 rfl) ?_
    refine va_getN (D := X.1) (ci := 5) (C := R_Wafer) (T := F_Wafer) (N := 10) hx hb hts hin_Wafer hown hK.1 hP (18 + 4 * i2) (cw_w hli2) rfl 6 (by decide) (va_Nw.use rfl (hK.2.1 _ (List.mem_of_getElem? (i := 14) rfl))) (fun _ h9 => h9) rfl d_T_left_15 ?_
    exact W.iret (v := nI (sA_lf A i2)) hx hb hrt (fun t ht hW => ⟨_, rfl, by rw [f_T_left, oc_some q2], ht⟩) (fun q h => by cases h) d_T_left_18
abbrev rm_T_visited : Room := { frames := 2, cells := 0, slots := 0, locals := 43 }
def f_T_visited (A : St) (x : Int32) (y : Int32) : Int32 :=
  oc (f_T_waferOf A x)
    ((-1))
    (fun i2 =>
      if (f_W_hasBegun A i2 y) then
        sA_ch A i2 y.toNatClampNeg
      else
        (-1))
set_option maxRecDepth 20000 in
set_option maxHeartbeats 4000000 in
theorem c_T_visited (l : Launch) (X : Xt) (G : Gc) (A : St) (x : Int32) (y : Int32) (hI : Inv A) : Met l y_T_visited (Cond.code y_T_visited b_T_visited 4 (some .int) :: WA) rm_T_visited (va_Pc [.ref (gA_ad G 0), .int x, .int y] (fun U => PR X G A U.heap ∧ KK X U)) (vp_Si (fun ans => ans = f_T_visited A x y)) 0 0 (fun _ => False) := by
  refine vx_met (cc := b_T_visited) (maxL := 4) (ret := (some .int)) (by decide) rfl (Nat.le_of_ble_eq_true rfl) ?_
  intro p e s m below meth c ls hx hb hrt hts hown hlocks hname hml hB hl
  obtain ⟨hP, hK⟩ := hB
  have hown : s.vm.findClass R_ClusterTool = some m.cls := hown
  have hl : lv_has ls 4 [(0, .ref (gA_ad G 0)), (1, .int x), (2, .int y)] := hl
  have hP : va_P X.1 classes (cw X G A) s.heap := hP
  have hn := hI.1
  have hR := hI.2.1
  refine lv_aload_n hx hb d_T_visited_0 rfl (lv_at hl 0 rfl) ?_
  refine lv_iload_n hx hb d_T_visited_1 rfl (lv_at hl 1 rfl) ?_
  refine va_csq (W.runV (As := [.int x]) (rest := []) ⟨hx, hb, hml, hown, hts⟩ (c_T_waferOf l X G A x hn) (cwV 1 hts (gV (wd_1 180 rfl rfl) (wd_1 182 rfl rfl) (wd_s 0 rfl) (wd_1 1 rfl rfl) (wd_1 183 rfl rfl)) rfl rfl rfl ⟨rfl, hd_T_waferOf⟩ ⟨Nat.le_of_ble_eq_true rfl, Nat.le_of_ble_eq_true rfl⟩) (vx_preV (P := PR X G A) hP hK (va_recv hK.1 hP (ci := 0) rfl cw_0)) rfl rfl hl.1 rfl (lv_room (Nat.le_of_ble_eq_true rfl)) d_T_visited_2 ⟨Nat.zero_le _, Nat.zero_le _⟩) (fun r2 e2 => ?_)
  cases q2 : f_T_waferOf A x with
  | none =>
    have e2 : r2 = none := by rw [e2, q2]; rfl
    subst e2
    refine lv_astore_nN (lv' := [(3, .null), (0, .ref (gA_ad G 0)), (1, .int x), (2, .int y)]) hx hb d_T_visited_5 rfl hl (by decide) rfl (fun ls hl => ?_)
    refine lv_aload_nN hx hb d_T_visited_6 rfl (lv_at hl 0 rfl) ?_
    refine lv_ifnullN (tgt := 18) hx hb d_T_visited_7 rfl ?_
    refine lv_iconst (v := (-1)) hx hb d_T_visited_18 rfl ?_
    refine lv_goto (tgt := 28) hx hb d_T_visited_19 rfl ?_
    exact W.iret (v := (-1)) hx hb hrt (fun t ht hW => ⟨_, rfl, by rw [f_T_visited, oc_none q2], ht⟩) (fun q h => by cases h) d_T_visited_28
  | some i2 =>
    have e2 : r2 = some (gA_ad G (18 + 4 * i2)) := by rw [e2, q2]; rfl
    subst e2
    have hli2 := waferOf_lt hn q2
    refine lv_astore_n (lv' := [(3, .ref (gA_ad G (18 + 4 * i2))), (0, .ref (gA_ad G 0)), (1, .int x), (2, .int y)]) hx hb d_T_visited_5 rfl hl (by decide) rfl (fun ls hl => ?_)
    refine lv_aload_n hx hb d_T_visited_6 rfl (lv_at hl 0 rfl) ?_
    refine lv_ifnull hx hb d_T_visited_7 ?_
    refine lv_aload_n hx hb d_T_visited_10 rfl (lv_at hl 0 rfl) ?_
    refine lv_iload_n hx hb d_T_visited_11 rfl (lv_at hl 3 rfl) ?_
    refine vp_callSi (W.runV (As := [.int y]) (rest := []) ⟨hx, hb, hml, hown, hts⟩ (c_W_hasBegun l X G A i2 hli2 y) (cwV 1 hts (gV (wd_2 122 rfl rfl) (wd_2 123 rfl rfl) (wd_2 124 rfl rfl) (wd_1 7 rfl rfl) (wd_2 125 rfl rfl)) rfl rfl rfl ⟨rfl, hd_W_hasBegun⟩ ⟨Nat.le_of_ble_eq_true rfl, Nat.le_of_ble_eq_true rfl⟩) (vx_preV (P := PR X G A) hP hK (va_recv hK.1 hP (ci := 5) rfl (cw_w hli2))) rfl rfl hl.1 rfl (lv_room (Nat.le_of_ble_eq_true rfl)) d_T_visited_12 ⟨Nat.zero_le _, Nat.zero_le _⟩) (fun r12 e12 => ?_)
    subst e12
    refine lv_if_ne (tgt := 22) hx hb d_T_visited_15 rfl (fun h15 => ?_) (fun h15 => ?_)
    ·
      have h15 := b2i_t h15
      refine lv_aload_n hx hb d_T_visited_22 rfl (lv_at hl 0 rfl) ?_
      refine va_getN (D := X.1) (ci := 5) (C := R_Wafer) (T := F_Wafer) (N := 10) hx hb hts hin_Wafer hown hK.1 hP (18 + 4 * i2) (cw_w hli2) rfl 1 (by decide) (va_Nw.use rfl (hK.2.1 _ (List.mem_of_getElem? (i := 9) rfl))) (fun _ h9 => h9) rfl d_T_visited_23 ?_
      refine lv_iload_n hx hb d_T_visited_26 rfl (lv_at hl 3 rfl) ?_
      refine va_iald hx hb hK.1 hP (18 + 4 * i2 + 1) 0 (cw_wc hli2) rfl (begun_in hI hli2 h15) d_T_visited_27 ?_
      exact W.iret (v := sA_ch A i2 y.toNatClampNeg) hx hb hrt (fun t ht hW => ⟨_, rfl, by rw [f_T_visited, oc_some q2, if_pos h15], ht⟩) (fun q h => by cases h) d_T_visited_28
    ·
      have h15 := b2i_f h15
      refine lv_iconst (v := (-1)) hx hb d_T_visited_18 rfl ?_
      refine lv_goto (tgt := 28) hx hb d_T_visited_19 rfl ?_
      exact W.iret (v := (-1)) hx hb hrt (fun t ht hW => ⟨_, rfl, by rw [f_T_visited, oc_some q2, if_neg (nt_of h15)], ht⟩) (fun q h => by cases h) d_T_visited_28
abbrev rm_T_when : Room := { frames := 2, cells := 0, slots := 0, locals := 43 }
def f_T_when (A : St) (x : Int32) (y : Int32) (z : Int32) : Int32 :=
  oc (f_T_waferOf A x)
    ((-1))
    (fun i2 =>
      if (f_W_hasBegun A i2 y) then
        if z = 0 then
          sA_be A i2 y.toNatClampNeg
        else
          sA_en A i2 y.toNatClampNeg
      else
        (-1))
set_option maxRecDepth 20000 in
set_option maxHeartbeats 4000000 in
theorem c_T_when (l : Launch) (X : Xt) (G : Gc) (A : St) (x : Int32) (y : Int32) (z : Int32) (hI : Inv A) : Met l y_T_when (Cond.code y_T_when b_T_when 5 (some .int) :: WA) rm_T_when (va_Pc [.ref (gA_ad G 0), .int x, .int y, .int z] (fun U => PR X G A U.heap ∧ KK X U)) (vp_Si (fun ans => ans = f_T_when A x y z)) 0 0 (fun _ => False) := by
  refine vx_met (cc := b_T_when) (maxL := 5) (ret := (some .int)) (by decide) rfl (Nat.le_of_ble_eq_true rfl) ?_
  intro p e s m below meth c ls hx hb hrt hts hown hlocks hname hml hB hl
  obtain ⟨hP, hK⟩ := hB
  have hown : s.vm.findClass R_ClusterTool = some m.cls := hown
  have hl : lv_has ls 5 [(0, .ref (gA_ad G 0)), (1, .int x), (2, .int y), (3, .int z)] := hl
  have hP : va_P X.1 classes (cw X G A) s.heap := hP
  have hn := hI.1
  have hR := hI.2.1
  refine lv_aload_n hx hb d_T_when_0 rfl (lv_at hl 0 rfl) ?_
  refine lv_iload_n hx hb d_T_when_1 rfl (lv_at hl 1 rfl) ?_
  refine va_csq (W.runV (As := [.int x]) (rest := []) ⟨hx, hb, hml, hown, hts⟩ (c_T_waferOf l X G A x hn) (cwV 1 hts (gV (wd_1 180 rfl rfl) (wd_1 182 rfl rfl) (wd_s 0 rfl) (wd_1 1 rfl rfl) (wd_1 183 rfl rfl)) rfl rfl rfl ⟨rfl, hd_T_waferOf⟩ ⟨Nat.le_of_ble_eq_true rfl, Nat.le_of_ble_eq_true rfl⟩) (vx_preV (P := PR X G A) hP hK (va_recv hK.1 hP (ci := 0) rfl cw_0)) rfl rfl hl.1 rfl (lv_room (Nat.le_of_ble_eq_true rfl)) d_T_when_2 ⟨Nat.zero_le _, Nat.zero_le _⟩) (fun r2 e2 => ?_)
  cases q2 : f_T_waferOf A x with
  | none =>
    have e2 : r2 = none := by rw [e2, q2]; rfl
    subst e2
    refine lv_astoreN (lv' := [(4, .null), (0, .ref (gA_ad G 0)), (1, .int x), (2, .int y), (3, .int z)]) hx hb d_T_when_5 hl (by decide) rfl (fun ls hl => ?_)
    refine lv_aloadN hx hb d_T_when_7 (lv_at hl 0 rfl) ?_
    refine lv_ifnullN (tgt := 21) hx hb d_T_when_9 rfl ?_
    refine lv_iconst (v := (-1)) hx hb d_T_when_21 rfl ?_
    exact W.iret (v := (-1)) hx hb hrt (fun t ht hW => ⟨_, rfl, by rw [f_T_when, oc_none q2], ht⟩) (fun q h => by cases h) d_T_when_22
  | some i2 =>
    have e2 : r2 = some (gA_ad G (18 + 4 * i2)) := by rw [e2, q2]; rfl
    subst e2
    have hli2 := waferOf_lt hn q2
    refine lv_astore (lv' := [(4, .ref (gA_ad G (18 + 4 * i2))), (0, .ref (gA_ad G 0)), (1, .int x), (2, .int y), (3, .int z)]) hx hb d_T_when_5 hl (by decide) rfl (fun ls hl => ?_)
    refine lv_aload hx hb d_T_when_7 (lv_at hl 0 rfl) ?_
    refine lv_ifnull hx hb d_T_when_9 ?_
    refine lv_aload hx hb d_T_when_12 (lv_at hl 0 rfl) ?_
    refine lv_iload_n hx hb d_T_when_14 rfl (lv_at hl 3 rfl) ?_
    refine vp_callSi (W.runV (As := [.int y]) (rest := []) ⟨hx, hb, hml, hown, hts⟩ (c_W_hasBegun l X G A i2 hli2 y) (cwV 1 hts (gV (wd_2 122 rfl rfl) (wd_2 123 rfl rfl) (wd_2 124 rfl rfl) (wd_1 7 rfl rfl) (wd_2 125 rfl rfl)) rfl rfl rfl ⟨rfl, hd_W_hasBegun⟩ ⟨Nat.le_of_ble_eq_true rfl, Nat.le_of_ble_eq_true rfl⟩) (vx_preV (P := PR X G A) hP hK (va_recv hK.1 hP (ci := 5) rfl (cw_w hli2))) rfl rfl hl.1 rfl (lv_room (Nat.le_of_ble_eq_true rfl)) d_T_when_15 ⟨Nat.zero_le _, Nat.zero_le _⟩) (fun r15 e15 => ?_)
    subst e15
    refine lv_if_ne (tgt := 23) hx hb d_T_when_18 rfl (fun h18 => ?_) (fun h18 => ?_)
    ·
      have h18 := b2i_t h18
      refine lv_iload_n hx hb d_T_when_23 rfl (lv_at hl 4 rfl) ?_
      refine lv_if_eq (tgt := 37) hx hb d_T_when_24 rfl (fun h24 => ?_) (fun h24 => ?_)
      ·
        refine lv_aload hx hb d_T_when_37 (lv_at hl 0 rfl) ?_
        refine va_getN (D := X.1) (ci := 5) (C := R_Wafer) (T := F_Wafer) (N := 10) hx hb hts hin_Wafer hown hK.1 hP (18 + 4 * i2) (cw_w hli2) rfl 2 (by decide) (va_Nw.use rfl (hK.2.1 _ (List.mem_of_getElem? (i := 10) rfl))) (fun _ h9 => h9) rfl d_T_when_39 ?_
        refine lv_iload_n hx hb d_T_when_42 rfl (lv_at hl 3 rfl) ?_
        refine va_iald hx hb hK.1 hP (18 + 4 * i2 + 2) 0 (cw_wb hli2) rfl (begun_in hI hli2 h18) d_T_when_43 ?_
        exact W.iret (v := sA_be A i2 y.toNatClampNeg) hx hb hrt (fun t ht hW => ⟨_, rfl, by rw [f_T_when, oc_some q2, if_pos h18, if_pos h24], ht⟩) (fun q h => by cases h) d_T_when_44
      ·
        refine lv_aload hx hb d_T_when_27 (lv_at hl 0 rfl) ?_
        refine va_getN (D := X.1) (ci := 5) (C := R_Wafer) (T := F_Wafer) (N := 10) hx hb hts hin_Wafer hown hK.1 hP (18 + 4 * i2) (cw_w hli2) rfl 3 (by decide) (va_Nw.use rfl (hK.2.1 _ (List.mem_of_getElem? (i := 11) rfl))) (fun _ h9 => h9) rfl d_T_when_29 ?_
        refine lv_iload_n hx hb d_T_when_32 rfl (lv_at hl 3 rfl) ?_
        refine va_iald hx hb hK.1 hP (18 + 4 * i2 + 3) 0 (cw_we hli2) rfl (begun_in hI hli2 h18) d_T_when_33 ?_
        refine lv_goto (tgt := 44) hx hb d_T_when_34 rfl ?_
        exact W.iret (v := sA_en A i2 y.toNatClampNeg) hx hb hrt (fun t ht hW => ⟨_, rfl, by rw [f_T_when, oc_some q2, if_pos h18, if_neg h24], ht⟩) (fun q h => by cases h) d_T_when_44
    ·
      have h18 := b2i_f h18
      refine lv_iconst (v := (-1)) hx hb d_T_when_21 rfl ?_
      exact W.iret (v := (-1)) hx hb hrt (fun t ht hW => ⟨_, rfl, by rw [f_T_when, oc_some q2, if_neg (nt_of h18)], ht⟩) (fun q h => by cases h) d_T_when_22
abbrev rm_T_in : Room := { frames := 1, cells := 0, slots := 0, locals := 22 }
def f_T_in (G : Gc) (A : St) (x : Int32) : Int32 :=
  if (f_T_isWithin x 0 4) then
    gA_ins G x.toNatClampNeg
  else
    (-1)
set_option maxRecDepth 20000 in
set_option maxHeartbeats 4000000 in
theorem c_T_in (l : Launch) (X : Xt) (G : Gc) (A : St) (x : Int32) (hI : Inv A) : Met l y_T_in (Cond.code y_T_in b_T_in 2 (some .int) :: WA) rm_T_in (va_Pc [.ref (gA_ad G 0), .int x] (fun U => PR X G A U.heap ∧ KK X U)) (vp_Si (fun ans => ans = f_T_in G A x)) 0 0 (fun _ => False) := by
  refine vx_met (cc := b_T_in) (maxL := 2) (ret := (some .int)) (by decide) rfl (Nat.le_of_ble_eq_true rfl) ?_
  intro p e s m below meth c ls hx hb hrt hts hown hlocks hname hml hB hl
  obtain ⟨hP, hK⟩ := hB
  have hown : s.vm.findClass R_ClusterTool = some m.cls := hown
  have hl : lv_has ls 2 [(0, .ref (gA_ad G 0)), (1, .int x)] := hl
  have hP : va_P X.1 classes (cw X G A) s.heap := hP
  have hn := hI.1
  have hR := hI.2.1
  refine lv_iload_n hx hb d_T_in_0 rfl (lv_at hl 1 rfl) ?_
  refine lv_iconst (v := 0) hx hb d_T_in_1 rfl ?_
  refine lv_iconst (v := 4) hx hb d_T_in_2 rfl ?_
  refine vp_callSi (W.runS (As := [.int x, .int 0, .int 4]) (rest := []) ⟨hx, hb, hml, hown, hts⟩ (c_T_isWithin l X x 0 4) (va_cwS 3 hts (gT (wd_1 121 rfl rfl) (wd_1 119 rfl rfl) (wd_1 1 rfl rfl) (wd_1 120 rfl rfl)) rfl rfl rfl hd_T_isWithin ⟨Nat.le_of_ble_eq_true rfl, Nat.le_of_ble_eq_true rfl⟩) (vx_preS (P := fun _ => True) trivial hK) rfl rfl hl.1 rfl (lv_room (Nat.le_of_ble_eq_true rfl)) d_T_in_3 ⟨Nat.zero_le _, Nat.zero_le _⟩) (fun r3 e3 => ?_)
  subst e3
  refine lv_if_eq (tgt := 18) hx hb d_T_in_6 rfl (fun h6 => ?_) (fun h6 => ?_)
  ·
    have h6 := b2i_f h6
    refine lv_iconst (v := (-1)) hx hb d_T_in_18 rfl ?_
    exact W.iret (v := (-1)) hx hb hrt (fun t ht hW => ⟨_, rfl, by rw [f_T_in, if_neg (nt_of h6)], ht⟩) (fun q h => by cases h) d_T_in_19
  ·
    have h6 := b2i_t h6
    refine lv_aload_n hx hb d_T_in_9 rfl (lv_at hl 0 rfl) ?_
    refine va_get (D := X.1) (ci := 0) (C := R_ClusterTool) (T := F_ClusterTool) (N := 8) hx hb hts hin_ClusterTool hown hK.1 hP 0 cw_0 rfl 5 (by decide) (hts _ (wd_1 90 rfl rfl)) (fun _ h9 => h9) rfl d_T_in_10 ?_
    refine lv_iload_n hx hb d_T_in_13 rfl (lv_at hl 1 rfl) ?_
    refine va_iald hx hb hK.1 hP 6 0 cw_6 rfl (within_in h6 (by decide)) d_T_in_14 ?_
    refine lv_goto (tgt := 19) hx hb d_T_in_15 rfl ?_
    exact W.iret (v := gA_ins G x.toNatClampNeg) hx hb hrt (fun t ht hW => ⟨_, rfl, by rw [f_T_in, if_pos h6], ht⟩) (fun q h => by cases h) d_T_in_19
abbrev rm_T_stay : Room := { frames := 3, cells := 0, slots := 0, locals := 65 }
def f_T_stay (G : Gc) (A : St) (x : Int32) : Int32 :=
  oc (f_T_waferOf A x)
    ((-1))
    (fun i2 =>
      if (nI (sA_pl A i2)) < 4 then
        if (f_T_limitOf A i2) = 0 then
          (-1)
        else
          (if 0 < (((nI (sA_lf A i2)) + (f_T_limitOf A i2)) - (gA_wt G i2)) then (((nI (sA_lf A i2)) + (f_T_limitOf A i2)) - (gA_wt G i2)) else 0)
      else
        (-1))
set_option maxRecDepth 20000 in
set_option maxHeartbeats 4000000 in
theorem c_T_stay (l : Launch) (X : Xt) (G : Gc) (A : St) (x : Int32) (hI : Inv A) : Met l y_T_stay (Cond.code y_T_stay b_T_stay 4 (some .int) :: WA) rm_T_stay (va_Pc [.ref (gA_ad G 0), .int x] (fun U => PR X G A U.heap ∧ KK X U)) (vp_Si (fun ans => ans = f_T_stay G A x)) 0 0 (fun _ => False) := by
  refine vx_met (cc := b_T_stay) (maxL := 4) (ret := (some .int)) (by decide) rfl (Nat.le_of_ble_eq_true rfl) ?_
  intro p e s m below meth c ls hx hb hrt hts hown hlocks hname hml hB hl
  obtain ⟨hP, hK⟩ := hB
  have hown : s.vm.findClass R_ClusterTool = some m.cls := hown
  have hl : lv_has ls 4 [(0, .ref (gA_ad G 0)), (1, .int x)] := hl
  have hP : va_P X.1 classes (cw X G A) s.heap := hP
  have hn := hI.1
  have hR := hI.2.1
  refine lv_aload_n hx hb d_T_stay_0 rfl (lv_at hl 0 rfl) ?_
  refine lv_iload_n hx hb d_T_stay_1 rfl (lv_at hl 1 rfl) ?_
  refine va_csq (W.runV (As := [.int x]) (rest := []) ⟨hx, hb, hml, hown, hts⟩ (c_T_waferOf l X G A x hn) (cwV 1 hts (gV (wd_1 180 rfl rfl) (wd_1 182 rfl rfl) (wd_s 0 rfl) (wd_1 1 rfl rfl) (wd_1 183 rfl rfl)) rfl rfl rfl ⟨rfl, hd_T_waferOf⟩ ⟨Nat.le_of_ble_eq_true rfl, Nat.le_of_ble_eq_true rfl⟩) (vx_preV (P := PR X G A) hP hK (va_recv hK.1 hP (ci := 0) rfl cw_0)) rfl rfl hl.1 rfl (lv_room (Nat.le_of_ble_eq_true rfl)) d_T_stay_2 ⟨Nat.zero_le _, Nat.zero_le _⟩) (fun r2 e2 => ?_)
  cases q2 : f_T_waferOf A x with
  | none =>
    have e2 : r2 = none := by rw [e2, q2]; rfl
    subst e2
    refine lv_astore_nN (lv' := [(2, .null), (0, .ref (gA_ad G 0)), (1, .int x)]) hx hb d_T_stay_5 rfl hl (by decide) rfl (fun ls hl => ?_)
    refine lv_aload_nN hx hb d_T_stay_6 rfl (lv_at hl 0 rfl) ?_
    refine lv_ifnullN (tgt := 18) hx hb d_T_stay_7 rfl ?_
    refine lv_iconst (v := (-1)) hx hb d_T_stay_18 rfl ?_
    exact W.iret (v := (-1)) hx hb hrt (fun t ht hW => ⟨_, rfl, by rw [f_T_stay, oc_none q2], ht⟩) (fun q h => by cases h) d_T_stay_19
  | some i2 =>
    have e2 : r2 = some (gA_ad G (18 + 4 * i2)) := by rw [e2, q2]; rfl
    subst e2
    have hli2 := waferOf_lt hn q2
    refine lv_astore_n (lv' := [(2, .ref (gA_ad G (18 + 4 * i2))), (0, .ref (gA_ad G 0)), (1, .int x)]) hx hb d_T_stay_5 rfl hl (by decide) rfl (fun ls hl => ?_)
    refine lv_aload_n hx hb d_T_stay_6 rfl (lv_at hl 0 rfl) ?_
    refine lv_ifnull hx hb d_T_stay_7 ?_
    refine lv_aload_n hx hb d_T_stay_10 rfl (lv_at hl 0 rfl) ?_
    refine va_getN (D := X.1) (ci := 5) (C := R_Wafer) (T := F_Wafer) (N := 10) hx hb hts hin_Wafer hown hK.1 hP (18 + 4 * i2) (cw_w hli2) rfl 4 (by decide) (va_Nw.use rfl (hK.2.1 _ (List.mem_of_getElem? (i := 12) rfl))) (fun _ h9 => h9) rfl d_T_stay_11 ?_
    refine lv_iconst (v := 4) hx hb d_T_stay_14 rfl ?_
    refine lv_icmp_lt (tgt := 20) hx hb d_T_stay_15 rfl (fun h15 => ?_) (fun h15 => ?_)
    ·
      refine lv_aload_n hx hb d_T_stay_20 rfl (lv_at hl 1 rfl) ?_
      refine lv_aload_n hx hb d_T_stay_21 rfl (lv_at hl 0 rfl) ?_
      refine vp_callSi (W.runV (As := [.ref (gA_ad G (18 + 4 * i2))]) (rest := []) ⟨hx, hb, hml, hown, hts⟩ (c_T_limitOf l X G A i2 hli2 hR) (cwV 1 hts (gV (wd_2 59 rfl rfl) (wd_2 61 rfl rfl) (wd_s 10 rfl) (wd_1 1 rfl rfl) (wd_2 62 rfl rfl)) rfl rfl rfl ⟨rfl, hd_T_limitOf⟩ ⟨Nat.le_of_ble_eq_true rfl, Nat.le_of_ble_eq_true rfl⟩) (vx_preV (P := PR X G A) hP hK (va_recv hK.1 hP (ci := 0) rfl cw_0)) rfl rfl hl.1 rfl (lv_room (Nat.le_of_ble_eq_true rfl)) d_T_stay_22 ⟨Nat.zero_le _, Nat.zero_le _⟩) (fun r22 e22 => ?_)
      subst e22
      refine lv_istore_n (lv' := [(3, .int (f_T_limitOf A i2)), (2, .ref (gA_ad G (18 + 4 * i2))), (0, .ref (gA_ad G 0)), (1, .int x)]) hx hb d_T_stay_25 rfl hl (by decide) rfl (fun ls hl => ?_)
      refine lv_iload_n hx hb d_T_stay_26 rfl (lv_at hl 0 rfl) ?_
      refine lv_if_ne (tgt := 34) hx hb d_T_stay_27 rfl (fun h27 => ?_) (fun h27 => ?_)
      ·
        refine lv_iconst (v := 0) hx hb d_T_stay_34 rfl ?_
        refine lv_aload_n hx hb d_T_stay_35 rfl (lv_at hl 1 rfl) ?_
        refine va_getN (D := X.1) (ci := 5) (C := R_Wafer) (T := F_Wafer) (N := 10) hx hb hts hin_Wafer hown hK.1 hP (18 + 4 * i2) (cw_w hli2) rfl 6 (by decide) (va_Nw.use rfl (hK.2.1 _ (List.mem_of_getElem? (i := 14) rfl))) (fun _ h9 => h9) rfl d_T_stay_36 ?_
        refine lv_iload_n hx hb d_T_stay_39 rfl (lv_at hl 0 rfl) ?_
        refine lv_iadd hx hb d_T_stay_40 ?_
        refine lv_aload_n hx hb d_T_stay_41 rfl (lv_at hl 1 rfl) ?_
        refine va_getN (D := X.1) (ci := 5) (C := R_Wafer) (T := F_Wafer) (N := 10) hx hb hts hin_Wafer hown hK.1 hP (18 + 4 * i2) (cw_w hli2) rfl 7 (by decide) (va_Nw.use rfl (hK.2.1 _ (List.mem_of_getElem? (i := 15) rfl))) (fun _ h9 => h9) rfl d_T_stay_42 ?_
        refine lv_isub hx hb d_T_stay_45 ?_
        refine va_mmax hx hb (hml.trans hl.1.symm) hown (hts _ (wd_2 67 rfl rfl)) (hts _ (wd_2 68 rfl rfl)) (hts _ (wd_1 9 rfl rfl)) (hts _ (wd_2 69 rfl rfl)) (Nat.le_of_ble_eq_true rfl) (Nat.le_of_ble_eq_true rfl) (Nat.zero_le _) (Nat.zero_le _) d_T_stay_46 ?_
        exact W.iret (v := (if 0 < (((nI (sA_lf A i2)) + (f_T_limitOf A i2)) - (gA_wt G i2)) then (((nI (sA_lf A i2)) + (f_T_limitOf A i2)) - (gA_wt G i2)) else 0)) hx hb hrt (fun t ht hW => ⟨_, rfl, by rw [f_T_stay, oc_some q2, if_pos h15, if_neg h27], ht⟩) (fun q h => by cases h) d_T_stay_49
      ·
        refine lv_iconst (v := (-1)) hx hb d_T_stay_30 rfl ?_
        refine lv_goto (tgt := 49) hx hb d_T_stay_31 rfl ?_
        exact W.iret (v := (-1)) hx hb hrt (fun t ht hW => ⟨_, rfl, by rw [f_T_stay, oc_some q2, if_pos h15, if_pos h27], ht⟩) (fun q h => by cases h) d_T_stay_49
    ·
      refine lv_iconst (v := (-1)) hx hb d_T_stay_18 rfl ?_
      exact W.iret (v := (-1)) hx hb hrt (fun t ht hW => ⟨_, rfl, by rw [f_T_stay, oc_some q2, if_neg h15], ht⟩) (fun q h => by cases h) d_T_stay_19
abbrev rm_T_rankOf : Room := { frames := 4, cells := 0, slots := 0, locals := 88 }
def f_T_rankOf (G : Gc) (A : St) (x : Int32) : Int32 :=
  if (f_T_place A x) = 5 then
    1001
  else
    if (f_T_stay G A x) = (-1) then
      1000
    else
      f_T_stay G A x
set_option maxRecDepth 20000 in
set_option maxHeartbeats 4000000 in
theorem c_T_rankOf (l : Launch) (X : Xt) (G : Gc) (A : St) (x : Int32) (hI : Inv A) : Met l y_T_rankOf (Cond.code y_T_rankOf b_T_rankOf 3 (some .int) :: WA) rm_T_rankOf (va_Pc [.ref (gA_ad G 0), .int x] (fun U => PR X G A U.heap ∧ KK X U)) (vp_Si (fun ans => ans = f_T_rankOf G A x)) 0 0 (fun _ => False) := by
  refine vx_met (cc := b_T_rankOf) (maxL := 3) (ret := (some .int)) (by decide) rfl (Nat.le_of_ble_eq_true rfl) ?_
  intro p e s m below meth c ls hx hb hrt hts hown hlocks hname hml hB hl
  obtain ⟨hP, hK⟩ := hB
  have hown : s.vm.findClass R_ClusterTool = some m.cls := hown
  have hl : lv_has ls 3 [(0, .ref (gA_ad G 0)), (1, .int x)] := hl
  have hP : va_P X.1 classes (cw X G A) s.heap := hP
  have hn := hI.1
  have hR := hI.2.1
  refine lv_aload_n hx hb d_T_rankOf_0 rfl (lv_at hl 0 rfl) ?_
  refine lv_iload_n hx hb d_T_rankOf_1 rfl (lv_at hl 1 rfl) ?_
  refine vp_callSi (W.runV (As := [.int x]) (rest := []) ⟨hx, hb, hml, hown, hts⟩ (c_T_place l X G A x hI) (cwV 1 hts (gV (wd_2 51 rfl rfl) (wd_2 52 rfl rfl) (wd_2 53 rfl rfl) (wd_1 1 rfl rfl) (wd_2 54 rfl rfl)) rfl rfl rfl ⟨rfl, hd_T_place⟩ ⟨Nat.le_of_ble_eq_true rfl, Nat.le_of_ble_eq_true rfl⟩) (vx_preV (P := PR X G A) hP hK (va_recv hK.1 hP (ci := 0) rfl cw_0)) rfl rfl hl.1 rfl (lv_room (Nat.le_of_ble_eq_true rfl)) d_T_rankOf_2 ⟨Nat.zero_le _, Nat.zero_le _⟩) (fun r2 e2 => ?_)
  subst e2
  refine lv_iconst (v := 5) hx hb d_T_rankOf_5 rfl ?_
  refine lv_icmp_ne (tgt := 13) hx hb d_T_rankOf_6 rfl (fun h6 => ?_) (fun h6 => ?_)
  ·
    refine lv_aload_n hx hb d_T_rankOf_13 rfl (lv_at hl 0 rfl) ?_
    refine lv_iload_n hx hb d_T_rankOf_14 rfl (lv_at hl 1 rfl) ?_
    refine vp_callSi (W.runV (As := [.int x]) (rest := []) ⟨hx, hb, hml, hown, hts⟩ (c_T_stay l X G A x hI) (cwV 1 hts (gV (wd_2 55 rfl rfl) (wd_2 56 rfl rfl) (wd_2 57 rfl rfl) (wd_1 1 rfl rfl) (wd_2 58 rfl rfl)) rfl rfl rfl ⟨rfl, hd_T_stay⟩ ⟨Nat.le_of_ble_eq_true rfl, Nat.le_of_ble_eq_true rfl⟩) (vx_preV (P := PR X G A) hP hK (va_recv hK.1 hP (ci := 0) rfl cw_0)) rfl rfl hl.1 rfl (lv_room (Nat.le_of_ble_eq_true rfl)) d_T_rankOf_15 ⟨Nat.zero_le _, Nat.zero_le _⟩) (fun r15 e15 => ?_)
    subst e15
    refine lv_istore_n (lv' := [(2, .int (f_T_stay G A x)), (0, .ref (gA_ad G 0)), (1, .int x)]) hx hb d_T_rankOf_18 rfl hl (by decide) rfl (fun ls hl => ?_)
    refine lv_iload_n hx hb d_T_rankOf_19 rfl (lv_at hl 0 rfl) ?_
    refine lv_iconst (v := (-1)) hx hb d_T_rankOf_20 rfl ?_
    refine lv_icmp_ne (tgt := 30) hx hb d_T_rankOf_21 rfl (fun h21 => ?_) (fun h21 => ?_)
    ·
      refine lv_iload_n hx hb d_T_rankOf_30 rfl (lv_at hl 0 rfl) ?_
      exact W.iret (v := f_T_stay G A x) hx hb hrt (fun t ht hW => ⟨_, rfl, by rw [f_T_rankOf, if_neg h6, if_neg h21], ht⟩) (fun q h => by cases h) d_T_rankOf_31
    ·
      refine lv_sipush (v := 1000) hx hb d_T_rankOf_24 rfl ?_
      refine lv_goto (tgt := 31) hx hb d_T_rankOf_27 rfl ?_
      exact W.iret (v := 1000) hx hb hrt (fun t ht hW => ⟨_, rfl, by rw [f_T_rankOf, if_neg h6, if_pos h21], ht⟩) (fun q h => by cases h) d_T_rankOf_31
  ·
    refine lv_sipush (v := 1001) hx hb d_T_rankOf_9 rfl ?_
    exact W.iret (v := 1001) hx hb hrt (fun t ht hW => ⟨_, rfl, by rw [f_T_rankOf, if_pos h6], ht⟩) (fun q h => by cases h) d_T_rankOf_12
end
section
/-! Small numbers for the stores. Own work. -/
theorem robotFor_c (x y : Int32) : f_T_robotFor x y = some 4 ∨ f_T_robotFor x y = some 3 := by
  unfold f_T_robotFor
  split
  · exact Or.inl rfl
  · split
    · exact Or.inl rfl
    · exact Or.inr rfl
theorem turn_nI : ∀ d, d < 16 → ∀ q, q < 4 → nI d ^^^ ((1 : Int32) <<< (nI q &&& 31)) = nI (d ^^^ 2 ^ q) := by decide +kernel
theorem lt_of_nle {k n : Nat} (h : ¬ nI k ≤ nI n) (hn : n < 2 ^ 31) : n < k := Nat.lt_of_not_le fun z => h (nI_le z hn)
theorem pos_of_nle {n : Nat} (h : ¬ nI n ≤ 0) : 1 ≤ n := by
  rcases Nat.eq_zero_or_pos n with rfl | h1
  · exact absurd (by decide) h
  · exact h1
theorem nI_s1 {n : Nat} (h : 1 ≤ n) : nI n - 1 = nI (n - 1) := pk_sub (a := n) (b := 1) h
theorem mmin_nI {a b : Nat} (ha : a < 2 ^ 31) (hb : b < 2 ^ 31) : (if nI b < nI a then nI b else nI a) = nI (min a b) := by
  by_cases h : b < a
  · rw [if_pos (nI_lt h ha), Nat.min_eq_right (by omega)]
  · rw [if_neg (nI_nlt (by omega) hb), Nat.min_eq_left (by omega)]
end
section
abbrev rm_Y_turn : Room := { frames := 0, cells := 0, slots := 0, locals := 0 }
def g_Y_turn (G : Gc) (A : St) (q : Nat) : Gc × St :=
  (G, (sU_dn A (sA_dn A ^^^ 2 ^ q)))
set_option maxRecDepth 20000 in
set_option maxHeartbeats 4000000 in
theorem c_Y_turn (l : Launch) (X : Xt) (G : Gc) (A : St) (Af : Nat → Prop) (q : Nat) (hd : sA_dn A < 16) (hq : q < 4) : Met l y_Y_turn (Cond.code y_Y_turn b_Y_turn 2 none :: WA) rm_Y_turn (va_Pc [.ref (gA_ad G 1), .int (nI q)] (fun U => PW X Af G A U.heap ∧ KK X U)) (va_Qv (fun u => u = g_Y_turn G A q) (atC X Af) Af) 0 0 Af := by
  refine vx_met (cc := b_Y_turn) (maxL := 2) (ret := none) (by decide) rfl (Nat.le_of_ble_eq_true rfl) ?_
  intro p e s m below meth c ls hx hb hrt hts hown hlocks hname hml hB hl
  obtain ⟨hP, hK⟩ := hB
  have hown : s.vm.findClass R_Ways = some m.cls := hown
  have hl : lv_has ls 2 [(0, .ref (gA_ad G 1)), (1, .int (nI q))] := hl
  have hD : va_D Af (cw X G A) := hP.2
  have hP : va_P X.1 classes (cw X G A) s.heap := hP.1
  have hS : va_S Af s.heap s.heap [] := va_S.rf
  refine lv_aload_n hx hb d_Y_turn_0 rfl (lv_at hl 0 rfl) ?_
  refine lv_dup hx hb d_Y_turn_1 rfl ?_
  refine va_get (D := X.1) (ci := 1) (C := R_Ways) (T := F_Ways) (N := 2) hx hb hts hin_Ways hown hK.1 hP 1 cw_1 rfl 1 (by decide) (hts _ (wd_1 48 rfl rfl)) (fun _ h9 => h9) rfl d_Y_turn_2 ?_
  refine lv_iconst (v := 1) hx hb d_Y_turn_5 rfl ?_
  refine lv_iload_n hx hb d_Y_turn_6 rfl (lv_at hl 1 rfl) ?_
  refine lv_ishl hx hb d_Y_turn_7 ?_
  refine lv_ixor hx hb d_Y_turn_8 ?_
  rw [turn_nI _ hd _ hq]
  refine va_put (D := X.1) (ci := 1) (v := .int (nI (sA_dn A ^^^ 2 ^ q))) (ty := .int) (C := R_Ways) (T := F_Ways) (N := 2) hx hb hts hin_Ways t_Ways t_Ways_ok n_Ways hown hK.1 hP hD hS 1 cw_1 rfl 1 (by decide) (hts _ (wd_1 48 rfl rfl)) (fun _ h9 => h9) rfl (by decide +kernel) rfl rfl (Nat.le_of_ble_eq_true rfl) d_Y_turn_9 (fun H locs hP hD hS => ?_)
  replace hP := vx_P (cw_s_dn (X := X) (G := G) (A := A) (v := (sA_dn A ^^^ 2 ^ q))) hP
  replace hD := vx_D (cw_s_dn (X := X) (G := G) (A := A) (v := (sA_dn A ^^^ 2 ^ q))) hD
  exact W.vret hx hb hrt (fun t ht hW => ⟨⟨(G, (sU_dn A (sA_dn A ^^^ 2 ^ q))), rfl, by rw [g_Y_turn], ⟨by rw [ht]; exact hP, hD⟩⟩, hS.F ht⟩) hS.2.2 d_Y_turn_12
abbrev rm_U_append : Room := { frames := 0, cells := 0, slots := 0, locals := 0 }
def g_U_append (G : Gc) (A : St) (r : Nat) (a : Nat) (b : Nat) (d : Nat) : Gc × St :=
  if 3 ≤ (nI (sA_len A r)) then
    (G, A)
  else
    (G, (sU_len (sU_lm (sU_tm (sU_mk A (va_up (sA_mk A) r (va_up (sA_mk A r) (sA_len A r) a))) (va_up (sA_tm A) r (va_up (sA_tm A r) (sA_len A r) b))) (va_up (sA_lm A) r (va_up (sA_lm A r) (sA_len A r) d))) (va_up (sA_len A) r (sA_len A r + 1))))
set_option maxRecDepth 20000 in
set_option maxHeartbeats 4000000 in
theorem c_U_append (l : Launch) (X : Xt) (G : Gc) (A : St) (Af : Nat → Prop) (r : Nat) (hr : r < 2) (a : Nat) (b : Nat) (d : Nat) (hR : rOk A) : Met l y_U_append (Cond.code y_U_append b_U_append 4 none :: WA) rm_U_append (va_Pc [.ref (gA_ad G (8 + 4 * r)), .int (nI a), .int (nI b), .int (nI d)] (fun U => PW X Af G A U.heap ∧ KK X U)) (va_Qv (fun u => u = g_U_append G A r a b d) (atC X Af) Af) 0 0 Af := by
  refine vx_met (cc := b_U_append) (maxL := 4) (ret := none) (by decide) rfl (Nat.le_of_ble_eq_true rfl) ?_
  intro p e s m below meth c ls hx hb hrt hts hown hlocks hname hml hB hl
  obtain ⟨hP, hK⟩ := hB
  have hown : s.vm.findClass R_Route = some m.cls := hown
  have hl : lv_has ls 4 [(0, .ref (gA_ad G (8 + 4 * r))), (1, .int (nI a)), (2, .int (nI b)), (3, .int (nI d))] := hl
  have hD : va_D Af (cw X G A) := hP.2
  have hP : va_P X.1 classes (cw X G A) s.heap := hP.1
  have hS : va_S Af s.heap s.heap [] := va_S.rf
  refine lv_aload_n hx hb d_U_append_0 rfl (lv_at hl 0 rfl) ?_
  refine va_get (D := X.1) (ci := 4) (C := R_Route) (T := F_Route) (N := 4) hx hb hts hin_Route hown hK.1 hP (8 + 4 * r) (cw_r hr) rfl 3 (by decide) (hts _ (wd_1 35 rfl rfl)) (fun _ h9 => h9) rfl d_U_append_1 ?_
  refine lv_iconst (v := 3) hx hb d_U_append_4 rfl ?_
  refine lv_icmp_ge (tgt := 48) hx hb d_U_append_5 rfl (fun h5 => ?_) (fun h5 => ?_)
  ·
    exact W.vret hx hb hrt (fun t ht hW => ⟨⟨(G, A), rfl, by rw [g_U_append, if_pos h5], ⟨by rw [ht]; exact hP, hD⟩⟩, hS.F ht⟩) hS.2.2 d_U_append_48
  ·
    have hl3 : sA_len A r < 3 := lt_of_nle (k := 3) h5 (by have := hR.1 r; omega)
    refine lv_aload_n hx hb d_U_append_8 rfl (lv_at hl 0 rfl) ?_
    refine va_get (D := X.1) (ci := 4) (C := R_Route) (T := F_Route) (N := 4) hx hb hts hin_Route hown hK.1 hP (8 + 4 * r) (cw_r hr) rfl 0 (by decide) (hts _ (wd_1 32 rfl rfl)) (fun _ h9 => h9) rfl d_U_append_9 ?_
    refine lv_aload_n hx hb d_U_append_12 rfl (lv_at hl 0 rfl) ?_
    refine va_get (D := X.1) (ci := 4) (C := R_Route) (T := F_Route) (N := 4) hx hb hts hin_Route hown hK.1 hP (8 + 4 * r) (cw_r hr) rfl 3 (by decide) (hts _ (wd_1 35 rfl rfl)) (fun _ h9 => h9) rfl d_U_append_13 ?_
    refine lv_iload_n hx hb d_U_append_16 rfl (lv_at hl 1 rfl) ?_
    refine va_iast hx hb hK.1 hP hD hS (9 + 4 * r) 0 (cw_rm hr) rfl (vp_in_nI hl3 (by omega)) d_U_append_17 (fun H locs hP hD hS => ?_)
    rw [nI_clamp (n := sA_len A r) (by omega)] at hP hD
    replace hP := vx_P (cw_s_mk (X := X) (G := G) (A := A) (r := r) (k := sA_len A r) (v := a) hr) hP
    replace hD := vx_D (cw_s_mk (X := X) (G := G) (A := A) (r := r) (k := sA_len A r) (v := a) hr) hD
    refine lv_aload_n hx hb d_U_append_18 rfl (lv_at hl 0 rfl) ?_
    refine va_get (D := X.1) (ci := 4) (C := R_Route) (T := F_Route) (N := 4) hx hb hts hin_Route hown hK.1 hP (8 + 4 * r) (cw_r hr) rfl 1 (by decide) (hts _ (wd_1 33 rfl rfl)) (fun _ h9 => h9) rfl d_U_append_19 ?_
    refine lv_aload_n hx hb d_U_append_22 rfl (lv_at hl 0 rfl) ?_
    refine va_get (D := X.1) (ci := 4) (C := R_Route) (T := F_Route) (N := 4) hx hb hts hin_Route hown hK.1 hP (8 + 4 * r) (cw_r hr) rfl 3 (by decide) (hts _ (wd_1 35 rfl rfl)) (fun _ h9 => h9) rfl d_U_append_23 ?_
    refine lv_iload_n hx hb d_U_append_26 rfl (lv_at hl 2 rfl) ?_
    refine va_iast hx hb hK.1 hP hD hS (10 + 4 * r) 0 (cw_rt hr) rfl (vp_in_nI hl3 (by omega)) d_U_append_27 (fun H locs hP hD hS => ?_)
    rw [nI_clamp (n := sA_len A r) (by omega)] at hP hD
    replace hP := vx_P (cw_s_tm (X := X) (G := G) (A := (sU_mk A (va_up (sA_mk A) r (va_up (sA_mk A r) (sA_len A r) a)))) (r := r) (k := sA_len A r) (v := b) hr) hP
    replace hD := vx_D (cw_s_tm (X := X) (G := G) (A := (sU_mk A (va_up (sA_mk A) r (va_up (sA_mk A r) (sA_len A r) a)))) (r := r) (k := sA_len A r) (v := b) hr) hD
    refine lv_aload_n hx hb d_U_append_28 rfl (lv_at hl 0 rfl) ?_
    refine va_get (D := X.1) (ci := 4) (C := R_Route) (T := F_Route) (N := 4) hx hb hts hin_Route hown hK.1 hP (8 + 4 * r) (cw_r hr) rfl 2 (by decide) (hts _ (wd_1 34 rfl rfl)) (fun _ h9 => h9) rfl d_U_append_29 ?_
    refine lv_aload_n hx hb d_U_append_32 rfl (lv_at hl 0 rfl) ?_
    refine va_get (D := X.1) (ci := 4) (C := R_Route) (T := F_Route) (N := 4) hx hb hts hin_Route hown hK.1 hP (8 + 4 * r) (cw_r hr) rfl 3 (by decide) (hts _ (wd_1 35 rfl rfl)) (fun _ h9 => h9) rfl d_U_append_33 ?_
    refine lv_iload_n hx hb d_U_append_36 rfl (lv_at hl 3 rfl) ?_
    refine va_iast hx hb hK.1 hP hD hS (11 + 4 * r) 0 (cw_rl hr) rfl (vp_in_nI hl3 (by omega)) d_U_append_37 (fun H locs hP hD hS => ?_)
    rw [nI_clamp (n := sA_len A r) (by omega)] at hP hD
    replace hP := vx_P (cw_s_lm (X := X) (G := G) (A := (sU_tm (sU_mk A (va_up (sA_mk A) r (va_up (sA_mk A r) (sA_len A r) a))) (va_up (sA_tm A) r (va_up (sA_tm A r) (sA_len A r) b)))) (r := r) (k := sA_len A r) (v := d) hr) hP
    replace hD := vx_D (cw_s_lm (X := X) (G := G) (A := (sU_tm (sU_mk A (va_up (sA_mk A) r (va_up (sA_mk A r) (sA_len A r) a))) (va_up (sA_tm A) r (va_up (sA_tm A r) (sA_len A r) b)))) (r := r) (k := sA_len A r) (v := d) hr) hD
    refine lv_aload_n hx hb d_U_append_38 rfl (lv_at hl 0 rfl) ?_
    refine lv_dup hx hb d_U_append_39 rfl ?_
    refine va_get (D := X.1) (ci := 4) (C := R_Route) (T := F_Route) (N := 4) hx hb hts hin_Route hown hK.1 hP (8 + 4 * r) (cw_r hr) rfl 3 (by decide) (hts _ (wd_1 35 rfl rfl)) (fun _ h9 => h9) rfl d_U_append_40 ?_
    refine lv_iconst (v := 1) hx hb d_U_append_43 rfl ?_
    refine lv_iadd hx hb d_U_append_44 ?_
    rw [nI_1]
    refine va_put (D := X.1) (ci := 4) (v := .int (nI (sA_len A r + 1))) (ty := .int) (C := R_Route) (T := F_Route) (N := 4) hx hb hts hin_Route t_Route t_Route_ok n_Route hown hK.1 hP hD hS (8 + 4 * r) (cw_r hr) rfl 3 (by decide) (hts _ (wd_1 35 rfl rfl)) (fun _ h9 => h9) rfl (by decide +kernel) rfl rfl (Nat.le_of_ble_eq_true rfl) d_U_append_45 (fun H locs hP hD hS => ?_)
    replace hP := vx_P (cw_s_len (X := X) (G := G) (A := (sU_lm (sU_tm (sU_mk A (va_up (sA_mk A) r (va_up (sA_mk A r) (sA_len A r) a))) (va_up (sA_tm A) r (va_up (sA_tm A r) (sA_len A r) b))) (va_up (sA_lm A) r (va_up (sA_lm A r) (sA_len A r) d)))) (r := r) (v := (sA_len A r + 1)) hr) hP
    replace hD := vx_D (cw_s_len (X := X) (G := G) (A := (sU_lm (sU_tm (sU_mk A (va_up (sA_mk A) r (va_up (sA_mk A r) (sA_len A r) a))) (va_up (sA_tm A) r (va_up (sA_tm A r) (sA_len A r) b))) (va_up (sA_lm A) r (va_up (sA_lm A r) (sA_len A r) d)))) (r := r) (v := (sA_len A r + 1)) hr) hD
    exact W.vret hx hb hrt (fun t ht hW => ⟨⟨(G, (sU_len (sU_lm (sU_tm (sU_mk A (va_up (sA_mk A) r (va_up (sA_mk A r) (sA_len A r) a))) (va_up (sA_tm A) r (va_up (sA_tm A r) (sA_len A r) b))) (va_up (sA_lm A) r (va_up (sA_lm A r) (sA_len A r) d))) (va_up (sA_len A) r (sA_len A r + 1)))), rfl, by rw [g_U_append, if_neg h5], ⟨by rw [ht]; exact hP, hD⟩⟩, hS.F ht⟩) hS.2.2 d_U_append_48
abbrev rm_W_arrive : Room := { frames := 0, cells := 0, slots := 0, locals := 0 }
def g_W_arrive (G : Gc) (A : St) (i : Nat) (q : Nat) : Gc × St :=
  if (nI q) = 5 then
    ((gU_fi (gU_wt G (va_up (gA_wt G) i 0)) (va_up (gA_fi G) i true)), (sU_pl A (va_up (sA_pl A) i q)))
  else
    ((gU_fi (gU_wt G (va_up (gA_wt G) i 0)) (va_up (gA_fi G) i false)), (sU_pl A (va_up (sA_pl A) i q)))
set_option maxRecDepth 20000 in
set_option maxHeartbeats 4000000 in
theorem c_W_arrive (l : Launch) (X : Xt) (G : Gc) (A : St) (Af : Nat → Prop) (i : Nat) (hi : i < sA_n A) (q : Nat) : Met l y_W_arrive (Cond.code y_W_arrive b_W_arrive 2 none :: WA) rm_W_arrive (va_Pc [.ref (gA_ad G (18 + 4 * i)), .int (nI q)] (fun U => PW X Af G A U.heap ∧ KK X U)) (va_Qv (fun u => u = g_W_arrive G A i q) (atC X Af) Af) 0 0 Af := by
  refine vx_met (cc := b_W_arrive) (maxL := 2) (ret := none) (by decide) rfl (Nat.le_of_ble_eq_true rfl) ?_
  intro p e s m below meth c ls hx hb hrt hts hown hlocks hname hml hB hl
  obtain ⟨hP, hK⟩ := hB
  have hown : s.vm.findClass R_Wafer = some m.cls := hown
  have hl : lv_has ls 2 [(0, .ref (gA_ad G (18 + 4 * i))), (1, .int (nI q))] := hl
  have hD : va_D Af (cw X G A) := hP.2
  have hP : va_P X.1 classes (cw X G A) s.heap := hP.1
  have hS : va_S Af s.heap s.heap [] := va_S.rf
  refine lv_aload_n hx hb d_W_arrive_0 rfl (lv_at hl 0 rfl) ?_
  refine lv_iload_n hx hb d_W_arrive_1 rfl (lv_at hl 1 rfl) ?_
  refine va_put (D := X.1) (ci := 5) (v := .int (nI q)) (ty := .int) (C := R_Wafer) (T := F_Wafer) (N := 10) hx hb hts hin_Wafer t_Wafer t_Wafer_ok n_Wafer hown hK.1 hP hD hS (18 + 4 * i) (cw_w hi) rfl 4 (by decide) (hts _ (wd_1 143 rfl rfl)) (fun _ h9 => h9) rfl (by decide +kernel) rfl rfl (Nat.le_of_ble_eq_true rfl) d_W_arrive_2 (fun H locs hP hD hS => ?_)
  replace hP := vx_P (cw_s_pl (X := X) (G := G) (A := A) (i := i) (v := q)) hP
  replace hD := vx_D (cw_s_pl (X := X) (G := G) (A := A) (i := i) (v := q)) hD
  refine lv_aload_n hx hb d_W_arrive_5 rfl (lv_at hl 0 rfl) ?_
  refine lv_iconst (v := 0) hx hb d_W_arrive_6 rfl ?_
  refine va_put (D := X.1) (ci := 5) (v := .int 0) (ty := .int) (C := R_Wafer) (T := F_Wafer) (N := 10) hx hb hts hin_Wafer t_Wafer t_Wafer_ok n_Wafer hown hK.1 hP hD hS (18 + 4 * i) (cw_w hi) rfl 7 (by decide) (hts _ (wd_1 149 rfl rfl)) (fun _ h9 => h9) rfl (by decide +kernel) rfl rfl (Nat.le_of_ble_eq_true rfl) d_W_arrive_7 (fun H locs hP hD hS => ?_)
  replace hP := vx_P (cw_s_wt (X := X) (G := G) (A := (sU_pl A (va_up (sA_pl A) i q))) (i := i) (v := 0)) hP
  replace hD := vx_D (cw_s_wt (X := X) (G := G) (A := (sU_pl A (va_up (sA_pl A) i q))) (i := i) (v := 0)) hD
  refine lv_aload_n hx hb d_W_arrive_10 rfl (lv_at hl 0 rfl) ?_
  refine lv_iload_n hx hb d_W_arrive_11 rfl (lv_at hl 1 rfl) ?_
  refine lv_iconst (v := 5) hx hb d_W_arrive_12 rfl ?_
  refine lv_icmp_ne (tgt := 20) hx hb d_W_arrive_13 rfl (fun h13 => ?_) (fun h13 => ?_)
  ·
    refine lv_iconst (v := 0) hx hb d_W_arrive_20 rfl ?_
    refine va_put (D := X.1) (ci := 5) (v := .int (b2i false)) (ty := .boolean) (C := R_Wafer) (T := F_Wafer) (N := 10) hx hb hts hin_Wafer t_Wafer t_Wafer_ok n_Wafer hown hK.1 hP hD hS (18 + 4 * i) (cw_w hi) rfl 8 (by decide) (hts _ (wd_1 151 rfl rfl)) (fun _ h9 => h9) rfl (by decide +kernel) (b2i_nar _) (b2i_fit _) (Nat.le_of_ble_eq_true rfl) d_W_arrive_21 (fun H locs hP hD hS => ?_)
    replace hP := vx_P (cw_s_fi (X := X) (G := (gU_wt G (va_up (gA_wt G) i 0))) (A := (sU_pl A (va_up (sA_pl A) i q))) (i := i) (v := false)) hP
    replace hD := vx_D (cw_s_fi (X := X) (G := (gU_wt G (va_up (gA_wt G) i 0))) (A := (sU_pl A (va_up (sA_pl A) i q))) (i := i) (v := false)) hD
    exact W.vret hx hb hrt (fun t ht hW => ⟨⟨((gU_fi (gU_wt G (va_up (gA_wt G) i 0)) (va_up (gA_fi G) i false)), (sU_pl A (va_up (sA_pl A) i q))), rfl, by rw [g_W_arrive, if_neg h13], ⟨by rw [ht]; exact hP, hD⟩⟩, hS.F ht⟩) hS.2.2 d_W_arrive_24
  ·
    refine lv_iconst (v := 1) hx hb d_W_arrive_16 rfl ?_
    refine lv_goto (tgt := 21) hx hb d_W_arrive_17 rfl ?_
    refine va_put (D := X.1) (ci := 5) (v := .int (b2i true)) (ty := .boolean) (C := R_Wafer) (T := F_Wafer) (N := 10) hx hb hts hin_Wafer t_Wafer t_Wafer_ok n_Wafer hown hK.1 hP hD hS (18 + 4 * i) (cw_w hi) rfl 8 (by decide) (hts _ (wd_1 151 rfl rfl)) (fun _ h9 => h9) rfl (by decide +kernel) (b2i_nar _) (b2i_fit _) (Nat.le_of_ble_eq_true rfl) d_W_arrive_21 (fun H locs hP hD hS => ?_)
    replace hP := vx_P (cw_s_fi (X := X) (G := (gU_wt G (va_up (gA_wt G) i 0))) (A := (sU_pl A (va_up (sA_pl A) i q))) (i := i) (v := true)) hP
    replace hD := vx_D (cw_s_fi (X := X) (G := (gU_wt G (va_up (gA_wt G) i 0))) (A := (sU_pl A (va_up (sA_pl A) i q))) (i := i) (v := true)) hD
    exact W.vret hx hb hrt (fun t ht hW => ⟨⟨((gU_fi (gU_wt G (va_up (gA_wt G) i 0)) (va_up (gA_fi G) i true)), (sU_pl A (va_up (sA_pl A) i q))), rfl, by rw [g_W_arrive, if_pos h13], ⟨by rw [ht]; exact hP, hD⟩⟩, hS.F ht⟩) hS.2.2 d_W_arrive_24
abbrev rm_W_begin : Room := { frames := 0, cells := 0, slots := 0, locals := 0 }
def g_W_begin (G : Gc) (A : St) (i : Nat) (a : Nat) (k : Int32) : Gc × St :=
  if 3 ≤ (nI (sA_sg A i)) then
    (G, A)
  else
    (G, (sU_sg (sU_lf (sU_en (sU_be (sU_ch A (va_up (sA_ch A) i (upd (sA_ch A i) (sA_sg A i) (nI (sA_pl A i))))) (va_up (sA_be A) i (upd (sA_be A i) (sA_sg A i) k))) (va_up (sA_en A) i (upd (sA_en A i) (sA_sg A i) (-1)))) (va_up (sA_lf A) i a)) (va_up (sA_sg A) i (sA_sg A i + 1))))
set_option maxRecDepth 20000 in
set_option maxHeartbeats 4000000 in
theorem c_W_begin (l : Launch) (X : Xt) (G : Gc) (A : St) (Af : Nat → Prop) (i : Nat) (hi : i < sA_n A) (a : Nat) (k : Int32) (hg : sA_sg A i ≤ 3) : Met l y_W_begin (Cond.code y_W_begin b_W_begin 3 none :: WA) rm_W_begin (va_Pc [.ref (gA_ad G (18 + 4 * i)), .int (nI a), .int k] (fun U => PW X Af G A U.heap ∧ KK X U)) (va_Qv (fun u => u = g_W_begin G A i a k) (atC X Af) Af) 0 0 Af := by
  refine vx_met (cc := b_W_begin) (maxL := 3) (ret := none) (by decide) rfl (Nat.le_of_ble_eq_true rfl) ?_
  intro p e s m below meth c ls hx hb hrt hts hown hlocks hname hml hB hl
  obtain ⟨hP, hK⟩ := hB
  have hown : s.vm.findClass R_Wafer = some m.cls := hown
  have hl : lv_has ls 3 [(0, .ref (gA_ad G (18 + 4 * i))), (1, .int (nI a)), (2, .int k)] := hl
  have hD : va_D Af (cw X G A) := hP.2
  have hP : va_P X.1 classes (cw X G A) s.heap := hP.1
  have hS : va_S Af s.heap s.heap [] := va_S.rf
  refine lv_aload_n hx hb d_W_begin_0 rfl (lv_at hl 0 rfl) ?_
  refine va_get (D := X.1) (ci := 5) (C := R_Wafer) (T := F_Wafer) (N := 10) hx hb hts hin_Wafer hown hK.1 hP (18 + 4 * i) (cw_w hi) rfl 5 (by decide) (hts _ (wd_1 145 rfl rfl)) (fun _ h9 => h9) rfl d_W_begin_1 ?_
  refine lv_iconst (v := 3) hx hb d_W_begin_4 rfl ?_
  refine lv_icmp_ge (tgt := 56) hx hb d_W_begin_5 rfl (fun h5 => ?_) (fun h5 => ?_)
  ·
    exact W.vret hx hb hrt (fun t ht hW => ⟨⟨(G, A), rfl, by rw [g_W_begin, if_pos h5], ⟨by rw [ht]; exact hP, hD⟩⟩, hS.F ht⟩) hS.2.2 d_W_begin_56
  ·
    have hg3 : sA_sg A i < 3 := lt_of_nle (k := 3) h5 (by omega)
    refine lv_aload_n hx hb d_W_begin_8 rfl (lv_at hl 0 rfl) ?_
    refine va_get (D := X.1) (ci := 5) (C := R_Wafer) (T := F_Wafer) (N := 10) hx hb hts hin_Wafer hown hK.1 hP (18 + 4 * i) (cw_w hi) rfl 1 (by decide) (hts _ (wd_1 137 rfl rfl)) (fun _ h9 => h9) rfl d_W_begin_9 ?_
    refine lv_aload_n hx hb d_W_begin_12 rfl (lv_at hl 0 rfl) ?_
    refine va_get (D := X.1) (ci := 5) (C := R_Wafer) (T := F_Wafer) (N := 10) hx hb hts hin_Wafer hown hK.1 hP (18 + 4 * i) (cw_w hi) rfl 5 (by decide) (hts _ (wd_1 145 rfl rfl)) (fun _ h9 => h9) rfl d_W_begin_13 ?_
    refine lv_aload_n hx hb d_W_begin_16 rfl (lv_at hl 0 rfl) ?_
    refine va_get (D := X.1) (ci := 5) (C := R_Wafer) (T := F_Wafer) (N := 10) hx hb hts hin_Wafer hown hK.1 hP (18 + 4 * i) (cw_w hi) rfl 4 (by decide) (hts _ (wd_1 143 rfl rfl)) (fun _ h9 => h9) rfl d_W_begin_17 ?_
    refine va_iast hx hb hK.1 hP hD hS (18 + 4 * i + 1) 0 (cw_wc hi) rfl (vp_in_nI hg3 (by omega)) d_W_begin_20 (fun H locs hP hD hS => ?_)
    rw [nI_clamp (n := sA_sg A i) (by omega)] at hP hD
    replace hP := vx_P (cw_s_ch (X := X) (G := G) (A := A) (i := i) (k := sA_sg A i) (x := nI (sA_pl A i))) hP
    replace hD := vx_D (cw_s_ch (X := X) (G := G) (A := A) (i := i) (k := sA_sg A i) (x := nI (sA_pl A i))) hD
    refine lv_aload_n hx hb d_W_begin_21 rfl (lv_at hl 0 rfl) ?_
    refine va_get (D := X.1) (ci := 5) (C := R_Wafer) (T := F_Wafer) (N := 10) hx hb hts hin_Wafer hown hK.1 hP (18 + 4 * i) (cw_w hi) rfl 2 (by decide) (hts _ (wd_1 139 rfl rfl)) (fun _ h9 => h9) rfl d_W_begin_22 ?_
    refine lv_aload_n hx hb d_W_begin_25 rfl (lv_at hl 0 rfl) ?_
    refine va_get (D := X.1) (ci := 5) (C := R_Wafer) (T := F_Wafer) (N := 10) hx hb hts hin_Wafer hown hK.1 hP (18 + 4 * i) (cw_w hi) rfl 5 (by decide) (hts _ (wd_1 145 rfl rfl)) (fun _ h9 => h9) rfl d_W_begin_26 ?_
    refine lv_iload_n hx hb d_W_begin_29 rfl (lv_at hl 2 rfl) ?_
    refine va_iast hx hb hK.1 hP hD hS (18 + 4 * i + 2) 0 (cw_wb hi) rfl (vp_in_nI hg3 (by omega)) d_W_begin_30 (fun H locs hP hD hS => ?_)
    rw [nI_clamp (n := sA_sg A i) (by omega)] at hP hD
    replace hP := vx_P (cw_s_be (X := X) (G := G) (A := (sU_ch A (va_up (sA_ch A) i (upd (sA_ch A i) (sA_sg A i) (nI (sA_pl A i)))))) (i := i) (k := sA_sg A i) (x := k)) hP
    replace hD := vx_D (cw_s_be (X := X) (G := G) (A := (sU_ch A (va_up (sA_ch A) i (upd (sA_ch A i) (sA_sg A i) (nI (sA_pl A i)))))) (i := i) (k := sA_sg A i) (x := k)) hD
    refine lv_aload_n hx hb d_W_begin_31 rfl (lv_at hl 0 rfl) ?_
    refine va_get (D := X.1) (ci := 5) (C := R_Wafer) (T := F_Wafer) (N := 10) hx hb hts hin_Wafer hown hK.1 hP (18 + 4 * i) (cw_w hi) rfl 3 (by decide) (hts _ (wd_1 141 rfl rfl)) (fun _ h9 => h9) rfl d_W_begin_32 ?_
    refine lv_aload_n hx hb d_W_begin_35 rfl (lv_at hl 0 rfl) ?_
    refine va_get (D := X.1) (ci := 5) (C := R_Wafer) (T := F_Wafer) (N := 10) hx hb hts hin_Wafer hown hK.1 hP (18 + 4 * i) (cw_w hi) rfl 5 (by decide) (hts _ (wd_1 145 rfl rfl)) (fun _ h9 => h9) rfl d_W_begin_36 ?_
    refine lv_iconst (v := (-1)) hx hb d_W_begin_39 rfl ?_
    refine va_iast hx hb hK.1 hP hD hS (18 + 4 * i + 3) 0 (cw_we hi) rfl (vp_in_nI hg3 (by omega)) d_W_begin_40 (fun H locs hP hD hS => ?_)
    rw [nI_clamp (n := sA_sg A i) (by omega)] at hP hD
    replace hP := vx_P (cw_s_en (X := X) (G := G) (A := (sU_be (sU_ch A (va_up (sA_ch A) i (upd (sA_ch A i) (sA_sg A i) (nI (sA_pl A i))))) (va_up (sA_be A) i (upd (sA_be A i) (sA_sg A i) k)))) (i := i) (k := sA_sg A i) (x := (-1))) hP
    replace hD := vx_D (cw_s_en (X := X) (G := G) (A := (sU_be (sU_ch A (va_up (sA_ch A) i (upd (sA_ch A i) (sA_sg A i) (nI (sA_pl A i))))) (va_up (sA_be A) i (upd (sA_be A i) (sA_sg A i) k)))) (i := i) (k := sA_sg A i) (x := (-1))) hD
    refine lv_aload_n hx hb d_W_begin_41 rfl (lv_at hl 0 rfl) ?_
    refine lv_iload_n hx hb d_W_begin_42 rfl (lv_at hl 1 rfl) ?_
    refine va_put (D := X.1) (ci := 5) (v := .int (nI a)) (ty := .int) (C := R_Wafer) (T := F_Wafer) (N := 10) hx hb hts hin_Wafer t_Wafer t_Wafer_ok n_Wafer hown hK.1 hP hD hS (18 + 4 * i) (cw_w hi) rfl 6 (by decide) (hts _ (wd_1 147 rfl rfl)) (fun _ h9 => h9) rfl (by decide +kernel) rfl rfl (Nat.le_of_ble_eq_true rfl) d_W_begin_43 (fun H locs hP hD hS => ?_)
    replace hP := vx_P (cw_s_lf (X := X) (G := G) (A := (sU_en (sU_be (sU_ch A (va_up (sA_ch A) i (upd (sA_ch A i) (sA_sg A i) (nI (sA_pl A i))))) (va_up (sA_be A) i (upd (sA_be A i) (sA_sg A i) k))) (va_up (sA_en A) i (upd (sA_en A i) (sA_sg A i) (-1))))) (i := i) (v := a)) hP
    replace hD := vx_D (cw_s_lf (X := X) (G := G) (A := (sU_en (sU_be (sU_ch A (va_up (sA_ch A) i (upd (sA_ch A i) (sA_sg A i) (nI (sA_pl A i))))) (va_up (sA_be A) i (upd (sA_be A i) (sA_sg A i) k))) (va_up (sA_en A) i (upd (sA_en A i) (sA_sg A i) (-1))))) (i := i) (v := a)) hD
    refine lv_aload_n hx hb d_W_begin_46 rfl (lv_at hl 0 rfl) ?_
    refine lv_dup hx hb d_W_begin_47 rfl ?_
    refine va_get (D := X.1) (ci := 5) (C := R_Wafer) (T := F_Wafer) (N := 10) hx hb hts hin_Wafer hown hK.1 hP (18 + 4 * i) (cw_w hi) rfl 5 (by decide) (hts _ (wd_1 145 rfl rfl)) (fun _ h9 => h9) rfl d_W_begin_48 ?_
    refine lv_iconst (v := 1) hx hb d_W_begin_51 rfl ?_
    refine lv_iadd hx hb d_W_begin_52 ?_
    rw [nI_1]
    refine va_put (D := X.1) (ci := 5) (v := .int (nI (sA_sg A i + 1))) (ty := .int) (C := R_Wafer) (T := F_Wafer) (N := 10) hx hb hts hin_Wafer t_Wafer t_Wafer_ok n_Wafer hown hK.1 hP hD hS (18 + 4 * i) (cw_w hi) rfl 5 (by decide) (hts _ (wd_1 145 rfl rfl)) (fun _ h9 => h9) rfl (by decide +kernel) rfl rfl (Nat.le_of_ble_eq_true rfl) d_W_begin_53 (fun H locs hP hD hS => ?_)
    replace hP := vx_P (cw_s_sg (X := X) (G := G) (A := (sU_lf (sU_en (sU_be (sU_ch A (va_up (sA_ch A) i (upd (sA_ch A i) (sA_sg A i) (nI (sA_pl A i))))) (va_up (sA_be A) i (upd (sA_be A i) (sA_sg A i) k))) (va_up (sA_en A) i (upd (sA_en A i) (sA_sg A i) (-1)))) (va_up (sA_lf A) i a))) (i := i) (v := (sA_sg A i + 1))) hP
    replace hD := vx_D (cw_s_sg (X := X) (G := G) (A := (sU_lf (sU_en (sU_be (sU_ch A (va_up (sA_ch A) i (upd (sA_ch A i) (sA_sg A i) (nI (sA_pl A i))))) (va_up (sA_be A) i (upd (sA_be A i) (sA_sg A i) k))) (va_up (sA_en A) i (upd (sA_en A i) (sA_sg A i) (-1)))) (va_up (sA_lf A) i a))) (i := i) (v := (sA_sg A i + 1))) hD
    exact W.vret hx hb hrt (fun t ht hW => ⟨⟨(G, (sU_sg (sU_lf (sU_en (sU_be (sU_ch A (va_up (sA_ch A) i (upd (sA_ch A i) (sA_sg A i) (nI (sA_pl A i))))) (va_up (sA_be A) i (upd (sA_be A i) (sA_sg A i) k))) (va_up (sA_en A) i (upd (sA_en A i) (sA_sg A i) (-1)))) (va_up (sA_lf A) i a)) (va_up (sA_sg A) i (sA_sg A i + 1)))), rfl, by rw [g_W_begin, if_neg h5], ⟨by rw [ht]; exact hP, hD⟩⟩, hS.F ht⟩) hS.2.2 d_W_begin_56
abbrev rm_W_spend : Room := { frames := 1, cells := 0, slots := 0, locals := 21 }
def g_W_spend (G : Gc) (A : St) (i : Nat) (a : Nat) (k : Int32) : Gc × St :=
  if (nI (min (sA_lf A i) a)) ≤ 0 then
    ((gU_wt G (va_up (gA_wt G) i ((gA_wt G i) + (nI (a - min (sA_lf A i) a))))), (sU_lf A (va_up (sA_lf A) i (sA_lf A i - min (sA_lf A i) a))))
  else
    if (nI (min (sA_lf A i) a)) = (nI (sA_lf A i)) then
      if (nI (sA_sg A i)) ≤ 0 then
        ((gU_wt G (va_up (gA_wt G) i ((gA_wt G i) + (nI (a - min (sA_lf A i) a))))), (sU_lf A (va_up (sA_lf A) i (sA_lf A i - min (sA_lf A i) a))))
      else
        ((gU_wt G (va_up (gA_wt G) i ((gA_wt G i) + (nI (a - min (sA_lf A i) a))))), (sU_lf (sU_en A (va_up (sA_en A) i (upd (sA_en A i) (sA_sg A i - 1) (k + (nI (min (sA_lf A i) a)))))) (va_up (sA_lf A) i (sA_lf A i - min (sA_lf A i) a))))
    else
      ((gU_wt G (va_up (gA_wt G) i ((gA_wt G i) + (nI (a - min (sA_lf A i) a))))), (sU_lf A (va_up (sA_lf A) i (sA_lf A i - min (sA_lf A i) a))))
set_option maxRecDepth 20000 in
set_option maxHeartbeats 4000000 in
theorem c_W_spend (l : Launch) (X : Xt) (G : Gc) (A : St) (Af : Nat → Prop) (i : Nat) (hi : i < sA_n A) (a : Nat) (k : Int32) (hg : sA_sg A i ≤ 3) (hf : sA_lf A i ≤ 100) (ha : a ≤ 200) : Met l y_W_spend (Cond.code y_W_spend b_W_spend 4 none :: WA) rm_W_spend (va_Pc [.ref (gA_ad G (18 + 4 * i)), .int (nI a), .int k] (fun U => PW X Af G A U.heap ∧ KK X U)) (va_Qv (fun u => u = g_W_spend G A i a k) (atC X Af) Af) 0 0 Af := by
  refine vx_met (cc := b_W_spend) (maxL := 4) (ret := none) (by decide) rfl (Nat.le_of_ble_eq_true rfl) ?_
  intro p e s m below meth c ls hx hb hrt hts hown hlocks hname hml hB hl
  obtain ⟨hP, hK⟩ := hB
  have hown : s.vm.findClass R_Wafer = some m.cls := hown
  have hl : lv_has ls 4 [(0, .ref (gA_ad G (18 + 4 * i))), (1, .int (nI a)), (2, .int k)] := hl
  have hD : va_D Af (cw X G A) := hP.2
  have hP : va_P X.1 classes (cw X G A) s.heap := hP.1
  have hS : va_S Af s.heap s.heap [] := va_S.rf
  refine lv_aload_n hx hb d_W_spend_0 rfl (lv_at hl 0 rfl) ?_
  refine va_get (D := X.1) (ci := 5) (C := R_Wafer) (T := F_Wafer) (N := 10) hx hb hts hin_Wafer hown hK.1 hP (18 + 4 * i) (cw_w hi) rfl 6 (by decide) (hts _ (wd_1 147 rfl rfl)) (fun _ h9 => h9) rfl d_W_spend_1 ?_
  refine lv_iload_n hx hb d_W_spend_4 rfl (lv_at hl 1 rfl) ?_
  refine va_mmin hx hb (hml.trans hl.1.symm) hown (hts _ (wd_2 83 rfl rfl)) (hts _ (wd_2 84 rfl rfl)) (hts _ (wd_1 9 rfl rfl)) (hts _ (wd_2 85 rfl rfl)) (Nat.le_of_ble_eq_true rfl) (Nat.le_of_ble_eq_true rfl) (Nat.zero_le _) (Nat.zero_le _) d_W_spend_5 ?_
  rw [mmin_nI (a := sA_lf A i) (b := a) (by omega) (by omega)]
  refine lv_istore_n (lv' := [(3, .int (nI (min (sA_lf A i) a))), (0, .ref (gA_ad G (18 + 4 * i))), (1, .int (nI a)), (2, .int k)]) hx hb d_W_spend_8 rfl hl (by decide) rfl (fun ls hl => ?_)
  refine lv_iload_n hx hb d_W_spend_9 rfl (lv_at hl 0 rfl) ?_
  refine lv_if_le (tgt := 42) hx hb d_W_spend_10 rfl (fun h10 => ?_) (fun h10 => ?_)
  ·
    refine lv_aload_n hx hb d_W_spend_42 rfl (lv_at hl 1 rfl) ?_
    refine lv_dup hx hb d_W_spend_43 rfl ?_
    refine va_get (D := X.1) (ci := 5) (C := R_Wafer) (T := F_Wafer) (N := 10) hx hb hts hin_Wafer hown hK.1 hP (18 + 4 * i) (cw_w hi) rfl 6 (by decide) (hts _ (wd_1 147 rfl rfl)) (fun _ h9 => h9) rfl d_W_spend_44 ?_
    refine lv_iload_n hx hb d_W_spend_47 rfl (lv_at hl 0 rfl) ?_
    refine lv_isub hx hb d_W_spend_48 ?_
    rw [pk_sub (Nat.min_le_left _ _)]
    refine va_put (D := X.1) (ci := 5) (v := .int (nI (sA_lf A i - min (sA_lf A i) a))) (ty := .int) (C := R_Wafer) (T := F_Wafer) (N := 10) hx hb hts hin_Wafer t_Wafer t_Wafer_ok n_Wafer hown hK.1 hP hD hS (18 + 4 * i) (cw_w hi) rfl 6 (by decide) (hts _ (wd_1 147 rfl rfl)) (fun _ h9 => h9) rfl (by decide +kernel) rfl rfl (Nat.le_of_ble_eq_true rfl) d_W_spend_49 (fun H locs hP hD hS => ?_)
    replace hP := vx_P (cw_s_lf (X := X) (G := G) (A := A) (i := i) (v := (sA_lf A i - min (sA_lf A i) a))) hP
    replace hD := vx_D (cw_s_lf (X := X) (G := G) (A := A) (i := i) (v := (sA_lf A i - min (sA_lf A i) a))) hD
    refine lv_aload_n hx hb d_W_spend_52 rfl (lv_at hl 1 rfl) ?_
    refine lv_dup hx hb d_W_spend_53 rfl ?_
    refine va_get (D := X.1) (ci := 5) (C := R_Wafer) (T := F_Wafer) (N := 10) hx hb hts hin_Wafer hown hK.1 hP (18 + 4 * i) (cw_w hi) rfl 7 (by decide) (hts _ (wd_1 149 rfl rfl)) (fun _ h9 => h9) rfl d_W_spend_54 ?_
    refine lv_iload_n hx hb d_W_spend_57 rfl (lv_at hl 2 rfl) ?_
    refine lv_iload_n hx hb d_W_spend_58 rfl (lv_at hl 0 rfl) ?_
    refine lv_isub hx hb d_W_spend_59 ?_
    rw [pk_sub (a := a) (Nat.min_le_right _ _)]
    refine lv_iadd hx hb d_W_spend_60 ?_
    refine va_put (D := X.1) (ci := 5) (v := .int ((gA_wt G i) + (nI (a - min (sA_lf A i) a)))) (ty := .int) (C := R_Wafer) (T := F_Wafer) (N := 10) hx hb hts hin_Wafer t_Wafer t_Wafer_ok n_Wafer hown hK.1 hP hD hS (18 + 4 * i) (cw_w hi) rfl 7 (by decide) (hts _ (wd_1 149 rfl rfl)) (fun _ h9 => h9) rfl (by decide +kernel) rfl rfl (Nat.le_of_ble_eq_true rfl) d_W_spend_61 (fun H locs hP hD hS => ?_)
    replace hP := vx_P (cw_s_wt (X := X) (G := G) (A := (sU_lf A (va_up (sA_lf A) i (sA_lf A i - min (sA_lf A i) a)))) (i := i) (v := ((gA_wt G i) + (nI (a - min (sA_lf A i) a))))) hP
    replace hD := vx_D (cw_s_wt (X := X) (G := G) (A := (sU_lf A (va_up (sA_lf A) i (sA_lf A i - min (sA_lf A i) a)))) (i := i) (v := ((gA_wt G i) + (nI (a - min (sA_lf A i) a))))) hD
    exact W.vret hx hb hrt (fun t ht hW => ⟨⟨((gU_wt G (va_up (gA_wt G) i ((gA_wt G i) + (nI (a - min (sA_lf A i) a))))), (sU_lf A (va_up (sA_lf A) i (sA_lf A i - min (sA_lf A i) a)))), rfl, by rw [g_W_spend, if_pos h10], ⟨by rw [ht]; exact hP, hD⟩⟩, hS.F ht⟩) hS.2.2 d_W_spend_64
  ·
    refine lv_iload_n hx hb d_W_spend_13 rfl (lv_at hl 0 rfl) ?_
    refine lv_aload_n hx hb d_W_spend_14 rfl (lv_at hl 1 rfl) ?_
    refine va_get (D := X.1) (ci := 5) (C := R_Wafer) (T := F_Wafer) (N := 10) hx hb hts hin_Wafer hown hK.1 hP (18 + 4 * i) (cw_w hi) rfl 6 (by decide) (hts _ (wd_1 147 rfl rfl)) (fun _ h9 => h9) rfl d_W_spend_15 ?_
    refine lv_icmp_ne (tgt := 42) hx hb d_W_spend_18 rfl (fun h18 => ?_) (fun h18 => ?_)
    ·
      refine lv_aload_n hx hb d_W_spend_42 rfl (lv_at hl 1 rfl) ?_
      refine lv_dup hx hb d_W_spend_43 rfl ?_
      refine va_get (D := X.1) (ci := 5) (C := R_Wafer) (T := F_Wafer) (N := 10) hx hb hts hin_Wafer hown hK.1 hP (18 + 4 * i) (cw_w hi) rfl 6 (by decide) (hts _ (wd_1 147 rfl rfl)) (fun _ h9 => h9) rfl d_W_spend_44 ?_
      refine lv_iload_n hx hb d_W_spend_47 rfl (lv_at hl 0 rfl) ?_
      refine lv_isub hx hb d_W_spend_48 ?_
      rw [pk_sub (Nat.min_le_left _ _)]
      refine va_put (D := X.1) (ci := 5) (v := .int (nI (sA_lf A i - min (sA_lf A i) a))) (ty := .int) (C := R_Wafer) (T := F_Wafer) (N := 10) hx hb hts hin_Wafer t_Wafer t_Wafer_ok n_Wafer hown hK.1 hP hD hS (18 + 4 * i) (cw_w hi) rfl 6 (by decide) (hts _ (wd_1 147 rfl rfl)) (fun _ h9 => h9) rfl (by decide +kernel) rfl rfl (Nat.le_of_ble_eq_true rfl) d_W_spend_49 (fun H locs hP hD hS => ?_)
      replace hP := vx_P (cw_s_lf (X := X) (G := G) (A := A) (i := i) (v := (sA_lf A i - min (sA_lf A i) a))) hP
      replace hD := vx_D (cw_s_lf (X := X) (G := G) (A := A) (i := i) (v := (sA_lf A i - min (sA_lf A i) a))) hD
      refine lv_aload_n hx hb d_W_spend_52 rfl (lv_at hl 1 rfl) ?_
      refine lv_dup hx hb d_W_spend_53 rfl ?_
      refine va_get (D := X.1) (ci := 5) (C := R_Wafer) (T := F_Wafer) (N := 10) hx hb hts hin_Wafer hown hK.1 hP (18 + 4 * i) (cw_w hi) rfl 7 (by decide) (hts _ (wd_1 149 rfl rfl)) (fun _ h9 => h9) rfl d_W_spend_54 ?_
      refine lv_iload_n hx hb d_W_spend_57 rfl (lv_at hl 2 rfl) ?_
      refine lv_iload_n hx hb d_W_spend_58 rfl (lv_at hl 0 rfl) ?_
      refine lv_isub hx hb d_W_spend_59 ?_
      rw [pk_sub (a := a) (Nat.min_le_right _ _)]
      refine lv_iadd hx hb d_W_spend_60 ?_
      refine va_put (D := X.1) (ci := 5) (v := .int ((gA_wt G i) + (nI (a - min (sA_lf A i) a)))) (ty := .int) (C := R_Wafer) (T := F_Wafer) (N := 10) hx hb hts hin_Wafer t_Wafer t_Wafer_ok n_Wafer hown hK.1 hP hD hS (18 + 4 * i) (cw_w hi) rfl 7 (by decide) (hts _ (wd_1 149 rfl rfl)) (fun _ h9 => h9) rfl (by decide +kernel) rfl rfl (Nat.le_of_ble_eq_true rfl) d_W_spend_61 (fun H locs hP hD hS => ?_)
      replace hP := vx_P (cw_s_wt (X := X) (G := G) (A := (sU_lf A (va_up (sA_lf A) i (sA_lf A i - min (sA_lf A i) a)))) (i := i) (v := ((gA_wt G i) + (nI (a - min (sA_lf A i) a))))) hP
      replace hD := vx_D (cw_s_wt (X := X) (G := G) (A := (sU_lf A (va_up (sA_lf A) i (sA_lf A i - min (sA_lf A i) a)))) (i := i) (v := ((gA_wt G i) + (nI (a - min (sA_lf A i) a))))) hD
      exact W.vret hx hb hrt (fun t ht hW => ⟨⟨((gU_wt G (va_up (gA_wt G) i ((gA_wt G i) + (nI (a - min (sA_lf A i) a))))), (sU_lf A (va_up (sA_lf A) i (sA_lf A i - min (sA_lf A i) a)))), rfl, by rw [g_W_spend, if_neg h10, if_neg h18], ⟨by rw [ht]; exact hP, hD⟩⟩, hS.F ht⟩) hS.2.2 d_W_spend_64
    ·
      refine lv_aload_n hx hb d_W_spend_21 rfl (lv_at hl 1 rfl) ?_
      refine va_get (D := X.1) (ci := 5) (C := R_Wafer) (T := F_Wafer) (N := 10) hx hb hts hin_Wafer hown hK.1 hP (18 + 4 * i) (cw_w hi) rfl 5 (by decide) (hts _ (wd_1 145 rfl rfl)) (fun _ h9 => h9) rfl d_W_spend_22 ?_
      refine lv_if_le (tgt := 42) hx hb d_W_spend_25 rfl (fun h25 => ?_) (fun h25 => ?_)
      ·
        refine lv_aload_n hx hb d_W_spend_42 rfl (lv_at hl 1 rfl) ?_
        refine lv_dup hx hb d_W_spend_43 rfl ?_
        refine va_get (D := X.1) (ci := 5) (C := R_Wafer) (T := F_Wafer) (N := 10) hx hb hts hin_Wafer hown hK.1 hP (18 + 4 * i) (cw_w hi) rfl 6 (by decide) (hts _ (wd_1 147 rfl rfl)) (fun _ h9 => h9) rfl d_W_spend_44 ?_
        refine lv_iload_n hx hb d_W_spend_47 rfl (lv_at hl 0 rfl) ?_
        refine lv_isub hx hb d_W_spend_48 ?_
        rw [pk_sub (Nat.min_le_left _ _)]
        refine va_put (D := X.1) (ci := 5) (v := .int (nI (sA_lf A i - min (sA_lf A i) a))) (ty := .int) (C := R_Wafer) (T := F_Wafer) (N := 10) hx hb hts hin_Wafer t_Wafer t_Wafer_ok n_Wafer hown hK.1 hP hD hS (18 + 4 * i) (cw_w hi) rfl 6 (by decide) (hts _ (wd_1 147 rfl rfl)) (fun _ h9 => h9) rfl (by decide +kernel) rfl rfl (Nat.le_of_ble_eq_true rfl) d_W_spend_49 (fun H locs hP hD hS => ?_)
        replace hP := vx_P (cw_s_lf (X := X) (G := G) (A := A) (i := i) (v := (sA_lf A i - min (sA_lf A i) a))) hP
        replace hD := vx_D (cw_s_lf (X := X) (G := G) (A := A) (i := i) (v := (sA_lf A i - min (sA_lf A i) a))) hD
        refine lv_aload_n hx hb d_W_spend_52 rfl (lv_at hl 1 rfl) ?_
        refine lv_dup hx hb d_W_spend_53 rfl ?_
        refine va_get (D := X.1) (ci := 5) (C := R_Wafer) (T := F_Wafer) (N := 10) hx hb hts hin_Wafer hown hK.1 hP (18 + 4 * i) (cw_w hi) rfl 7 (by decide) (hts _ (wd_1 149 rfl rfl)) (fun _ h9 => h9) rfl d_W_spend_54 ?_
        refine lv_iload_n hx hb d_W_spend_57 rfl (lv_at hl 2 rfl) ?_
        refine lv_iload_n hx hb d_W_spend_58 rfl (lv_at hl 0 rfl) ?_
        refine lv_isub hx hb d_W_spend_59 ?_
        rw [pk_sub (a := a) (Nat.min_le_right _ _)]
        refine lv_iadd hx hb d_W_spend_60 ?_
        refine va_put (D := X.1) (ci := 5) (v := .int ((gA_wt G i) + (nI (a - min (sA_lf A i) a)))) (ty := .int) (C := R_Wafer) (T := F_Wafer) (N := 10) hx hb hts hin_Wafer t_Wafer t_Wafer_ok n_Wafer hown hK.1 hP hD hS (18 + 4 * i) (cw_w hi) rfl 7 (by decide) (hts _ (wd_1 149 rfl rfl)) (fun _ h9 => h9) rfl (by decide +kernel) rfl rfl (Nat.le_of_ble_eq_true rfl) d_W_spend_61 (fun H locs hP hD hS => ?_)
        replace hP := vx_P (cw_s_wt (X := X) (G := G) (A := (sU_lf A (va_up (sA_lf A) i (sA_lf A i - min (sA_lf A i) a)))) (i := i) (v := ((gA_wt G i) + (nI (a - min (sA_lf A i) a))))) hP
        replace hD := vx_D (cw_s_wt (X := X) (G := G) (A := (sU_lf A (va_up (sA_lf A) i (sA_lf A i - min (sA_lf A i) a)))) (i := i) (v := ((gA_wt G i) + (nI (a - min (sA_lf A i) a))))) hD
        exact W.vret hx hb hrt (fun t ht hW => ⟨⟨((gU_wt G (va_up (gA_wt G) i ((gA_wt G i) + (nI (a - min (sA_lf A i) a))))), (sU_lf A (va_up (sA_lf A) i (sA_lf A i - min (sA_lf A i) a)))), rfl, by rw [g_W_spend, if_neg h10, if_pos h18, if_pos h25], ⟨by rw [ht]; exact hP, hD⟩⟩, hS.F ht⟩) hS.2.2 d_W_spend_64
      ·
        refine lv_aload_n hx hb d_W_spend_28 rfl (lv_at hl 1 rfl) ?_
        refine va_get (D := X.1) (ci := 5) (C := R_Wafer) (T := F_Wafer) (N := 10) hx hb hts hin_Wafer hown hK.1 hP (18 + 4 * i) (cw_w hi) rfl 3 (by decide) (hts _ (wd_1 141 rfl rfl)) (fun _ h9 => h9) rfl d_W_spend_29 ?_
        refine lv_aload_n hx hb d_W_spend_32 rfl (lv_at hl 1 rfl) ?_
        refine va_get (D := X.1) (ci := 5) (C := R_Wafer) (T := F_Wafer) (N := 10) hx hb hts hin_Wafer hown hK.1 hP (18 + 4 * i) (cw_w hi) rfl 5 (by decide) (hts _ (wd_1 145 rfl rfl)) (fun _ h9 => h9) rfl d_W_spend_33 ?_
        refine lv_iconst (v := 1) hx hb d_W_spend_36 rfl ?_
        refine lv_isub hx hb d_W_spend_37 ?_
        have hg1 : 1 ≤ sA_sg A i := pos_of_nle h25
        rw [nI_s1 hg1]
        refine lv_iload_n hx hb d_W_spend_38 rfl (lv_at hl 3 rfl) ?_
        refine lv_iload_n hx hb d_W_spend_39 rfl (lv_at hl 0 rfl) ?_
        refine lv_iadd hx hb d_W_spend_40 ?_
        refine va_iast hx hb hK.1 hP hD hS (18 + 4 * i + 3) 0 (cw_we hi) rfl (vp_in_nI (n := sA_sg A i - 1) (by omega) (by omega)) d_W_spend_41 (fun H locs hP hD hS => ?_)
        rw [nI_clamp (n := sA_sg A i - 1) (by omega)] at hP hD
        replace hP := vx_P (cw_s_en (X := X) (G := G) (A := A) (i := i) (k := sA_sg A i - 1) (x := (k + (nI (min (sA_lf A i) a))))) hP
        replace hD := vx_D (cw_s_en (X := X) (G := G) (A := A) (i := i) (k := sA_sg A i - 1) (x := (k + (nI (min (sA_lf A i) a))))) hD
        refine lv_aload_n hx hb d_W_spend_42 rfl (lv_at hl 1 rfl) ?_
        refine lv_dup hx hb d_W_spend_43 rfl ?_
        refine va_get (D := X.1) (ci := 5) (C := R_Wafer) (T := F_Wafer) (N := 10) hx hb hts hin_Wafer hown hK.1 hP (18 + 4 * i) (cw_w hi) rfl 6 (by decide) (hts _ (wd_1 147 rfl rfl)) (fun _ h9 => h9) rfl d_W_spend_44 ?_
        refine lv_iload_n hx hb d_W_spend_47 rfl (lv_at hl 0 rfl) ?_
        refine lv_isub hx hb d_W_spend_48 ?_
        rw [pk_sub (Nat.min_le_left _ _)]
        refine va_put (D := X.1) (ci := 5) (v := .int (nI (sA_lf A i - min (sA_lf A i) a))) (ty := .int) (C := R_Wafer) (T := F_Wafer) (N := 10) hx hb hts hin_Wafer t_Wafer t_Wafer_ok n_Wafer hown hK.1 hP hD hS (18 + 4 * i) (cw_w hi) rfl 6 (by decide) (hts _ (wd_1 147 rfl rfl)) (fun _ h9 => h9) rfl (by decide +kernel) rfl rfl (Nat.le_of_ble_eq_true rfl) d_W_spend_49 (fun H locs hP hD hS => ?_)
        replace hP := vx_P (cw_s_lf (X := X) (G := G) (A := (sU_en A (va_up (sA_en A) i (upd (sA_en A i) (sA_sg A i - 1) (k + (nI (min (sA_lf A i) a))))))) (i := i) (v := (sA_lf A i - min (sA_lf A i) a))) hP
        replace hD := vx_D (cw_s_lf (X := X) (G := G) (A := (sU_en A (va_up (sA_en A) i (upd (sA_en A i) (sA_sg A i - 1) (k + (nI (min (sA_lf A i) a))))))) (i := i) (v := (sA_lf A i - min (sA_lf A i) a))) hD
        refine lv_aload_n hx hb d_W_spend_52 rfl (lv_at hl 1 rfl) ?_
        refine lv_dup hx hb d_W_spend_53 rfl ?_
        refine va_get (D := X.1) (ci := 5) (C := R_Wafer) (T := F_Wafer) (N := 10) hx hb hts hin_Wafer hown hK.1 hP (18 + 4 * i) (cw_w hi) rfl 7 (by decide) (hts _ (wd_1 149 rfl rfl)) (fun _ h9 => h9) rfl d_W_spend_54 ?_
        refine lv_iload_n hx hb d_W_spend_57 rfl (lv_at hl 2 rfl) ?_
        refine lv_iload_n hx hb d_W_spend_58 rfl (lv_at hl 0 rfl) ?_
        refine lv_isub hx hb d_W_spend_59 ?_
        rw [pk_sub (a := a) (Nat.min_le_right _ _)]
        refine lv_iadd hx hb d_W_spend_60 ?_
        refine va_put (D := X.1) (ci := 5) (v := .int ((gA_wt G i) + (nI (a - min (sA_lf A i) a)))) (ty := .int) (C := R_Wafer) (T := F_Wafer) (N := 10) hx hb hts hin_Wafer t_Wafer t_Wafer_ok n_Wafer hown hK.1 hP hD hS (18 + 4 * i) (cw_w hi) rfl 7 (by decide) (hts _ (wd_1 149 rfl rfl)) (fun _ h9 => h9) rfl (by decide +kernel) rfl rfl (Nat.le_of_ble_eq_true rfl) d_W_spend_61 (fun H locs hP hD hS => ?_)
        replace hP := vx_P (cw_s_wt (X := X) (G := G) (A := (sU_lf (sU_en A (va_up (sA_en A) i (upd (sA_en A i) (sA_sg A i - 1) (k + (nI (min (sA_lf A i) a)))))) (va_up (sA_lf A) i (sA_lf A i - min (sA_lf A i) a)))) (i := i) (v := ((gA_wt G i) + (nI (a - min (sA_lf A i) a))))) hP
        replace hD := vx_D (cw_s_wt (X := X) (G := G) (A := (sU_lf (sU_en A (va_up (sA_en A) i (upd (sA_en A i) (sA_sg A i - 1) (k + (nI (min (sA_lf A i) a)))))) (va_up (sA_lf A) i (sA_lf A i - min (sA_lf A i) a)))) (i := i) (v := ((gA_wt G i) + (nI (a - min (sA_lf A i) a))))) hD
        exact W.vret hx hb hrt (fun t ht hW => ⟨⟨((gU_wt G (va_up (gA_wt G) i ((gA_wt G i) + (nI (a - min (sA_lf A i) a))))), (sU_lf (sU_en A (va_up (sA_en A) i (upd (sA_en A i) (sA_sg A i - 1) (k + (nI (min (sA_lf A i) a)))))) (va_up (sA_lf A) i (sA_lf A i - min (sA_lf A i) a)))), rfl, by rw [g_W_spend, if_neg h10, if_pos h18, if_neg h25], ⟨by rw [ht]; exact hP, hD⟩⟩, hS.F ht⟩) hS.2.2 d_W_spend_64
abbrev rm_W_turnsLate : Room := { frames := 0, cells := 0, slots := 0, locals := 0 }
def f_W_turnsLate (G : Gc) (A : St) (i : Nat) (x : Int32) : Bool :=
  if (sA_la A i) then
    false
  else
    if x = 0 then
      false
    else
      if x < (gA_wt G i) then
        true
      else
        false
def g_W_turnsLate (G : Gc) (A : St) (i : Nat) (x : Int32) : Gc × St :=
  if (sA_la A i) then
    (G, A)
  else
    if x = 0 then
      (G, A)
    else
      if x < (gA_wt G i) then
        (G, (sU_la A (va_up (sA_la A) i true)))
      else
        (G, A)
set_option maxRecDepth 20000 in
set_option maxHeartbeats 4000000 in
theorem c_W_turnsLate (l : Launch) (X : Xt) (G : Gc) (A : St) (Af : Nat → Prop) (i : Nat) (hi : i < sA_n A) (x : Int32) : Met l y_W_turnsLate (Cond.code y_W_turnsLate b_W_turnsLate 2 (some .boolean) :: WA) rm_W_turnsLate (va_Pc [.ref (gA_ad G (18 + 4 * i)), .int x] (fun U => PW X Af G A U.heap ∧ KK X U)) (va_Qi (fun ans u => ans = b2i (f_W_turnsLate G A i x) ∧ u = g_W_turnsLate G A i x) (atC X Af) Af) 0 0 Af := by
  refine vx_met (cc := b_W_turnsLate) (maxL := 2) (ret := (some .boolean)) (by decide) rfl (Nat.le_of_ble_eq_true rfl) ?_
  intro p e s m below meth c ls hx hb hrt hts hown hlocks hname hml hB hl
  obtain ⟨hP, hK⟩ := hB
  have hown : s.vm.findClass R_Wafer = some m.cls := hown
  have hl : lv_has ls 2 [(0, .ref (gA_ad G (18 + 4 * i))), (1, .int x)] := hl
  have hD : va_D Af (cw X G A) := hP.2
  have hP : va_P X.1 classes (cw X G A) s.heap := hP.1
  have hS : va_S Af s.heap s.heap [] := va_S.rf
  refine lv_aload_n hx hb d_W_turnsLate_0 rfl (lv_at hl 0 rfl) ?_
  refine va_get (D := X.1) (ci := 5) (C := R_Wafer) (T := F_Wafer) (N := 10) hx hb hts hin_Wafer hown hK.1 hP (18 + 4 * i) (cw_w hi) rfl 9 (by decide) (hts _ (wd_1 153 rfl rfl)) (fun _ h9 => h9) rfl d_W_turnsLate_1 ?_
  refine lv_if_ne (tgt := 19) hx hb d_W_turnsLate_4 rfl (fun h4 => ?_) (fun h4 => ?_)
  ·
    have h4 := b2i_t h4
    refine lv_iconst (v := 0) hx hb d_W_turnsLate_19 rfl ?_
    exact W.zret (v := b2i false) hx hb hrt (b2i_nar _) (fun t ht hW => ⟨⟨_, (G, A), rfl, ⟨by rw [f_W_turnsLate, if_pos h4], by rw [g_W_turnsLate, if_pos h4]⟩, ⟨by rw [ht]; exact hP, hD⟩⟩, hS.F ht⟩) hS.2.2 d_W_turnsLate_20
  ·
    have h4 := b2i_f h4
    refine lv_iload_n hx hb d_W_turnsLate_7 rfl (lv_at hl 1 rfl) ?_
    refine lv_if_eq (tgt := 19) hx hb d_W_turnsLate_8 rfl (fun h8 => ?_) (fun h8 => ?_)
    ·
      refine lv_iconst (v := 0) hx hb d_W_turnsLate_19 rfl ?_
      exact W.zret (v := b2i false) hx hb hrt (b2i_nar _) (fun t ht hW => ⟨⟨_, (G, A), rfl, ⟨by rw [f_W_turnsLate, if_neg (nt_of h4), if_pos h8], by rw [g_W_turnsLate, if_neg (nt_of h4), if_pos h8]⟩, ⟨by rw [ht]; exact hP, hD⟩⟩, hS.F ht⟩) hS.2.2 d_W_turnsLate_20
    ·
      refine lv_aload_n hx hb d_W_turnsLate_11 rfl (lv_at hl 0 rfl) ?_
      refine va_get (D := X.1) (ci := 5) (C := R_Wafer) (T := F_Wafer) (N := 10) hx hb hts hin_Wafer hown hK.1 hP (18 + 4 * i) (cw_w hi) rfl 7 (by decide) (hts _ (wd_1 149 rfl rfl)) (fun _ h9 => h9) rfl d_W_turnsLate_12 ?_
      refine lv_iload_n hx hb d_W_turnsLate_15 rfl (lv_at hl 1 rfl) ?_
      refine lv_icmp_gt (tgt := 21) hx hb d_W_turnsLate_16 rfl (fun h16 => ?_) (fun h16 => ?_)
      ·
        refine lv_aload_n hx hb d_W_turnsLate_21 rfl (lv_at hl 0 rfl) ?_
        refine lv_iconst (v := 1) hx hb d_W_turnsLate_22 rfl ?_
        refine va_put (D := X.1) (ci := 5) (v := .int (b2i true)) (ty := .boolean) (C := R_Wafer) (T := F_Wafer) (N := 10) hx hb hts hin_Wafer t_Wafer t_Wafer_ok n_Wafer hown hK.1 hP hD hS (18 + 4 * i) (cw_w hi) rfl 9 (by decide) (hts _ (wd_1 153 rfl rfl)) (fun _ h9 => h9) rfl (by decide +kernel) (b2i_nar _) (b2i_fit _) (Nat.le_of_ble_eq_true rfl) d_W_turnsLate_23 (fun H locs hP hD hS => ?_)
        replace hP := vx_P (cw_s_la (X := X) (G := G) (A := A) (i := i) (v := true)) hP
        replace hD := vx_D (cw_s_la (X := X) (G := G) (A := A) (i := i) (v := true)) hD
        refine lv_iconst (v := 1) hx hb d_W_turnsLate_26 rfl ?_
        exact W.zret (v := b2i true) hx hb hrt (b2i_nar _) (fun t ht hW => ⟨⟨_, (G, (sU_la A (va_up (sA_la A) i true))), rfl, ⟨by rw [f_W_turnsLate, if_neg (nt_of h4), if_neg h8, if_pos h16], by rw [g_W_turnsLate, if_neg (nt_of h4), if_neg h8, if_pos h16]⟩, ⟨by rw [ht]; exact hP, hD⟩⟩, hS.F ht⟩) hS.2.2 d_W_turnsLate_27
      ·
        refine lv_iconst (v := 0) hx hb d_W_turnsLate_19 rfl ?_
        exact W.zret (v := b2i false) hx hb hrt (b2i_nar _) (fun t ht hW => ⟨⟨_, (G, A), rfl, ⟨by rw [f_W_turnsLate, if_neg (nt_of h4), if_neg h8, if_neg h16], by rw [g_W_turnsLate, if_neg (nt_of h4), if_neg h8, if_neg h16]⟩, ⟨by rw [ht]; exact hP, hD⟩⟩, hS.F ht⟩) hS.2.2 d_W_turnsLate_20
end
section
abbrev rm_J_fill_kn : Room := { frames := 0, cells := 0, slots := 0, locals := 0 }
set_option maxRecDepth 20000 in
set_option maxHeartbeats 4000000 in
theorem lp_J_fill_kn {p : Program} {l : Launch} {e : Env} {s : State} {m : MethodId} {args : Array Value} {below : List Frame} {meth : Method} {c : Code} {Q : State → Prop} {X : Xt} {G : Gc} {A : St} {Af : Nat → Prop} {v : Int64} (hx : p.tables.exec = Jvm.exec) (hb : c.code = b_J_fill) (hts : ∀ w ∈ Cond.code y_J_fill b_J_fill 5 none :: WA, w.before args s = true) (hown : s.vm.findClass R_Arrays = some m.cls) (hml : c.maxLocals = 5) (hK : KK X s)
    (kont : ∀ (f : Nat → Int64) (H : Heap) (locs : List Loc) (ls : Array Slot), (∀ j, j < 1024 → f j = v) → va_P X.1 classes (cw X (gU_kn G f) A) H → va_D Af (cw X (gU_kn G f) A) → va_S Af s.heap H locs → W p l e rm_J_fill_kn s m args below meth c H locs 0 0 Q (F0 m 22 ls [])) :
    ∀ (r i : Nat) (f : Nat → Int64) (H : Heap) (locs : List Loc) (ls : Array Slot), i + r = 1024 → (∀ j, j < i → f j = v) → va_P X.1 classes (cw X (gU_kn G f) A) H → va_D Af (cw X (gU_kn G f) A) → va_S Af s.heap H locs → lv_has ls 5 [(3, .int (nI i)), (4, .int 1024), (0, .ref (gA_ad G 16)), (1, .long v)] → W p l e rm_J_fill_kn s m args below meth c H locs 0 0 Q (F0 m 6 ls []) := by
  intro r
  induction r with
  | zero =>
    intro i f H locs ls hi hf hP hD hS hl
    have hi : i = 1024 := by omega
    refine lv_iload_n hx hb d_J_fill_6 rfl (lv_at hl 0 rfl) ?_
    refine lv_iload hx hb d_J_fill_7 (lv_at hl 1 rfl) ?_
    refine lv_icmp_ge (tgt := 22) hx hb d_J_fill_9 rfl (fun h9 => ?_) (fun h9 => ?_)
    ·
      exact kont f H locs ls (fun j hj => hf j (by omega)) hP hD hS
    ·
      exact absurd (by rw [hi]; decide) h9
  | succ r ih =>
    intro i f H locs ls hi hf hP hD hS hl
    refine lv_iload_n hx hb d_J_fill_6 rfl (lv_at hl 0 rfl) ?_
    refine lv_iload hx hb d_J_fill_7 (lv_at hl 1 rfl) ?_
    refine lv_icmp_ge (tgt := 22) hx hb d_J_fill_9 rfl (fun h9 => ?_) (fun h9 => ?_)
    ·
      exact absurd h9 (nI_ge (a := i) (b := 1024) (by omega) (by omega))
    ·
      refine lv_aload_n hx hb d_J_fill_12 rfl (lv_at hl 2 rfl) ?_
      refine lv_iload_n hx hb d_J_fill_13 rfl (lv_at hl 0 rfl) ?_
      refine lv_lload_n hx hb d_J_fill_14 rfl (lv_at hl 3 rfl) ?_
      refine va_last hx hb hK.1 hP hD hS 16 1 cw_16 rfl (vp_in_nI (n := i) (by omega) (by omega)) d_J_fill_15 (fun H locs hP hD hS => ?_)
      rw [nI_clamp (n := i) (by omega)] at hP hD
      replace hP := vx_P (cw_s_kn (X := X) (G := (gU_kn G f)) (A := A) (k := i) (v := v)) hP
      replace hD := vx_D (cw_s_kn (X := X) (G := (gU_kn G f)) (A := A) (k := i) (v := v)) hD
      refine lv_iinc (k := 0) (v := (nI i + 1)) (lv' := [(3, .int (nI i + 1)), (4, .int 1024), (0, .ref (gA_ad G 16)), (1, .long v)]) hx hb d_J_fill_16 hl rfl rfl (by decide) rfl (fun ls hl => ?_)
      refine lv_goto (tgt := 6) hx hb d_J_fill_19 rfl ?_
      refine ih (i + 1) (vp_updL f i v) H locs ls (by omega) (fun j hj => ?_) hP hD hS (by rw [← nI_1]; exact lv_sub hl [0, 1, 2, 3] rfl)
      by_cases e1 : j = i
      · rw [e1]; exact pk_uLs
      · rw [pk_uLn e1]; exact hf j (by omega)
set_option maxRecDepth 20000 in
set_option maxHeartbeats 4000000 in
theorem c_J_fill_kn (l : Launch) (X : Xt) (G : Gc) (A : St) (Af : Nat → Prop) (v : Int64) : Met l y_J_fill (Cond.code y_J_fill b_J_fill 5 none :: WA) rm_J_fill_kn (va_Pc [.ref (gA_ad G 16), .long v] (fun U => PW X Af G A U.heap ∧ KK X U)) (va_Qv (fun u => ∃ f : Nat → Int64, (∀ j, j < 1024 → f j = v) ∧ u = (gU_kn G f, A)) (atC X Af) Af) 0 0 Af := by
  refine vx_met (cc := b_J_fill) (maxL := 5) (ret := none) (by decide) rfl (Nat.le_of_ble_eq_true rfl) ?_
  intro p e s m below meth c ls hx hb hrt hts hown hlocks hname hml hB hl
  obtain ⟨hP, hK⟩ := hB
  have hown : s.vm.findClass R_Arrays = some m.cls := hown
  have hl : lv_has ls 5 [(0, .ref (gA_ad G 16)), (1, .long v)] := hl
  have hD : va_D Af (cw X G A) := hP.2
  have hP : va_P X.1 classes (cw X G A) s.heap := hP.1
  have hS : va_S Af s.heap s.heap [] := va_S.rf
  refine lv_iconst (v := 0) hx hb d_J_fill_0 rfl ?_
  refine lv_istore_n (lv' := [(3, .int 0), (0, .ref (gA_ad G 16)), (1, .long v)]) hx hb d_J_fill_1 rfl hl (by decide) rfl (fun ls hl => ?_)
  refine lv_aload_n hx hb d_J_fill_2 rfl (lv_at hl 1 rfl) ?_
  refine va_alen (v := 1024) hx hb hK.1 hP 16 1 cw_16 rfl rfl d_J_fill_3 ?_
  refine lv_istore (lv' := [(4, .int 1024), (3, .int 0), (0, .ref (gA_ad G 16)), (1, .long v)]) hx hb d_J_fill_4 hl (by decide) rfl (fun ls hl => ?_)
  refine lp_J_fill_kn (G := G) (A := A) (Af := Af) (v := v) hx hb hts hown hml hK (fun f H locs ls hf hP hD hS => ?_) 1024 0 (gA_kn G) _ _ ls (by omega) (fun j hj => by omega) hP hD hS (lv_sub hl [1, 0, 2, 3] rfl)
  exact W.vret hx hb hrt (fun t ht hW => ⟨⟨((gU_kn G f), A), rfl, ⟨f, hf, rfl⟩, ⟨by rw [ht]; exact hP, hD⟩⟩, hS.F ht⟩) hS.2.2 d_J_fill_22
abbrev rm_J_fill_ps : Room := { frames := 0, cells := 0, slots := 0, locals := 0 }
set_option maxRecDepth 20000 in
set_option maxHeartbeats 4000000 in
theorem lp_J_fill_ps {p : Program} {l : Launch} {e : Env} {s : State} {m : MethodId} {args : Array Value} {below : List Frame} {meth : Method} {c : Code} {Q : State → Prop} {X : Xt} {G : Gc} {A : St} {Af : Nat → Prop} {v : Int64} (hx : p.tables.exec = Jvm.exec) (hb : c.code = b_J_fill) (hts : ∀ w ∈ Cond.code y_J_fill b_J_fill 5 none :: WA, w.before args s = true) (hown : s.vm.findClass R_Arrays = some m.cls) (hml : c.maxLocals = 5) (hK : KK X s)
    (kont : ∀ (f : Nat → Int64) (H : Heap) (locs : List Loc) (ls : Array Slot), (∀ j, j < 1024 → f j = v) → va_P X.1 classes (cw X (gU_ps G f) A) H → va_D Af (cw X (gU_ps G f) A) → va_S Af s.heap H locs → W p l e rm_J_fill_ps s m args below meth c H locs 0 0 Q (F0 m 22 ls [])) :
    ∀ (r i : Nat) (f : Nat → Int64) (H : Heap) (locs : List Loc) (ls : Array Slot), i + r = 1024 → (∀ j, j < i → f j = v) → va_P X.1 classes (cw X (gU_ps G f) A) H → va_D Af (cw X (gU_ps G f) A) → va_S Af s.heap H locs → lv_has ls 5 [(3, .int (nI i)), (4, .int 1024), (0, .ref (gA_ad G 17)), (1, .long v)] → W p l e rm_J_fill_ps s m args below meth c H locs 0 0 Q (F0 m 6 ls []) := by
  intro r
  induction r with
  | zero =>
    intro i f H locs ls hi hf hP hD hS hl
    have hi : i = 1024 := by omega
    refine lv_iload_n hx hb d_J_fill_6 rfl (lv_at hl 0 rfl) ?_
    refine lv_iload hx hb d_J_fill_7 (lv_at hl 1 rfl) ?_
    refine lv_icmp_ge (tgt := 22) hx hb d_J_fill_9 rfl (fun h9 => ?_) (fun h9 => ?_)
    ·
      exact kont f H locs ls (fun j hj => hf j (by omega)) hP hD hS
    ·
      exact absurd (by rw [hi]; decide) h9
  | succ r ih =>
    intro i f H locs ls hi hf hP hD hS hl
    refine lv_iload_n hx hb d_J_fill_6 rfl (lv_at hl 0 rfl) ?_
    refine lv_iload hx hb d_J_fill_7 (lv_at hl 1 rfl) ?_
    refine lv_icmp_ge (tgt := 22) hx hb d_J_fill_9 rfl (fun h9 => ?_) (fun h9 => ?_)
    ·
      exact absurd h9 (nI_ge (a := i) (b := 1024) (by omega) (by omega))
    ·
      refine lv_aload_n hx hb d_J_fill_12 rfl (lv_at hl 2 rfl) ?_
      refine lv_iload_n hx hb d_J_fill_13 rfl (lv_at hl 0 rfl) ?_
      refine lv_lload_n hx hb d_J_fill_14 rfl (lv_at hl 3 rfl) ?_
      refine va_last hx hb hK.1 hP hD hS 17 1 cw_17 rfl (vp_in_nI (n := i) (by omega) (by omega)) d_J_fill_15 (fun H locs hP hD hS => ?_)
      rw [nI_clamp (n := i) (by omega)] at hP hD
      replace hP := vx_P (cw_s_ps (X := X) (G := (gU_ps G f)) (A := A) (k := i) (v := v)) hP
      replace hD := vx_D (cw_s_ps (X := X) (G := (gU_ps G f)) (A := A) (k := i) (v := v)) hD
      refine lv_iinc (k := 0) (v := (nI i + 1)) (lv' := [(3, .int (nI i + 1)), (4, .int 1024), (0, .ref (gA_ad G 17)), (1, .long v)]) hx hb d_J_fill_16 hl rfl rfl (by decide) rfl (fun ls hl => ?_)
      refine lv_goto (tgt := 6) hx hb d_J_fill_19 rfl ?_
      refine ih (i + 1) (vp_updL f i v) H locs ls (by omega) (fun j hj => ?_) hP hD hS (by rw [← nI_1]; exact lv_sub hl [0, 1, 2, 3] rfl)
      by_cases e1 : j = i
      · rw [e1]; exact pk_uLs
      · rw [pk_uLn e1]; exact hf j (by omega)
set_option maxRecDepth 20000 in
set_option maxHeartbeats 4000000 in
theorem c_J_fill_ps (l : Launch) (X : Xt) (G : Gc) (A : St) (Af : Nat → Prop) (v : Int64) : Met l y_J_fill (Cond.code y_J_fill b_J_fill 5 none :: WA) rm_J_fill_ps (va_Pc [.ref (gA_ad G 17), .long v] (fun U => PW X Af G A U.heap ∧ KK X U)) (va_Qv (fun u => ∃ f : Nat → Int64, (∀ j, j < 1024 → f j = v) ∧ u = (gU_ps G f, A)) (atC X Af) Af) 0 0 Af := by
  refine vx_met (cc := b_J_fill) (maxL := 5) (ret := none) (by decide) rfl (Nat.le_of_ble_eq_true rfl) ?_
  intro p e s m below meth c ls hx hb hrt hts hown hlocks hname hml hB hl
  obtain ⟨hP, hK⟩ := hB
  have hown : s.vm.findClass R_Arrays = some m.cls := hown
  have hl : lv_has ls 5 [(0, .ref (gA_ad G 17)), (1, .long v)] := hl
  have hD : va_D Af (cw X G A) := hP.2
  have hP : va_P X.1 classes (cw X G A) s.heap := hP.1
  have hS : va_S Af s.heap s.heap [] := va_S.rf
  refine lv_iconst (v := 0) hx hb d_J_fill_0 rfl ?_
  refine lv_istore_n (lv' := [(3, .int 0), (0, .ref (gA_ad G 17)), (1, .long v)]) hx hb d_J_fill_1 rfl hl (by decide) rfl (fun ls hl => ?_)
  refine lv_aload_n hx hb d_J_fill_2 rfl (lv_at hl 1 rfl) ?_
  refine va_alen (v := 1024) hx hb hK.1 hP 17 1 cw_17 rfl rfl d_J_fill_3 ?_
  refine lv_istore (lv' := [(4, .int 1024), (3, .int 0), (0, .ref (gA_ad G 17)), (1, .long v)]) hx hb d_J_fill_4 hl (by decide) rfl (fun ls hl => ?_)
  refine lp_J_fill_ps (G := G) (A := A) (Af := Af) (v := v) hx hb hts hown hml hK (fun f H locs ls hf hP hD hS => ?_) 1024 0 (gA_ps G) _ _ ls (by omega) (fun j hj => by omega) hP hD hS (lv_sub hl [1, 0, 2, 3] rfl)
  exact W.vret hx hb hrt (fun t ht hW => ⟨⟨((gU_ps G f), A), rfl, ⟨f, hf, rfl⟩, ⟨by rw [ht]; exact hP, hD⟩⟩, hS.F ht⟩) hS.2.2 d_J_fill_22
abbrev rm_E_forget : Room := { frames := 1, cells := 0, slots := 0, locals := 24 }
set_option maxRecDepth 20000 in
set_option maxHeartbeats 4000000 in
theorem c_E_forget (l : Launch) (X : Xt) (G : Gc) (A : St) (Af : Nat → Prop)  : Met l y_E_forget (Cond.code y_E_forget b_E_forget 1 none :: WA) rm_E_forget (va_Pc [.ref (gA_ad G 2)] (fun U => PW X Af G A U.heap ∧ KK X U)) (va_Qv (fun u => ∃ f1 f2 : Nat → Int64, (∀ j, j < 1024 → f1 j = 0) ∧ (∀ j, j < 1024 → f2 j = 0) ∧ u = (gU_ps (gU_kn G f1) f2, A)) (atC X Af) Af) 0 0 Af := by
  refine vx_met (cc := b_E_forget) (maxL := 1) (ret := none) (by decide) rfl (Nat.le_of_ble_eq_true rfl) ?_
  intro p e s m below meth c ls hx hb hrt hts hown hlocks hname hml hB hl
  obtain ⟨hP, hK⟩ := hB
  have hown : s.vm.findClass R_Emptying = some m.cls := hown
  have hl : lv_has ls 1 [(0, .ref (gA_ad G 2))] := hl
  have hD : va_D Af (cw X G A) := hP.2
  have hP : va_P X.1 classes (cw X G A) s.heap := hP.1
  have hS : va_S Af s.heap s.heap [] := va_S.rf
  refine lv_aload_n hx hb d_E_forget_0 rfl (lv_at hl 0 rfl) ?_
  refine va_get (D := X.1) (ci := 2) (C := R_Emptying) (T := F_Emptying) (N := 2) hx hb hts hin_Emptying hown hK.1 hP 2 cw_2 rfl 0 (by decide) (hts _ (wd_1 60 rfl rfl)) (fun _ h9 => h9) rfl d_E_forget_1 ?_
  refine lv_lconst (v := 0) hx hb d_E_forget_4 rfl ?_
  refine va_callv (va_runS (As := [.ref (gA_ad G 16), .long 0]) (rest := []) ⟨hx, hb, hml, hown, hts⟩ (c_J_fill_kn l X G A Af 0) (va_cwS 2 hts (gT (wd_2 102 rfl rfl) (wd_2 103 rfl rfl) (wd_1 10 rfl rfl) (wd_2 104 rfl rfl)) rfl rfl rfl hd_J_fill ⟨Nat.le_of_ble_eq_true rfl, Nat.le_of_ble_eq_true rfl⟩) (vx_preS (P := PW X Af G A) ⟨hP, hD⟩ hK) rfl rfl hl.1 rfl (lv_room (Nat.le_of_ble_eq_true rfl)) d_E_forget_5 ⟨Nat.zero_le _, Nat.zero_le _⟩) hS (fun q _ h => h) (fun q h => h) (fun u5 t5 H locs ht hvm hu5 hB hz hk hS => ?_)
  obtain ⟨hP, hD⟩ := hB
  rw [ht] at hP
  obtain ⟨f5, hf5, hu5⟩ := hu5
  subst hu5
  have hP : va_P X.1 classes (cw X (gU_kn G f5) A) H := hP
  have hD : va_D Af (cw X (gU_kn G f5) A) := hD
  refine lv_aload_n hx hb d_E_forget_8 rfl (lv_at hl 0 rfl) ?_
  refine va_get (D := X.1) (ci := 2) (C := R_Emptying) (T := F_Emptying) (N := 2) hx hb hts hin_Emptying hown hK.1 hP 2 cw_2 rfl 1 (by decide) (hts _ (wd_1 61 rfl rfl)) (fun _ h9 => h9) rfl d_E_forget_9 ?_
  refine lv_lconst (v := 0) hx hb d_E_forget_12 rfl ?_
  refine va_callv (va_runS (As := [.ref (gA_ad G 17), .long 0]) (rest := []) ⟨hx, hb, hml, hown, hts⟩ (c_J_fill_ps l X (gU_kn G f5) A Af 0) (va_cwS 2 hts (gT (wd_2 102 rfl rfl) (wd_2 103 rfl rfl) (wd_1 10 rfl rfl) (wd_2 104 rfl rfl)) rfl rfl rfl hd_J_fill ⟨Nat.le_of_ble_eq_true rfl, Nat.le_of_ble_eq_true rfl⟩) (vx_preS (P := PW X Af (gU_kn G f5) A) ⟨hP, hD⟩ hK) rfl rfl hl.1 rfl (lv_room (Nat.le_of_ble_eq_true rfl)) d_E_forget_13 ⟨Nat.zero_le _, Nat.zero_le _⟩) hS (fun q _ h => h) (fun q h => h) (fun u13 t13 H locs ht hvm hu13 hB hz hk hS => ?_)
  obtain ⟨hP, hD⟩ := hB
  rw [ht] at hP
  obtain ⟨f13, hf13, hu13⟩ := hu13
  subst hu13
  have hP : va_P X.1 classes (cw X (gU_ps (gU_kn G f5) f13) A) H := hP
  have hD : va_D Af (cw X (gU_ps (gU_kn G f5) f13) A) := hD
  exact W.vret hx hb hrt (fun t ht hW => ⟨⟨((gU_ps (gU_kn G f5) f13), A), rfl, ⟨f5, f13, hf5, hf13, rfl⟩, ⟨by rw [ht]; exact hP, hD⟩⟩, hS.F ht⟩) hS.2.2 d_E_forget_16
end
section
/-! What the class's helpers say of numbers of situations. Own work. -/
theorem nI_or (a b : Nat) : nI a ||| nI b = nI (a ||| b) := by
  apply Int32.toBitVec_inj.mp
  rw [Int32.toBitVec_or]
  show BitVec.ofNat 32 a ||| BitVec.ofNat 32 b = BitVec.ofNat 32 (a ||| b)
  exact BitVec.ofNat_or.symm
theorem or_mid {lo m hi K P : Nat} (k w : Nat) (hK : 2 ^ k = K) (hP : 2 ^ (k + w) = P) (hlo : lo < K) (hm : m * K + lo < P) : (hi * P + lo) ||| (m * K) = hi * P + m * K + lo := by
  subst hK; subst hP
  have h1 : 2 ^ (k + w) * hi + lo = 2 ^ (k + w) * hi ||| lo := Nat.two_pow_add_eq_or_of_lt (by omega) hi
  have h2 : 2 ^ k * m + lo = 2 ^ k * m ||| lo := Nat.two_pow_add_eq_or_of_lt hlo m
  have h3 : 2 ^ (k + w) * hi + (2 ^ k * m + lo) = 2 ^ (k + w) * hi ||| (2 ^ k * m + lo) := Nat.two_pow_add_eq_or_of_lt (by rw [Nat.mul_comm]; exact hm) hi
  rw [Nat.mul_comm hi, Nat.mul_comm m, h1, Nat.or_assoc, Nat.or_comm lo, ← h2, ← h3]
  omega
theorem or_enc {S : Nat → Nat} {q k : Nat} (hS : fitS S) (hq : q < 5) (h0 : S q = 0) (hk : k < 8 ∨ (q = 4 ∧ k < 16)) : enc S ||| (k * 8 ^ q) = enc (va_up S q k) := by
  have e := enc_up (S := S) (v := k) hq
  rw [h0] at e
  obtain ⟨f1, f2, -⟩ := hS
  have a0 := f1 0 (by omega)
  have a1 := f1 1 (by omega)
  have a2 := f1 2 (by omega)
  have a3 := f1 3 (by omega)
  rw [show enc (va_up S q k) = enc S + k * 8 ^ q by omega, enc_eq]
  rcases (show q = 0 ∨ q = 1 ∨ q = 2 ∨ q = 3 ∨ q = 4 by omega) with rfl | rfl | rfl | rfl | rfl
  · have := or_mid (lo := 0) (m := k) (hi := S 1 + 8 * S 2 + 64 * S 3 + 512 * S 4) (K := 1) (P := 8) 0 3 rfl rfl (by omega) (by omega)
    rw [show S 0 + 8 * S 1 + 64 * S 2 + 512 * S 3 + 4096 * S 4 = (S 1 + 8 * S 2 + 64 * S 3 + 512 * S 4) * 8 + 0 by omega, show k * 8 ^ 0 = k * 1 by rfl, this]
    omega
  · have := or_mid (lo := S 0) (m := k) (hi := S 2 + 8 * S 3 + 64 * S 4) (K := 8) (P := 64) 3 3 rfl rfl (by omega) (by omega)
    rw [show S 0 + 8 * S 1 + 64 * S 2 + 512 * S 3 + 4096 * S 4 = (S 2 + 8 * S 3 + 64 * S 4) * 64 + S 0 by omega, show k * 8 ^ 1 = k * 8 by rfl, this]
    omega
  · have := or_mid (lo := S 0 + 8 * S 1) (m := k) (hi := S 3 + 8 * S 4) (K := 64) (P := 512) 6 3 rfl rfl (by omega) (by omega)
    rw [show S 0 + 8 * S 1 + 64 * S 2 + 512 * S 3 + 4096 * S 4 = (S 3 + 8 * S 4) * 512 + (S 0 + 8 * S 1) by omega, show k * 8 ^ 2 = k * 64 by rfl, this]
    omega
  · have := or_mid (lo := S 0 + 8 * S 1 + 64 * S 2) (m := k) (hi := S 4) (K := 512) (P := 4096) 9 3 rfl rfl (by omega) (by omega)
    rw [show S 0 + 8 * S 1 + 64 * S 2 + 512 * S 3 + 4096 * S 4 = S 4 * 4096 + (S 0 + 8 * S 1 + 64 * S 2) by omega, show k * 8 ^ 3 = k * 512 by rfl, this]
    omega
  · have := or_mid (lo := S 0 + 8 * S 1 + 64 * S 2 + 512 * S 3) (m := k) (hi := 0) (K := 4096) (P := 65536) 12 4 rfl rfl (by omega) (by omega)
    rw [show S 0 + 8 * S 1 + 64 * S 2 + 512 * S 3 + 4096 * S 4 = 0 * 65536 + (S 0 + 8 * S 1 + 64 * S 2 + 512 * S 3) by omega, show k * 8 ^ 4 = k * 4096 by rfl, this]
    omega
theorem mark_nI : ∀ r, r < 2 → ∀ g, g < 4 → ((8 ||| (nI r <<< ((2 : Int32) &&& 31))) ||| nI g) = nI (8 + 4 * r + g) ∧ ((0 ||| (nI r <<< ((2 : Int32) &&& 31))) ||| nI g) = nI (0 + 4 * r + g) := by decide +kernel
theorem shl_nI : ∀ q, q < 5 → ∀ k, k < 16 → nI k <<< ((3 * nI q) &&& 31) = nI (k * 8 ^ q) := by decide +kernel
theorem nI_ne {a b : Nat} (h : a ≠ b) (ha : a < 2 ^ 31) (hb : b < 2 ^ 31) : ¬ nI a = nI b := fun e => h ((nI_eq ha hb).mp e)
theorem with_nI {S : Nat → Nat} {q r g : Nat} (hS : fitS S) (hq : q < 5) (h0 : S q = 0) (hr : r < 2) (hg : g < 4) : f_S_with (nI (enc S)) (nI q) (nI r) (nI g) = nI (enc (va_up S q ((if q = 4 then 8 else 0) + 4 * r + g))) := by
  unfold f_S_with
  by_cases h4 : q = 4
  · subst h4
    rw [if_pos (show nI 4 = (4 : Int32) from rfl), if_pos rfl, (mark_nI r hr g hg).1, shl_nI 4 (by omega) _ (by omega), nI_or, or_enc hS hq h0 (by omega)]
  · rw [if_neg (show ¬ nI q = (4 : Int32) from nI_ne (b := 4) h4 (by omega) (by omega)), if_neg h4, (mark_nI r hr g hg).2, shl_nI q hq _ (by omega), nI_or, or_enc hS hq h0 (by omega)]
theorem markAt_nI {S : Nat → Nat} {p : Nat} (hS : fitS S) (hp : p < 5) : f_S_markAt (nI (enc S)) (nI p) = nI (S p) := by
  have hlt := enc_lt hS
  have hd := congrFun (dig_enc hS) p
  unfold f_S_markAt
  rcases (show p = 0 ∨ p = 1 ∨ p = 2 ∨ p = 3 ∨ p = 4 by omega) with rfl | rfl | rfl | rfl | rfl
  · rw [if_neg (by decide), pk_shrN (n := enc S) (by omega) _ 0 (by decide), pk_andN (n := enc S / 2 ^ 0) (by omega) (m := 7) 3 (by decide)]
    simp [dig] at hd
    congr 1
    omega
  · rw [if_neg (by decide), pk_shrN (n := enc S) (by omega) _ 3 (by decide), pk_andN (n := enc S / 2 ^ 3) (by omega) (m := 7) 3 (by decide)]
    simp [dig] at hd
    congr 1
  · rw [if_neg (by decide), pk_shrN (n := enc S) (by omega) _ 6 (by decide), pk_andN (n := enc S / 2 ^ 6) (by omega) (m := 7) 3 (by decide)]
    simp [dig] at hd
    congr 1
  · rw [if_neg (by decide), pk_shrN (n := enc S) (by omega) _ 9 (by decide), pk_andN (n := enc S / 2 ^ 9) (by omega) (m := 7) 3 (by decide)]
    simp [dig] at hd
    congr 1
  · rw [if_pos (by decide), pk_shrN (n := enc S) (by omega) _ 12 (by decide), pk_andN (n := enc S / 2 ^ 12) (by omega) (m := 15) 4 (by decide)]
    simp [dig] at hd
    congr 1
theorem routeIn_nI : ∀ k, k < 16 → f_S_routeIn (nI k) = nI (m_r k) := by decide +kernel
theorem stageIn_nI : ∀ k, k < 16 → f_S_stageIn (nI k) = nI (m_s k) := by decide +kernel
theorem fit16 {S : Nat → Nat} {p : Nat} (hS : fitS S) (hp : p < 5) : S p < 16 := by
  by_cases h : p = 4
  · subst h; exact hS.2.1
  · have := hS.1 p (by omega); omega
theorem isFree_nI {S : Nat → Nat} {p q : Nat} (hS : fitS S) (hp : p < 5) (hq : q < 6) : f_S_isFree (nI (enc S)) (nI p) (nI q) = freeN S p q := by
  unfold f_S_isFree freeN
  by_cases h5 : q = 5
  · subst h5
    rw [if_pos (show nI 5 = (5 : Int32) from rfl)]
    simp
  · rw [if_neg (show ¬ nI q = (5 : Int32) from nI_ne (b := 5) h5 (by omega) (by omega))]
    by_cases hpq : q = p
    · subst hpq
      rw [if_pos rfl]
      simp
    · rw [if_neg (nI_ne hpq (by omega) (by omega)), markAt_nI hS (by omega)]
      have := fit16 hS (show q < 5 by omega)
      by_cases h0 : S q = 0
      · rw [if_pos (show nI (S q) = (0 : Int32) by rw [h0]; rfl)]
        simp [h0]
      · rw [if_neg (show ¬ nI (S q) = (0 : Int32) from nI_ne (b := 0) h0 (by omega) (by omega))]
        simp [h0, h5, hpq]
theorem fit_up0 {S : Nat → Nat} {p : Nat} (hS : fitS S) : fitS (va_up S p 0) := by
  obtain ⟨f1, f2, f3⟩ := hS
  refine ⟨fun x hx => ?_, ?_, fun x hx => ?_⟩
  · unfold va_up; split
    · omega
    · exact f1 x hx
  · unfold va_up; split
    · omega
    · exact f2
  · unfold va_up; split
    · rfl
    · exact f3 x hx
theorem lift_nI {S : Nat → Nat} {p : Nat} (hS : fitS S) (hp : p < 5) : nI (enc S) - (f_S_markAt (nI (enc S)) (nI p) <<< ((3 * nI p) &&& 31)) = nI (enc (va_up S p 0)) := by
  have e := enc_up (S := S) (v := 0) hp
  rw [markAt_nI hS hp, shl_nI p hp _ (fit16 hS hp), pk_sub (by omega)]
  congr 1
  omega
def liftS (S : Nat → Nat) (p : Nat) : Nat → Nat := if p < 5 then va_up S p 0 else S
def movS (S : Nat → Nat) (r g p q : Nat) : Nat → Nat := if q = 5 then liftS S p else va_up (liftS S p) q (putM q r g)
theorem put_nI {S : Nat → Nat} {q r g : Nat} (hS : fitS S) (hq : q < 5) (h0 : S q = 0) (hr : r < 2) (hg : g < 4) (hg3 : q < 4 → g < 3) :
    (if 4 ≤ nI q then f_S_with (nI (enc S)) (nI q) (nI r) (nI g) else f_S_with (nI (enc S)) (nI q) (nI r) (nI g + 1)) = nI (enc (va_up S q (putM q r g))) := by
  unfold putM
  by_cases h4 : q < 4
  · rw [if_neg (show ¬ (4 : Int32) ≤ nI q from nI_ge (a := q) (b := 4) h4 (by omega)), nI_1, with_nI hS hq h0 hr (by have := hg3 h4; omega), if_pos h4]
  · rw [if_pos (show (4 : Int32) ≤ nI q from nI_le (a := 4) (b := q) (by omega) (by omega)), with_nI hS hq h0 hr hg, if_neg h4]
theorem after_nI {S : Nat → Nat} {r g p q : Nat} (hS : fitS S) (hp : p < 6) (hq : q < 6) (hr : r < 2) (hg : g < 4) (hg3 : q < 4 → g < 3) (hf : q = 5 ∨ q = p ∨ S q = 0) : f_S_after (nI (enc S)) (nI r) (nI g) (nI p) (nI q) = nI (enc (movS S r g p q)) := by
  unfold f_S_after movS liftS
  by_cases h5 : p = 5
  · subst h5
    rw [if_pos (show nI 5 = (5 : Int32) from rfl), if_neg (show ¬ 5 < 5 by omega)]
    by_cases hq5 : q = 5
    · subst hq5
      rw [if_pos (show nI 5 = (5 : Int32) from rfl), if_pos rfl]
    · rw [if_neg (show ¬ nI q = (5 : Int32) from nI_ne (b := 5) hq5 (by omega) (by omega)), if_neg hq5]
      exact put_nI hS (by omega) (by rcases hf with h | h | h <;> first | omega | exact h) hr hg hg3
  · rw [if_neg (show ¬ nI p = (5 : Int32) from nI_ne (b := 5) h5 (by omega) (by omega)), if_pos (show p < 5 by omega), lift_nI hS (by omega)]
    by_cases hq5 : q = 5
    · subst hq5
      rw [if_pos (show nI 5 = (5 : Int32) from rfl), if_pos rfl]
    · rw [if_neg (show ¬ nI q = (5 : Int32) from nI_ne (b := 5) hq5 (by omega) (by omega)), if_neg hq5]
      refine put_nI (fit_up0 hS) (by omega) ?_ hr hg hg3
      unfold va_up
      split
      · rfl
      · rcases hf with h | h | h
        · omega
        · omega
        · exact h
theorem aft_mov {S : Nat → Nat} {p q : Nat} (hp : p < 5) : aft S p q = movS S (m_r (S p)) (m_s (S p)) p q := by
  unfold aft movS liftS
  rw [if_pos hp]
theorem routeOf_nI : ∀ r, r < 2 → f_Y_routeOf (nI r) = some r := by decide +kernel
theorem down_nI0 : ∀ d, d < 16 → ∀ p, p < 6 → (if (nI d &&& ((1 : Int32) <<< (nI p &&& 31))) = 0 then false else true) = d.testBit p := by decide +kernel
theorem down_nI {A : St} {p : Nat} (hd : sA_dn A < 16) (hp : p < 6) : f_Y_isDown A (nI p) = (sA_dn A).testBit p := down_nI0 _ hd _ hp
theorem has_nI {A : St} {r g : Nat} (hR : rOk A) (hg : g < 100) : f_U_has A r (nI g) = decide (g < sA_len A r) := by
  have hl := hR.1 r
  unfold f_U_has
  rw [if_neg (nI_pos (by omega))]
  by_cases h : g < sA_len A r
  · rw [if_neg (nI_ge h (by omega))]
    simp [h]
  · rw [if_pos (nI_le (by omega) (by omega))]
    simp [h]
theorem maskAt_nI {A : St} {r g : Nat} (hR : rOk A) (hg : g < 100) : f_U_maskAt A r (nI g) = nI (mskN (envA A) r g) := by
  unfold f_U_maskAt mskN
  rw [has_nI hR hg, nI_clamp (by omega)]
  by_cases h : g < sA_len A r
  · rw [if_pos (by simp [h]), if_pos (show g < e_len (envA A) r from h)]
    rfl
  · rw [if_neg (by simp [h]), if_neg (show ¬ g < e_len (envA A) r from h)]
    rfl
theorem lead_nI0 : ∀ k, k < 16 → ∀ p, p < 6 → ∀ q, q < 6 → (if f_Y_isReach (nI p) (nI q) then if nI k = 0 then f_Y_isHomeward (nI p) (nI q) else if 4 ≤ nI q then if nI q = 4 then if (nI k &&& f_Y_beyond (nI p)) = 0 then false else true else false else if (nI k &&& ((1 : Int32) <<< (nI q &&& 31))) = 0 then false else true else false) = (nearN p q && (if k = 0 then homeN p q else if q < 4 then k.testBit q else q == 4 && (k &&& beyN p) != 0)) := by decide +kernel
theorem leads_nI {A : St} {r g p q : Nat} (hR : rOk A) (hr : r < 2) (hg : g < 4) (hp : p < 6) (hq : q < 6) : f_Y_leads A (nI r) (nI g) (nI p) (nI q) = leadN (sA_dn A) (mskN (envA A) r g) p q := by
  unfold f_Y_leads
  rw [oc_some (routeOf_nI r hr), down_nI hR.2.2 hp, down_nI hR.2.2 hq, maskAt_nI hR (by omega), lead_nI0 _ (mskN_lt (env_ok hR)) _ hp _ hq]
  unfold leadN
  cases (sA_dn A).testBit p <;> cases (sA_dn A).testBit q <;> simp
end
section
/-! How the class's own cells follow the shared state; partial situations. Own work. -/
def SA (A : St) : Nat → Nat := toS (envA A) (sit9 A)
def RC (G : Gc) (A : St) : Prop := (∀ q, q < 5 → gA_ins G q = inP A q) ∧ (∀ i, i < sA_n A → gA_fi G i = fin A i) ∧ (∀ i, i < sA_n A → sA_pl A i < 4 → gA_wt G i = nI (sA_sn A i)) ∧ MI (envA A) (gA_kn G) (gA_ps G) ∧ (sA_n A = 0 → ∀ k, k < 1024 → gA_kn G k = 0 ∧ gA_ps G k = 0)
def parS (S : Nat → Nat) (q : Nat) : Nat → Nat := fun x => if x < q then S x else 0
theorem par_0 (S : Nat → Nat) : enc (parS S 0) = 0 := by
  rw [enc_eq]
  simp [parS]
theorem par_5 {S : Nat → Nat} (h : ∀ q, 5 ≤ q → S q = 0) : parS S 5 = S := by
  funext x
  unfold parS
  split
  · rfl
  · next hx => exact (h x (by omega)).symm
theorem par_s (S : Nat → Nat) (q : Nat) : parS S (q + 1) = va_up (parS S q) q (S q) := by
  funext x
  unfold parS va_up
  by_cases h : x = q
  · subst h
    rw [if_pos (by omega), if_pos rfl]
  · rw [if_neg h]
    by_cases h2 : x < q
    · rw [if_pos (by omega)]
      exact (if_pos h2).symm
    · rw [if_neg (by omega)]
      exact (if_neg h2).symm
theorem par_q (S : Nat → Nat) (q : Nat) : parS S q q = 0 := by
  unfold parS
  rw [if_neg (by omega)]
theorem par_z {S : Nat → Nat} {q : Nat} (h : S q = 0) : parS S (q + 1) = parS S q := by
  rw [par_s, h]
  funext x
  unfold va_up
  split
  · next e => rw [e, par_q]
  · rfl
theorem fit_par {S : Nat → Nat} (hS : fitS S) (q : Nat) : fitS (parS S q) := by
  obtain ⟨f1, f2, f3⟩ := hS
  refine ⟨fun x hx => ?_, ?_, fun x hx => ?_⟩
  · unfold parS; split
    · exact f1 x hx
    · omega
  · unfold parS; split
    · exact f2
    · omega
  · unfold parS; split
    · exact f3 x hx
    · rfl
theorem waferOf_nI {A : St} {i : Nat} (hn : sA_n A ≤ 25) (hi : i < sA_n A) : f_T_waferOf A (nI i) = some i := by
  unfold f_T_waferOf
  rw [if_pos (within_iff.mpr ⟨nI_pos' (by omega), ?_⟩), nI_clamp (by omega)]
  rw [Int32.le_iff_toInt_le, nI_m1 (by omega), nI_toInt (by omega)]
  omega
theorem waferOf_m1 {A : St} : f_T_waferOf A (-1) = none := by
  unfold f_T_waferOf
  rw [if_neg]
  intro h
  have := (within_iff.mp h).1
  exact absurd this (by decide)
theorem waferOf_eq {A : St} (hn : sA_n A ≤ 25) (x : Int32) : f_T_waferOf A x = widx A x := by
  unfold widx
  by_cases h : 0 ≤ x ∧ x < nI (sA_n A)
  · obtain ⟨j, hj, rfl⟩ := i32_nat h.1
    have hj2 := (nI_ltI hj (by omega)).mp h.2
    rw [if_pos h, waferOf_nI hn hj2, nI_clamp (by omega)]
  · rw [if_neg h]
    unfold f_T_waferOf
    rw [if_neg]
    intro hw
    obtain ⟨h1, h2⟩ := within_iff.mp hw
    apply h
    refine ⟨h1, ?_⟩
    rw [Int32.le_iff_toInt_le, nI_m1 (by omega)] at h2
    rw [Int32.lt_iff_toInt_lt, nI_toInt (by omega)]
    omega
theorem SA_5 {A : St} : ∀ q, 5 ≤ q → SA A q = 0 := by
  intro q hq
  unfold SA toS
  rw [if_neg (by omega)]
theorem SA_fit {A : St} (hI : Inv A) : fitS (SA A) := by
  have h9 := ok9_sit hI
  have key : ∀ q, q < 5 → SA A q ≤ mkD q (sit9 A q) := by
    intro q hq
    unfold SA toS
    rw [if_pos hq]
    split <;> omega
  refine ⟨fun q hq => ?_, ?_, SA_5⟩
  · have h1 := key q (by omega)
    have h2 := (h9 q (by omega)).1
    unfold mkD at h1
    rw [if_neg (show ¬ q = 4 by omega)] at h1
    split at h1 <;> omega
  · have h1 := key 4 (by omega)
    have h2 := (h9 4 (by omega)).1
    unfold mkD at h1
    rw [if_pos (show (4 : Nat) = 4 from rfl)] at h1
    split at h1 <;> omega
theorem SA_none {G : Gc} {A : St} {q : Nat} (hI : Inv A) (hC : RC G A) (hq : q < 5) (h : f_T_waferOf A (gA_ins G q) = none) : SA A q = 0 := by
  rw [hC.1 q hq] at h
  rcases sit9_cases hI.2.2.2.1 hq with ⟨h1, h2⟩ | ⟨i, hi, hp, h1, h2⟩
  · unfold SA toS mkD
    rw [if_pos hq, h1]
    simp
  · rw [h2, waferOf_nI hI.1 hi] at h
    cases h
theorem SA_some {G : Gc} {A : St} {q i : Nat} (hI : Inv A) (hC : RC G A) (hq : q < 5) (h : f_T_waferOf A (gA_ins G q) = some i) : i < sA_n A ∧ sA_pl A i = q ∧ sit9 A q = dgt A i ∧ gA_ins G q = nI i := by
  rw [hC.1 q hq] at h ⊢
  rcases sit9_cases hI.2.2.2.1 hq with ⟨h1, h2⟩ | ⟨j, hj, hp, h1, h2⟩
  · rw [h2, waferOf_m1] at h
    cases h
  · rw [h2, waferOf_nI hI.1 hj] at h
    cases h
    exact ⟨hj, hp, h1, h2⟩
theorem SA_dn {A : St} {q : Nat} (hI : Inv A) (hq : q < 5) (h : f_Y_isDown A (nI q) = true) : SA A q = 0 := by
  rw [down_nI hI.2.1.2.2 (by omega)] at h
  unfold SA toS
  rw [if_pos hq, if_pos]
  unfold dnP
  have h4 : q < 4 := by
    have hd := hI.2.1.2.2
    by_cases e : q < 4
    · exact e
    · have : q = 4 := by omega
      subst this
      rw [Nat.testBit_lt_two_pow (by omega)] at h
      cases h
  rw [show (e_dn (envA A)).testBit q = true from h]
  simp [h4]
theorem SA_up {A : St} {q i : Nat} (hI : Inv A) (hq : q < 5) (h : f_Y_isDown A (nI q) = false) (hs : sit9 A q = dgt A i) : SA A q = (if q = 4 then 8 else 0) + 4 * sA_rt A i + sA_sg A i := by
  rw [down_nI hI.2.1.2.2 (by omega)] at h
  unfold SA toS
  rw [if_pos hq, if_neg]
  · rw [hs]
    unfold mkD dgt
    rw [if_neg (by omega)]
    omega
  · unfold dnP
    rw [show (e_dn (envA A)).testBit q = false from h]
    simp
theorem sit_with {A : St} {q i : Nat} (hI : Inv A) (hq : q < 5) (h : f_Y_isDown A (nI q) = false) (hi : i < sA_n A) (hs : sit9 A q = dgt A i) : f_S_with (nI (enc (parS (SA A) q))) (nI q) (nI (sA_rt A i)) (nI (sA_sg A i)) = nI (enc (parS (SA A) (q + 1))) := by
  have hw := hI.2.2.1 i hi
  have hl := hI.2.1.1 (sA_rt A i)
  rw [with_nI (fit_par (SA_fit hI) q) hq (par_q _ _) hw.1 (by have := hw.2.1; omega), par_s, SA_up hI hq h hs]
end
section
abbrev rm_T_situation : Room := { frames := 2, cells := 0, slots := 0, locals := 43 }
def f_T_situation (A : St) : Int32 := nI (enc (SA A))
set_option maxRecDepth 20000 in
set_option maxHeartbeats 4000000 in
theorem lp_T_situation {p : Program} {l : Launch} {e : Env} {s : State} {m : MethodId} {args : Array Value} {below : List Frame} {meth : Method} {c : Code} {Q : State → Prop} {X : Xt} {G : Gc} {A : St} (hx : p.tables.exec = Jvm.exec) (hb : c.code = b_T_situation) (hts : ∀ w ∈ Cond.code y_T_situation b_T_situation 4 (some .int) :: WA, w.before args s = true) (hown : s.vm.findClass R_ClusterTool = some m.cls) (hml : c.maxLocals = 4) (hK : KK X s) (hI : Inv A) (hC : RC G A) (hP : va_P X.1 classes (cw X G A) s.heap)
    (kont : ∀ ls : Array Slot, lv_has ls 4 [(1, .int (nI (enc (SA A))))] → W p l e rm_T_situation s m args below meth c s.heap [] 0 0 Q (F0 m 55 ls [])) :
    ∀ (r q : Nat) (ls : Array Slot), q + r = 5 → lv_has ls 4 [(1, .int (nI (enc (parS (SA A) q)))), (2, .int (nI q)), (0, .ref (gA_ad G 0))] → W p l e rm_T_situation s m args below meth c s.heap [] 0 0 Q (F0 m 4 ls []) := by
  have hn := hI.1
  intro r
  induction r with
  | zero =>
    intro q ls hq hl
    have hq : q = 5 := by omega
    subst hq
    refine lv_iload_n hx hb d_T_situation_4 rfl (lv_at hl 1 rfl) ?_
    refine lv_iconst (v := 4) hx hb d_T_situation_5 rfl ?_
    refine lv_icmp_gt (tgt := 55) hx hb d_T_situation_6 rfl (fun h6 => ?_) (fun h6 => ?_)
    ·
      exact kont ls (by rw [par_5 SA_5] at hl; exact lv_sub hl [0] rfl)
    ·
      exact absurd (by decide) h6
  | succ r ih =>
    intro q ls hq hl
    refine lv_iload_n hx hb d_T_situation_4 rfl (lv_at hl 1 rfl) ?_
    refine lv_iconst (v := 4) hx hb d_T_situation_5 rfl ?_
    refine lv_icmp_gt (tgt := 55) hx hb d_T_situation_6 rfl (fun h6 => ?_) (fun h6 => ?_)
    ·
      exact absurd h6 (nI_nlt (a := 4) (b := q) (by omega) (by omega))
    ·
      refine lv_aload_n hx hb d_T_situation_9 rfl (lv_at hl 2 rfl) ?_
      refine lv_aload_n hx hb d_T_situation_10 rfl (lv_at hl 2 rfl) ?_
      refine va_get (D := X.1) (ci := 0) (C := R_ClusterTool) (T := F_ClusterTool) (N := 8) hx hb hts hin_ClusterTool hown hK.1 hP 0 cw_0 rfl 5 (by decide) (hts _ (wd_1 90 rfl rfl)) (fun _ h9 => h9) rfl d_T_situation_11 ?_
      refine lv_iload_n hx hb d_T_situation_14 rfl (lv_at hl 1 rfl) ?_
      refine va_iald hx hb hK.1 hP 6 0 cw_6 rfl (vp_in_nI (n := q) (by omega) (by omega)) d_T_situation_15 ?_
      rw [nI_clamp (n := q) (by omega)]
      refine va_csq (W.runV (As := [.int (gA_ins G q)]) (rest := []) ⟨hx, hb, hml, hown, hts⟩ (c_T_waferOf l X G A (gA_ins G q) hn) (cwV 1 hts (gV (wd_1 180 rfl rfl) (wd_1 182 rfl rfl) (wd_s 0 rfl) (wd_1 1 rfl rfl) (wd_1 183 rfl rfl)) rfl rfl rfl ⟨rfl, hd_T_waferOf⟩ ⟨Nat.le_of_ble_eq_true rfl, Nat.le_of_ble_eq_true rfl⟩) (vx_preV (P := PR X G A) hP hK (va_recv hK.1 hP (ci := 0) rfl cw_0)) rfl rfl hl.1 rfl (lv_room (Nat.le_of_ble_eq_true rfl)) d_T_situation_16 ⟨Nat.zero_le _, Nat.zero_le _⟩) (fun r16 e16 => ?_)
      cases q16 : f_T_waferOf A (gA_ins G q) with
      | none =>
        have e16 : r16 = none := by rw [e16, q16]; rfl
        subst e16
        refine lv_astore_nN (lv' := [(3, .null), (1, .int (nI (enc (parS (SA A) q)))), (2, .int (nI q)), (0, .ref (gA_ad G 0))]) hx hb d_T_situation_19 rfl hl (by decide) rfl (fun ls hl => ?_)
        refine lv_aload_nN hx hb d_T_situation_20 rfl (lv_at hl 0 rfl) ?_
        refine lv_ifnullN (tgt := 49) hx hb d_T_situation_21 rfl ?_
        refine lv_iinc (k := 2) (v := (nI q + 1)) (lv' := [(2, .int (nI q + 1)), (3, .null), (1, .int (nI (enc (parS (SA A) q)))), (0, .ref (gA_ad G 0))]) hx hb d_T_situation_49 hl rfl rfl (by decide) rfl (fun ls hl => ?_)
        refine lv_goto (tgt := 4) hx hb d_T_situation_52 rfl ?_
        exact ih (q + 1) ls (by omega) (by rw [par_z (SA_none hI hC (by omega) q16), ← nI_1]; exact lv_sub hl [2, 0, 3] rfl)
      | some i16 =>
        have e16 : r16 = some (gA_ad G (18 + 4 * i16)) := by rw [e16, q16]; rfl
        subst e16
        have hli16 := waferOf_lt hn q16
        refine lv_astore_n (lv' := [(3, .ref (gA_ad G (18 + 4 * i16))), (1, .int (nI (enc (parS (SA A) q)))), (2, .int (nI q)), (0, .ref (gA_ad G 0))]) hx hb d_T_situation_19 rfl hl (by decide) rfl (fun ls hl => ?_)
        refine lv_aload_n hx hb d_T_situation_20 rfl (lv_at hl 0 rfl) ?_
        refine lv_ifnull hx hb d_T_situation_21 ?_
        refine lv_aload_n hx hb d_T_situation_24 rfl (lv_at hl 3 rfl) ?_
        refine va_get (D := X.1) (ci := 0) (C := R_ClusterTool) (T := F_ClusterTool) (N := 8) hx hb hts hin_ClusterTool hown hK.1 hP 0 cw_0 rfl 0 (by decide) (hts _ (wd_1 85 rfl rfl)) (fun _ h9 => h9) rfl d_T_situation_25 ?_
        refine lv_iload_n hx hb d_T_situation_28 rfl (lv_at hl 2 rfl) ?_
        refine vp_callSi (W.runV (As := [.int (nI q)]) (rest := []) ⟨hx, hb, hml, hown, hts⟩ (c_Y_isDown l X G A (nI q)) (cwV 1 hts (gV (wd_1 225 rfl rfl) (wd_1 190 rfl rfl) (wd_1 191 rfl rfl) (wd_1 2 rfl rfl) (wd_1 192 rfl rfl)) rfl rfl rfl ⟨rfl, hd_Y_isDown⟩ ⟨Nat.le_of_ble_eq_true rfl, Nat.le_of_ble_eq_true rfl⟩) (vx_preV (P := PR X G A) hP hK (va_recv hK.1 hP (ci := 1) rfl cw_1)) rfl rfl hl.1 rfl (lv_room (Nat.le_of_ble_eq_true rfl)) d_T_situation_29 ⟨Nat.zero_le _, Nat.zero_le _⟩) (fun r29 e29 => ?_)
        subst e29
        refine lv_if_ne (tgt := 49) hx hb d_T_situation_32 rfl (fun h32 => ?_) (fun h32 => ?_)
        ·
          have h32 := b2i_t h32
          refine lv_iinc (k := 2) (v := (nI q + 1)) (lv' := [(2, .int (nI q + 1)), (3, .ref (gA_ad G (18 + 4 * i16))), (1, .int (nI (enc (parS (SA A) q)))), (0, .ref (gA_ad G 0))]) hx hb d_T_situation_49 hl rfl rfl (by decide) rfl (fun ls hl => ?_)
          refine lv_goto (tgt := 4) hx hb d_T_situation_52 rfl ?_
          exact ih (q + 1) ls (by omega) (by rw [par_z (SA_dn hI (by omega) h32), ← nI_1]; exact lv_sub hl [2, 0, 3] rfl)
        ·
          have h32 := b2i_f h32
          refine lv_iload_n hx hb d_T_situation_35 rfl (lv_at hl 1 rfl) ?_
          refine lv_iload_n hx hb d_T_situation_36 rfl (lv_at hl 2 rfl) ?_
          refine lv_aload_n hx hb d_T_situation_37 rfl (lv_at hl 0 rfl) ?_
          refine va_getN (D := X.1) (ci := 5) (C := R_Wafer) (T := F_Wafer) (N := 10) hx hb hts hin_Wafer hown hK.1 hP (18 + 4 * i16) (cw_w hli16) rfl 0 (by decide) (va_Nw.use rfl (hK.2.1 _ (List.mem_of_getElem? (i := 8) rfl))) (fun _ h9 => h9) rfl d_T_situation_38 ?_
          refine lv_aload_n hx hb d_T_situation_41 rfl (lv_at hl 0 rfl) ?_
          refine va_getN (D := X.1) (ci := 5) (C := R_Wafer) (T := F_Wafer) (N := 10) hx hb hts hin_Wafer hown hK.1 hP (18 + 4 * i16) (cw_w hli16) rfl 5 (by decide) (va_Nw.use rfl (hK.2.1 _ (List.mem_of_getElem? (i := 13) rfl))) (fun _ h9 => h9) rfl d_T_situation_42 ?_
          refine vp_callSi (W.runS (As := [.int (nI (enc (parS (SA A) q))), .int (nI q), .int (nI (sA_rt A i16)), .int (nI (sA_sg A i16))]) (rest := []) ⟨hx, hb, hml, hown, hts⟩ (c_S_with l X (nI (enc (parS (SA A) q))) (nI q) (nI (sA_rt A i16)) (nI (sA_sg A i16))) (va_cwS 4 hts (gT (wd_1 226 rfl rfl) (wd_1 227 rfl rfl) (wd_1 8 rfl rfl) (wd_1 228 rfl rfl)) rfl rfl rfl hd_S_with ⟨Nat.le_of_ble_eq_true rfl, Nat.le_of_ble_eq_true rfl⟩) (vx_preS (P := fun _ => True) trivial hK) rfl rfl hl.1 rfl (lv_room (Nat.le_of_ble_eq_true rfl)) d_T_situation_45 ⟨Nat.zero_le _, Nat.zero_le _⟩) (fun r45 e45 => ?_)
          subst e45
          refine lv_istore_n (lv' := [(1, .int (f_S_with (nI (enc (parS (SA A) q))) (nI q) (nI (sA_rt A i16)) (nI (sA_sg A i16)))), (3, .ref (gA_ad G (18 + 4 * i16))), (2, .int (nI q)), (0, .ref (gA_ad G 0))]) hx hb d_T_situation_48 rfl hl (by decide) rfl (fun ls hl => ?_)
          refine lv_iinc (k := 2) (v := (nI q + 1)) (lv' := [(2, .int (nI q + 1)), (1, .int (f_S_with (nI (enc (parS (SA A) q))) (nI q) (nI (sA_rt A i16)) (nI (sA_sg A i16)))), (3, .ref (gA_ad G (18 + 4 * i16))), (0, .ref (gA_ad G 0))]) hx hb d_T_situation_49 hl rfl rfl (by decide) rfl (fun ls hl => ?_)
          refine lv_goto (tgt := 4) hx hb d_T_situation_52 rfl ?_
          exact ih (q + 1) ls (by omega) (by rw [← sit_with hI (by omega) h32 hli16 (SA_some hI hC (by omega) q16).2.2.1, ← nI_1]; exact lv_sub hl [1, 0, 3] rfl)
set_option maxRecDepth 20000 in
set_option maxHeartbeats 4000000 in
theorem c_T_situation (l : Launch) (X : Xt) (G : Gc) (A : St) (hI : Inv A) (hC : RC G A) : Met l y_T_situation (Cond.code y_T_situation b_T_situation 4 (some .int) :: WA) rm_T_situation (va_Pc [.ref (gA_ad G 0)] (fun U => PR X G A U.heap ∧ KK X U)) (vp_Si (fun ans => ans = f_T_situation A)) 0 0 (fun _ => False) := by
  refine vx_met (cc := b_T_situation) (maxL := 4) (ret := (some .int)) (by decide) rfl (Nat.le_of_ble_eq_true rfl) ?_
  intro p e s m below meth c ls hx hb hrt hts hown hlocks hname hml hB hl
  obtain ⟨hP, hK⟩ := hB
  have hown : s.vm.findClass R_ClusterTool = some m.cls := hown
  have hl : lv_has ls 4 [(0, .ref (gA_ad G 0))] := hl
  have hP : va_P X.1 classes (cw X G A) s.heap := hP
  refine lv_iconst (v := 0) hx hb d_T_situation_0 rfl ?_
  refine lv_istore_n (lv' := [(1, .int 0), (0, .ref (gA_ad G 0))]) hx hb d_T_situation_1 rfl hl (by decide) rfl (fun ls hl => ?_)
  refine lv_iconst (v := 0) hx hb d_T_situation_2 rfl ?_
  refine lv_istore_n (lv' := [(2, .int 0), (1, .int 0), (0, .ref (gA_ad G 0))]) hx hb d_T_situation_3 rfl hl (by decide) rfl (fun ls hl => ?_)
  refine lp_T_situation (G := G) (A := A) hx hb hts hown hml hK hI hC hP (fun ls hl => ?_) 5 0 ls (by omega) (by rw [par_0]; exact lv_sub hl [1, 0, 2] rfl)
  refine lv_iload_n hx hb d_T_situation_55 rfl (lv_at hl 0 rfl) ?_
  exact W.iret (v := nI (enc (SA A))) hx hb hrt (fun t ht hW => ⟨_, rfl, rfl, ht⟩) (fun q h => by cases h) d_T_situation_56
abbrev rm_T_situationAfter : Room := { frames := 3, cells := 0, slots := 0, locals := 66 }
def f_T_situationAfter (A : St) (i : Nat) (x : Int32) : Int32 :=
  f_S_after (f_T_situation A) (nI (sA_rt A i)) (nI (sA_sg A i)) (nI (sA_pl A i)) x
set_option maxRecDepth 20000 in
set_option maxHeartbeats 4000000 in
theorem c_T_situationAfter (l : Launch) (X : Xt) (G : Gc) (A : St) (i : Nat) (hi : i < sA_n A) (x : Int32) (hI : Inv A) (hC : RC G A) : Met l y_T_situationAfter (Cond.code y_T_situationAfter b_T_situationAfter 3 (some .int) :: WA) rm_T_situationAfter (va_Pc [.ref (gA_ad G 0), .ref (gA_ad G (18 + 4 * i)), .int x] (fun U => PR X G A U.heap ∧ KK X U)) (vp_Si (fun ans => ans = f_T_situationAfter A i x)) 0 0 (fun _ => False) := by
  refine vx_met (cc := b_T_situationAfter) (maxL := 3) (ret := (some .int)) (by decide) rfl (Nat.le_of_ble_eq_true rfl) ?_
  intro p e s m below meth c ls hx hb hrt hts hown hlocks hname hml hB hl
  obtain ⟨hP, hK⟩ := hB
  have hown : s.vm.findClass R_ClusterTool = some m.cls := hown
  have hl : lv_has ls 3 [(0, .ref (gA_ad G 0)), (1, .ref (gA_ad G (18 + 4 * i))), (2, .int x)] := hl
  have hP : va_P X.1 classes (cw X G A) s.heap := hP
  refine lv_aload_n hx hb d_T_situationAfter_0 rfl (lv_at hl 0 rfl) ?_
  refine vp_callSi (W.runV (As := []) (rest := []) ⟨hx, hb, hml, hown, hts⟩ (c_T_situation l X G A hI hC) (cwV 0 hts (gV (wd_1 221 rfl rfl) (wd_1 223 rfl rfl) (wd_s 4 rfl) (wd_1 1 rfl rfl) (wd_1 224 rfl rfl)) rfl rfl rfl ⟨rfl, hd_T_situation⟩ ⟨Nat.le_of_ble_eq_true rfl, Nat.le_of_ble_eq_true rfl⟩) (vx_preV (P := PR X G A) hP hK (va_recv hK.1 hP (ci := 0) rfl cw_0)) rfl rfl hl.1 rfl (lv_room (Nat.le_of_ble_eq_true rfl)) d_T_situationAfter_1 ⟨Nat.zero_le _, Nat.zero_le _⟩) (fun r1 e1 => ?_)
  subst e1
  refine lv_aload_n hx hb d_T_situationAfter_4 rfl (lv_at hl 1 rfl) ?_
  refine va_getN (D := X.1) (ci := 5) (C := R_Wafer) (T := F_Wafer) (N := 10) hx hb hts hin_Wafer hown hK.1 hP (18 + 4 * i) (cw_w hi) rfl 0 (by decide) (va_Nw.use rfl (hK.2.1 _ (List.mem_of_getElem? (i := 8) rfl))) (fun _ h9 => h9) rfl d_T_situationAfter_5 ?_
  refine lv_aload_n hx hb d_T_situationAfter_8 rfl (lv_at hl 1 rfl) ?_
  refine va_getN (D := X.1) (ci := 5) (C := R_Wafer) (T := F_Wafer) (N := 10) hx hb hts hin_Wafer hown hK.1 hP (18 + 4 * i) (cw_w hi) rfl 5 (by decide) (va_Nw.use rfl (hK.2.1 _ (List.mem_of_getElem? (i := 13) rfl))) (fun _ h9 => h9) rfl d_T_situationAfter_9 ?_
  refine lv_aload_n hx hb d_T_situationAfter_12 rfl (lv_at hl 1 rfl) ?_
  refine va_getN (D := X.1) (ci := 5) (C := R_Wafer) (T := F_Wafer) (N := 10) hx hb hts hin_Wafer hown hK.1 hP (18 + 4 * i) (cw_w hi) rfl 4 (by decide) (va_Nw.use rfl (hK.2.1 _ (List.mem_of_getElem? (i := 12) rfl))) (fun _ h9 => h9) rfl d_T_situationAfter_13 ?_
  refine lv_iload_n hx hb d_T_situationAfter_16 rfl (lv_at hl 2 rfl) ?_
  refine vp_callSi (W.runS (As := [.int (f_T_situation A), .int (nI (sA_rt A i)), .int (nI (sA_sg A i)), .int (nI (sA_pl A i)), .int x]) (rest := []) ⟨hx, hb, hml, hown, hts⟩ (c_S_after l X (f_T_situation A) (nI (sA_rt A i)) (nI (sA_sg A i)) (nI (sA_pl A i)) x) (va_cwS 5 hts (gT (wd_1 229 rfl rfl) (wd_1 230 rfl rfl) (wd_1 8 rfl rfl) (wd_1 231 rfl rfl)) rfl rfl rfl hd_S_after ⟨Nat.le_of_ble_eq_true rfl, Nat.le_of_ble_eq_true rfl⟩) (vx_preS (P := fun _ => True) trivial hK) rfl rfl hl.1 rfl (lv_room (Nat.le_of_ble_eq_true rfl)) d_T_situationAfter_17 ⟨Nat.zero_le _, Nat.zero_le _⟩) (fun r17 e17 => ?_)
  subst e17
  exact W.iret (v := f_S_after (f_T_situation A) (nI (sA_rt A i)) (nI (sA_sg A i)) (nI (sA_pl A i)) x) hx hb hrt (fun t ht hW => ⟨_, rfl, by rw [f_T_situationAfter], ht⟩) (fun q h => by cases h) d_T_situationAfter_20
abbrev rm_T_countFinished : Room := { frames := 2, cells := 0, slots := 0, locals := 43 }
def f_T_countFinished (G : Gc) (A : St) : Int32 := nI (cnt (gA_fi G) (sA_n A))
set_option maxRecDepth 20000 in
set_option maxHeartbeats 4000000 in
theorem lp_T_countFinished {p : Program} {l : Launch} {e : Env} {s : State} {m : MethodId} {args : Array Value} {below : List Frame} {meth : Method} {c : Code} {Q : State → Prop} {X : Xt} {G : Gc} {A : St} (hx : p.tables.exec = Jvm.exec) (hb : c.code = b_T_countFinished) (hts : ∀ w ∈ Cond.code y_T_countFinished b_T_countFinished 4 (some .int) :: WA, w.before args s = true) (hown : s.vm.findClass R_ClusterTool = some m.cls) (hml : c.maxLocals = 4) (hK : KK X s) (hn : sA_n A ≤ 25) (hP : va_P X.1 classes (cw X G A) s.heap)
    (kont : ∀ ls : Array Slot, lv_has ls 4 [(1, .int (nI (cnt (gA_fi G) (sA_n A))))] → W p l e rm_T_countFinished s m args below meth c s.heap [] 0 0 Q (F0 m 43 ls [])) :
    ∀ (r i : Nat) (ls : Array Slot), i + r = sA_n A → lv_has ls 4 [(1, .int (nI (cnt (gA_fi G) i))), (2, .int (nI i)), (0, .ref (gA_ad G 0))] → W p l e rm_T_countFinished s m args below meth c s.heap [] 0 0 Q (F0 m 4 ls []) := by
  intro r
  induction r with
  | zero =>
    intro i ls hi hl
    have hi : i = sA_n A := by omega
    subst hi
    refine lv_iload_n hx hb d_T_countFinished_4 rfl (lv_at hl 1 rfl) ?_
    refine lv_aload_n hx hb d_T_countFinished_5 rfl (lv_at hl 2 rfl) ?_
    refine va_get (D := X.1) (ci := 0) (C := R_ClusterTool) (T := F_ClusterTool) (N := 8) hx hb hts hin_ClusterTool hown hK.1 hP 0 cw_0 rfl 6 (by decide) (hts _ (wd_1 91 rfl rfl)) (fun _ h9 => h9) rfl d_T_countFinished_6 ?_
    refine lv_icmp_ge (tgt := 43) hx hb d_T_countFinished_9 rfl (fun h9 => ?_) (fun h9 => ?_)
    ·
      exact kont ls (lv_sub hl [0] rfl)
    ·
      exact absurd (nI_le (Nat.le_refl _) (by omega)) h9
  | succ r ih =>
    intro i ls hi hl
    have hin : i < sA_n A := by omega
    refine lv_iload_n hx hb d_T_countFinished_4 rfl (lv_at hl 1 rfl) ?_
    refine lv_aload_n hx hb d_T_countFinished_5 rfl (lv_at hl 2 rfl) ?_
    refine va_get (D := X.1) (ci := 0) (C := R_ClusterTool) (T := F_ClusterTool) (N := 8) hx hb hts hin_ClusterTool hown hK.1 hP 0 cw_0 rfl 6 (by decide) (hts _ (wd_1 91 rfl rfl)) (fun _ h9 => h9) rfl d_T_countFinished_6 ?_
    refine lv_icmp_ge (tgt := 43) hx hb d_T_countFinished_9 rfl (fun h9 => ?_) (fun h9 => ?_)
    ·
      exact absurd h9 (nI_ge hin (by omega))
    ·
      refine lv_aload_n hx hb d_T_countFinished_12 rfl (lv_at hl 2 rfl) ?_
      refine lv_iload_n hx hb d_T_countFinished_13 rfl (lv_at hl 1 rfl) ?_
      refine va_csq (W.runV (As := [.int (nI i)]) (rest := []) ⟨hx, hb, hml, hown, hts⟩ (c_T_waferOf l X G A (nI i) hn) (cwV 1 hts (gV (wd_1 180 rfl rfl) (wd_1 182 rfl rfl) (wd_s 0 rfl) (wd_1 1 rfl rfl) (wd_1 183 rfl rfl)) rfl rfl rfl ⟨rfl, hd_T_waferOf⟩ ⟨Nat.le_of_ble_eq_true rfl, Nat.le_of_ble_eq_true rfl⟩) (vx_preV (P := PR X G A) hP hK (va_recv hK.1 hP (ci := 0) rfl cw_0)) rfl rfl hl.1 rfl (lv_room (Nat.le_of_ble_eq_true rfl)) d_T_countFinished_14 ⟨Nat.zero_le _, Nat.zero_le _⟩) (fun r14 e14 => ?_)
      cases q14 : f_T_waferOf A (nI i) with
      | none =>
        have e14 : r14 = none := by rw [e14, q14]; rfl
        subst e14
        exact absurd (waferOf_nI hn hin) (by rw [q14]; exact fun z => by cases z)
      | some i14 =>
        have e14 : r14 = some (gA_ad G (18 + 4 * i14)) := by rw [e14, q14]; rfl
        subst e14
        have hli14 := waferOf_lt hn q14
        have ei : i = i14 := Option.some.inj ((waferOf_nI hn hin).symm.trans q14)
        subst ei
        refine lv_astore_n (lv' := [(3, .ref (gA_ad G (18 + 4 * i))), (1, .int (nI (cnt (gA_fi G) i))), (2, .int (nI i)), (0, .ref (gA_ad G 0))]) hx hb d_T_countFinished_17 rfl hl (by decide) rfl (fun ls hl => ?_)
        refine lv_iload_n hx hb d_T_countFinished_18 rfl (lv_at hl 1 rfl) ?_
        refine lv_aload_n hx hb d_T_countFinished_19 rfl (lv_at hl 0 rfl) ?_
        refine lv_ifnull hx hb d_T_countFinished_20 ?_
        refine lv_aload_n hx hb d_T_countFinished_23 rfl (lv_at hl 0 rfl) ?_
        refine va_getN (D := X.1) (ci := 5) (C := R_Wafer) (T := F_Wafer) (N := 10) hx hb hts hin_Wafer hown hK.1 hP (18 + 4 * i) (cw_w hli14) rfl 8 (by decide) (va_Nw.use rfl (hK.2.1 _ (List.mem_of_getElem? (i := 16) rfl))) (fun _ h9 => h9) rfl d_T_countFinished_24 ?_
        refine lv_if_eq (tgt := 34) hx hb d_T_countFinished_27 rfl (fun h27 => ?_) (fun h27 => ?_)
        ·
          have h27 := b2i_f h27
          refine lv_iconst (v := 0) hx hb d_T_countFinished_34 rfl ?_
          refine lv_iadd hx hb d_T_countFinished_35 ?_
          rw [Int32.add_zero]
          refine lv_istore_n (lv' := [(1, .int (nI (cnt (gA_fi G) i))), (3, .ref (gA_ad G (18 + 4 * i))), (2, .int (nI i)), (0, .ref (gA_ad G 0))]) hx hb d_T_countFinished_36 rfl hl (by decide) rfl (fun ls hl => ?_)
          refine lv_iinc (k := 2) (v := (nI i + 1)) (lv' := [(2, .int (nI i + 1)), (1, .int (nI (cnt (gA_fi G) i))), (3, .ref (gA_ad G (18 + 4 * i))), (0, .ref (gA_ad G 0))]) hx hb d_T_countFinished_37 hl rfl rfl (by decide) rfl (fun ls hl => ?_)
          refine lv_goto (tgt := 4) hx hb d_T_countFinished_40 rfl ?_
          exact ih (i + 1) ls (by omega) (by unfold cnt; rw [if_neg (nt_of h27), Nat.add_zero, ← nI_1 i]; exact lv_sub hl [1, 0, 3] rfl)
        ·
          have h27 := b2i_t h27
          refine lv_iconst (v := 1) hx hb d_T_countFinished_30 rfl ?_
          refine lv_goto (tgt := 35) hx hb d_T_countFinished_31 rfl ?_
          refine lv_iadd hx hb d_T_countFinished_35 ?_
          refine lv_istore_n (lv' := [(1, .int ((nI (cnt (gA_fi G) i)) + 1)), (3, .ref (gA_ad G (18 + 4 * i))), (2, .int (nI i)), (0, .ref (gA_ad G 0))]) hx hb d_T_countFinished_36 rfl hl (by decide) rfl (fun ls hl => ?_)
          refine lv_iinc (k := 2) (v := (nI i + 1)) (lv' := [(2, .int (nI i + 1)), (1, .int ((nI (cnt (gA_fi G) i)) + 1)), (3, .ref (gA_ad G (18 + 4 * i))), (0, .ref (gA_ad G 0))]) hx hb d_T_countFinished_37 hl rfl rfl (by decide) rfl (fun ls hl => ?_)
          refine lv_goto (tgt := 4) hx hb d_T_countFinished_40 rfl ?_
          exact ih (i + 1) ls (by omega) (by unfold cnt; rw [if_pos h27, ← nI_1 i, ← nI_1 (cnt (gA_fi G) i)]; exact lv_sub hl [1, 0, 3] rfl)
set_option maxRecDepth 20000 in
set_option maxHeartbeats 4000000 in
theorem c_T_countFinished (l : Launch) (X : Xt) (G : Gc) (A : St) (hn : sA_n A ≤ 25) : Met l y_T_countFinished (Cond.code y_T_countFinished b_T_countFinished 4 (some .int) :: WA) rm_T_countFinished (va_Pc [.ref (gA_ad G 0)] (fun U => PR X G A U.heap ∧ KK X U)) (vp_Si (fun ans => ans = f_T_countFinished G A)) 0 0 (fun _ => False) := by
  refine vx_met (cc := b_T_countFinished) (maxL := 4) (ret := (some .int)) (by decide) rfl (Nat.le_of_ble_eq_true rfl) ?_
  intro p e s m below meth c ls hx hb hrt hts hown hlocks hname hml hB hl
  obtain ⟨hP, hK⟩ := hB
  have hown : s.vm.findClass R_ClusterTool = some m.cls := hown
  have hl : lv_has ls 4 [(0, .ref (gA_ad G 0))] := hl
  have hP : va_P X.1 classes (cw X G A) s.heap := hP
  refine lv_iconst (v := 0) hx hb d_T_countFinished_0 rfl ?_
  refine lv_istore_n (lv' := [(1, .int 0), (0, .ref (gA_ad G 0))]) hx hb d_T_countFinished_1 rfl hl (by decide) rfl (fun ls hl => ?_)
  refine lv_iconst (v := 0) hx hb d_T_countFinished_2 rfl ?_
  refine lv_istore_n (lv' := [(2, .int 0), (1, .int 0), (0, .ref (gA_ad G 0))]) hx hb d_T_countFinished_3 rfl hl (by decide) rfl (fun ls hl => ?_)
  refine lp_T_countFinished (G := G) (A := A) hx hb hts hown hml hK hn hP (fun ls hl => ?_) (sA_n A) 0 ls (by omega) (lv_sub hl [1, 0, 2] rfl)
  refine lv_iload_n hx hb d_T_countFinished_43 rfl (lv_at hl 0 rfl) ?_
  exact W.iret (v := nI (cnt (gA_fi G) (sA_n A))) hx hb hrt (fun t ht hW => ⟨_, rfl, rfl, ht⟩) (fun q h => by cases h) d_T_countFinished_44
abbrev rm_T_countLate : Room := { frames := 2, cells := 0, slots := 0, locals := 43 }
def f_T_countLate (A : St) : Int32 := nI (cnt (sA_la A) (sA_n A))
set_option maxRecDepth 20000 in
set_option maxHeartbeats 4000000 in
theorem lp_T_countLate {p : Program} {l : Launch} {e : Env} {s : State} {m : MethodId} {args : Array Value} {below : List Frame} {meth : Method} {c : Code} {Q : State → Prop} {X : Xt} {G : Gc} {A : St} (hx : p.tables.exec = Jvm.exec) (hb : c.code = b_T_countLate) (hts : ∀ w ∈ Cond.code y_T_countLate b_T_countLate 4 (some .int) :: WA, w.before args s = true) (hown : s.vm.findClass R_ClusterTool = some m.cls) (hml : c.maxLocals = 4) (hK : KK X s) (hn : sA_n A ≤ 25) (hP : va_P X.1 classes (cw X G A) s.heap)
    (kont : ∀ ls : Array Slot, lv_has ls 4 [(1, .int (nI (cnt (sA_la A) (sA_n A))))] → W p l e rm_T_countLate s m args below meth c s.heap [] 0 0 Q (F0 m 43 ls [])) :
    ∀ (r i : Nat) (ls : Array Slot), i + r = sA_n A → lv_has ls 4 [(1, .int (nI (cnt (sA_la A) i))), (2, .int (nI i)), (0, .ref (gA_ad G 0))] → W p l e rm_T_countLate s m args below meth c s.heap [] 0 0 Q (F0 m 4 ls []) := by
  intro r
  induction r with
  | zero =>
    intro i ls hi hl
    have hi : i = sA_n A := by omega
    subst hi
    refine lv_iload_n hx hb d_T_countLate_4 rfl (lv_at hl 1 rfl) ?_
    refine lv_aload_n hx hb d_T_countLate_5 rfl (lv_at hl 2 rfl) ?_
    refine va_get (D := X.1) (ci := 0) (C := R_ClusterTool) (T := F_ClusterTool) (N := 8) hx hb hts hin_ClusterTool hown hK.1 hP 0 cw_0 rfl 6 (by decide) (hts _ (wd_1 91 rfl rfl)) (fun _ h9 => h9) rfl d_T_countLate_6 ?_
    refine lv_icmp_ge (tgt := 43) hx hb d_T_countLate_9 rfl (fun h9 => ?_) (fun h9 => ?_)
    ·
      exact kont ls (lv_sub hl [0] rfl)
    ·
      exact absurd (nI_le (Nat.le_refl _) (by omega)) h9
  | succ r ih =>
    intro i ls hi hl
    have hin : i < sA_n A := by omega
    refine lv_iload_n hx hb d_T_countLate_4 rfl (lv_at hl 1 rfl) ?_
    refine lv_aload_n hx hb d_T_countLate_5 rfl (lv_at hl 2 rfl) ?_
    refine va_get (D := X.1) (ci := 0) (C := R_ClusterTool) (T := F_ClusterTool) (N := 8) hx hb hts hin_ClusterTool hown hK.1 hP 0 cw_0 rfl 6 (by decide) (hts _ (wd_1 91 rfl rfl)) (fun _ h9 => h9) rfl d_T_countLate_6 ?_
    refine lv_icmp_ge (tgt := 43) hx hb d_T_countLate_9 rfl (fun h9 => ?_) (fun h9 => ?_)
    ·
      exact absurd h9 (nI_ge hin (by omega))
    ·
      refine lv_aload_n hx hb d_T_countLate_12 rfl (lv_at hl 2 rfl) ?_
      refine lv_iload_n hx hb d_T_countLate_13 rfl (lv_at hl 1 rfl) ?_
      refine va_csq (W.runV (As := [.int (nI i)]) (rest := []) ⟨hx, hb, hml, hown, hts⟩ (c_T_waferOf l X G A (nI i) hn) (cwV 1 hts (gV (wd_1 180 rfl rfl) (wd_1 182 rfl rfl) (wd_s 0 rfl) (wd_1 1 rfl rfl) (wd_1 183 rfl rfl)) rfl rfl rfl ⟨rfl, hd_T_waferOf⟩ ⟨Nat.le_of_ble_eq_true rfl, Nat.le_of_ble_eq_true rfl⟩) (vx_preV (P := PR X G A) hP hK (va_recv hK.1 hP (ci := 0) rfl cw_0)) rfl rfl hl.1 rfl (lv_room (Nat.le_of_ble_eq_true rfl)) d_T_countLate_14 ⟨Nat.zero_le _, Nat.zero_le _⟩) (fun r14 e14 => ?_)
      cases q14 : f_T_waferOf A (nI i) with
      | none =>
        have e14 : r14 = none := by rw [e14, q14]; rfl
        subst e14
        exact absurd (waferOf_nI hn hin) (by rw [q14]; exact fun z => by cases z)
      | some i14 =>
        have e14 : r14 = some (gA_ad G (18 + 4 * i14)) := by rw [e14, q14]; rfl
        subst e14
        have hli14 := waferOf_lt hn q14
        have ei : i = i14 := Option.some.inj ((waferOf_nI hn hin).symm.trans q14)
        subst ei
        refine lv_astore_n (lv' := [(3, .ref (gA_ad G (18 + 4 * i))), (1, .int (nI (cnt (sA_la A) i))), (2, .int (nI i)), (0, .ref (gA_ad G 0))]) hx hb d_T_countLate_17 rfl hl (by decide) rfl (fun ls hl => ?_)
        refine lv_iload_n hx hb d_T_countLate_18 rfl (lv_at hl 1 rfl) ?_
        refine lv_aload_n hx hb d_T_countLate_19 rfl (lv_at hl 0 rfl) ?_
        refine lv_ifnull hx hb d_T_countLate_20 ?_
        refine lv_aload_n hx hb d_T_countLate_23 rfl (lv_at hl 0 rfl) ?_
        refine va_getN (D := X.1) (ci := 5) (C := R_Wafer) (T := F_Wafer) (N := 10) hx hb hts hin_Wafer hown hK.1 hP (18 + 4 * i) (cw_w hli14) rfl 9 (by decide) (va_Nw.use rfl (hK.2.1 _ (List.mem_of_getElem? (i := 17) rfl))) (fun _ h9 => h9) rfl d_T_countLate_24 ?_
        refine lv_if_eq (tgt := 34) hx hb d_T_countLate_27 rfl (fun h27 => ?_) (fun h27 => ?_)
        ·
          have h27 := b2i_f h27
          refine lv_iconst (v := 0) hx hb d_T_countLate_34 rfl ?_
          refine lv_iadd hx hb d_T_countLate_35 ?_
          rw [Int32.add_zero]
          refine lv_istore_n (lv' := [(1, .int (nI (cnt (sA_la A) i))), (3, .ref (gA_ad G (18 + 4 * i))), (2, .int (nI i)), (0, .ref (gA_ad G 0))]) hx hb d_T_countLate_36 rfl hl (by decide) rfl (fun ls hl => ?_)
          refine lv_iinc (k := 2) (v := (nI i + 1)) (lv' := [(2, .int (nI i + 1)), (1, .int (nI (cnt (sA_la A) i))), (3, .ref (gA_ad G (18 + 4 * i))), (0, .ref (gA_ad G 0))]) hx hb d_T_countLate_37 hl rfl rfl (by decide) rfl (fun ls hl => ?_)
          refine lv_goto (tgt := 4) hx hb d_T_countLate_40 rfl ?_
          exact ih (i + 1) ls (by omega) (by unfold cnt; rw [if_neg (nt_of h27), Nat.add_zero, ← nI_1 i]; exact lv_sub hl [1, 0, 3] rfl)
        ·
          have h27 := b2i_t h27
          refine lv_iconst (v := 1) hx hb d_T_countLate_30 rfl ?_
          refine lv_goto (tgt := 35) hx hb d_T_countLate_31 rfl ?_
          refine lv_iadd hx hb d_T_countLate_35 ?_
          refine lv_istore_n (lv' := [(1, .int ((nI (cnt (sA_la A) i)) + 1)), (3, .ref (gA_ad G (18 + 4 * i))), (2, .int (nI i)), (0, .ref (gA_ad G 0))]) hx hb d_T_countLate_36 rfl hl (by decide) rfl (fun ls hl => ?_)
          refine lv_iinc (k := 2) (v := (nI i + 1)) (lv' := [(2, .int (nI i + 1)), (1, .int ((nI (cnt (sA_la A) i)) + 1)), (3, .ref (gA_ad G (18 + 4 * i))), (0, .ref (gA_ad G 0))]) hx hb d_T_countLate_37 hl rfl rfl (by decide) rfl (fun ls hl => ?_)
          refine lv_goto (tgt := 4) hx hb d_T_countLate_40 rfl ?_
          exact ih (i + 1) ls (by omega) (by unfold cnt; rw [if_pos h27, ← nI_1 i, ← nI_1 (cnt (sA_la A) i)]; exact lv_sub hl [1, 0, 3] rfl)
set_option maxRecDepth 20000 in
set_option maxHeartbeats 4000000 in
theorem c_T_countLate (l : Launch) (X : Xt) (G : Gc) (A : St) (hn : sA_n A ≤ 25) : Met l y_T_countLate (Cond.code y_T_countLate b_T_countLate 4 (some .int) :: WA) rm_T_countLate (va_Pc [.ref (gA_ad G 0)] (fun U => PR X G A U.heap ∧ KK X U)) (vp_Si (fun ans => ans = f_T_countLate A)) 0 0 (fun _ => False) := by
  refine vx_met (cc := b_T_countLate) (maxL := 4) (ret := (some .int)) (by decide) rfl (Nat.le_of_ble_eq_true rfl) ?_
  intro p e s m below meth c ls hx hb hrt hts hown hlocks hname hml hB hl
  obtain ⟨hP, hK⟩ := hB
  have hown : s.vm.findClass R_ClusterTool = some m.cls := hown
  have hl : lv_has ls 4 [(0, .ref (gA_ad G 0))] := hl
  have hP : va_P X.1 classes (cw X G A) s.heap := hP
  refine lv_iconst (v := 0) hx hb d_T_countLate_0 rfl ?_
  refine lv_istore_n (lv' := [(1, .int 0), (0, .ref (gA_ad G 0))]) hx hb d_T_countLate_1 rfl hl (by decide) rfl (fun ls hl => ?_)
  refine lv_iconst (v := 0) hx hb d_T_countLate_2 rfl ?_
  refine lv_istore_n (lv' := [(2, .int 0), (1, .int 0), (0, .ref (gA_ad G 0))]) hx hb d_T_countLate_3 rfl hl (by decide) rfl (fun ls hl => ?_)
  refine lp_T_countLate (G := G) (A := A) hx hb hts hown hml hK hn hP (fun ls hl => ?_) (sA_n A) 0 ls (by omega) (lv_sub hl [1, 0, 2] rfl)
  refine lv_iload_n hx hb d_T_countLate_43 rfl (lv_at hl 0 rfl) ?_
  exact W.iret (v := nI (cnt (sA_la A) (sA_n A))) hx hb hrt (fun t ht hW => ⟨_, rfl, rfl, ht⟩) (fun q h => by cases h) d_T_countLate_44
end
section
/-! The search: what it asks, what it keeps. Own work. -/
def mvE (E : En) (S : Nat → Nat) : Bool := (List.range 30).any (fun t => okN E S (t / 6) (t % 6) && canE E (aft S (t / 6) (t % 6)))
theorem mvE_iff {E : En} {S : Nat → Nat} : mvE E S = true ↔ ∃ p, p < 5 ∧ ∃ q, q < 6 ∧ okN E S p q = true ∧ canE E (aft S p q) = true := by
  unfold mvE
  rw [any30 (fun p q => okN E S p q && canE E (aft S p q))]
  simp only [Bool.and_eq_true]
theorem canE_mv {E : En} (hE : e_ok E) {S : Nat → Nat} (h : phi S ≤ 40) : canE E S = (isZ S || mvE E S) := by
  rw [Bool.eq_iff_iff, canE_iff hE h, Bool.or_eq_true, mvE_iff]
theorem MI_add2 {E : En} {kn ps : Nat → Int64} {c : Nat} (h : MI E kn ps) (b : Bool) (hb : b = canE E (dig c)) :
    MI E (vp_updL kn (c / 64) (kn (c / 64) ||| bitL (c % 64))) (vp_updL ps (c / 64) (ps (c / 64) ||| (if b = true then bitL (c % 64) else 0))) := by
  intro c' hc'
  rw [kb_or]
  cases b with
  | true =>
    rw [if_pos rfl, kb_or, h c' hc']
    by_cases e : c' = c
    · subst e
      simp [← hb]
    · rw [show (c' == c) = false from beq_eq_false_iff_ne.mpr e]
      simp
  | false =>
    rw [if_neg (by decide), kb_or0, h c' hc']
    by_cases e : c' = c
    · subst e
      simp [← hb]
    · rw [show (c' == c) = false from beq_eq_false_iff_ne.mpr e]
      simp
theorem kb_set {K : Nat → Int64} {c : Nat} : kb (vp_updL K (c / 64) (K (c / 64) ||| bitL (c % 64))) c = true := by
  rw [kb_or]
  simp
theorem kb_0 {K : Nat → Int64} {c : Nat} : lg_cmp (K (c / 64) &&& bitL (c % 64)) 0 = 0 ↔ kb K c = false := by
  rw [lcmp_0, and_bit (by omega)]
  rfl
theorem kb_1 {K : Nat → Int64} {c : Nat} (h : ¬ lg_cmp (K (c / 64) &&& bitL (c % 64)) 0 = 0) : kb K c = true := by
  cases hk : kb K c with
  | true => rfl
  | false => exact absurd (kb_0.mpr hk) h
theorem ans_f {E : En} {kn ps : Nat → Int64} {S : Nat → Nat} (hS : fitS S) (hm : MI E kn ps) (hk : kb kn (enc S) = true) (h : lg_cmp (ps (enc S / 64) &&& bitL (enc S % 64)) 0 = 0) : b2i false = b2i (canE E S) := by
  have h1 := hm (enc S) (enc_lt hS)
  rw [kb_0.mp h, hk, dig_enc hS, Bool.true_and] at h1
  rw [← h1]
theorem ans_t {E : En} {kn ps : Nat → Int64} {S : Nat → Nat} (hS : fitS S) (hm : MI E kn ps) (hk : kb kn (enc S) = true) (h : ¬ lg_cmp (ps (enc S / 64) &&& bitL (enc S % 64)) 0 = 0) : b2i true = b2i (canE E S) := by
  have h1 := hm (enc S) (enc_lt hS)
  rw [kb_1 h, hk, dig_enc hS, Bool.true_and] at h1
  rw [← h1]
/-- all places have been tried for the goals above q -/
def triQ (E : En) (S : Nat → Nat) (q : Nat) : Prop := ∀ q', q < q' → q' < 6 → ∀ p, p < 5 → ¬ (okN E S p q' = true ∧ canE E (aft S p q') = true)
def triP (E : En) (S : Nat → Nat) (q f : Nat) : Prop := ∀ p, p < f → ¬ (okN E S p q = true ∧ canE E (aft S p q) = true)
theorem tri_next {E : En} {S : Nat → Nat} {q : Nat} (h : triQ E S (q + 1)) (h2 : triP E S (q + 1) 5) : triQ E S q := by
  intro q' h1 h3 p hp
  by_cases e : q' = q + 1
  · subst e; exact h2 p hp
  · exact h q' (by omega) h3 p hp
theorem tri_end {E : En} {S : Nat → Nat} (h : triQ E S 0) (h2 : triP E S 0 5) : mvE E S = false := by
  cases hm : mvE E S with
  | false => rfl
  | true =>
    obtain ⟨p, hp, q, hq, h3⟩ := mvE_iff.mp hm
    by_cases e : q = 0
    · subst e; exact absurd h3 (h2 p hp)
    · exact absurd h3 (h q (by omega) hq p hp)
theorem tri_p {E : En} {S : Nat → Nat} {q f : Nat} (h : triP E S q f) (h2 : ¬ (okN E S f q = true ∧ canE E (aft S f q) = true)) : triP E S q (f + 1) := by
  intro p hp
  by_cases e : p = f
  · subst e; exact h2
  · exact h p (by omega)
theorem no_ok1 {E : En} {S : Nat → Nat} {f q : Nat} {B : Prop} (h : nI (S f) = 0) (hS : fitS S) (hf : f < 5) : ¬ (okN E S f q = true ∧ B) := by
  have h0 : S f = 0 := (nI_eq (b := 0) (by have := fit16 hS hf; omega) (by omega)).mp h
  rintro ⟨h1, -⟩
  unfold okN at h1
  rw [h0] at h1
  simp at h1
theorem no_ok2 {E : En} {S : Nat → Nat} {f q : Nat} {B : Prop} (h : freeN S f q = false) : ¬ (okN E S f q = true ∧ B) := by
  rintro ⟨h1, -⟩
  unfold okN at h1
  rw [h] at h1
  simp at h1
theorem no_ok3 {E : En} {S : Nat → Nat} {f q : Nat} {B : Prop} (h : leadN (e_dn E) (mskN E (m_r (S f)) (m_s (S f))) f q = false) : ¬ (okN E S f q = true ∧ B) := by
  rintro ⟨h1, -⟩
  unfold okN at h1
  rw [h] at h1
  simp at h1
theorem ok_of {E : En} {S : Nat → Nat} {f q : Nat} (h1 : ¬ nI (S f) = 0) (h2 : freeN S f q = true) (h3 : leadN (e_dn E) (mskN E (m_r (S f)) (m_s (S f))) f q = true) : okN E S f q = true := by
  have h0 : S f ≠ 0 := fun e => h1 (by rw [e]; rfl)
  unfold okN
  rw [h2, h3]
  simp [h0]
theorem free_or {S : Nat → Nat} {p q : Nat} (h : freeN S p q = true) : q = 5 ∨ q = p ∨ S q = 0 := by
  unfold freeN at h
  simp at h
  rcases h with (h | h) | h
  · exact Or.inl h
  · exact Or.inr (Or.inl h)
  · exact Or.inr (Or.inr h)
theorem aft_nI {A : St} {S : Nat → Nat} {f q : Nat} (hR : rOk A) (hS : fitS S) (hf : f < 5) (hq : q < 6) (h2 : freeN S f q = true) (h3 : leadN (sA_dn A) (mskN (envA A) (m_r (S f)) (m_s (S f))) f q = true) : f_S_after (nI (enc S)) (nI (m_r (S f))) (nI (m_s (S f))) (nI f) (nI q) = nI (enc (aft S f q)) := by
  rw [aft_mov hf]
  exact after_nI hS (by omega) hq (by simp only [m_r]; omega) (by simp only [m_s]; omega) (fun h4 => mskN_pos (lead_q4 h3 h4) (env_ok hR)) (free_or h2)
abbrev rmM (n : Nat) : Room := { frames := 3 + 2 * n, cells := 0, slots := 0, locals := 300 + 55 * n }
abbrev rmS (n : Nat) : Room := { frames := 4 + 2 * n, cells := 0, slots := 0, locals := 328 + 55 * n }
def CS (l : Launch) (X : Xt) (n : Nat) : Prop := ∀ (G : Gc) (A : St) (Af : Nat → Prop) (S : Nat → Nat) (d : Nat), rOk A → MI (envA A) (gA_kn G) (gA_ps G) → fitS S → phi S ≤ n → phi S + d ≤ 34 →
  Met l y_E_search (Cond.code y_E_search b_E_search 8 (some .boolean) :: WA) (rmS n) (va_Pc [.ref (gA_ad G 2), .ref (gA_ad G 1), .int (nI (enc S)), .int (nI d)] (fun U => PW X Af G A U.heap ∧ KK X U))
    (va_Qi (fun ans u => ans = b2i (canE (envA A) S) ∧ ∃ kn ps, MI (envA A) kn ps ∧ (isZ S = true → kn = gA_kn G ∧ ps = gA_ps G) ∧ u = (gU_ps (gU_kn G kn) ps, A)) (atC X Af) Af) 0 0 Af
def CM (l : Launch) (X : Xt) (n : Nat) : Prop := ∀ (G : Gc) (A : St) (Af : Nat → Prop) (S : Nat → Nat) (d : Nat), rOk A → MI (envA A) (gA_kn G) (gA_ps G) → fitS S → phi S ≤ n → phi S + d ≤ 34 →
  Met l y_E_searchMoves (Cond.code y_E_searchMoves b_E_searchMoves 9 (some .boolean) :: WA) (rmM n) (va_Pc [.ref (gA_ad G 2), .ref (gA_ad G 1), .int (nI (enc S)), .int (nI d)] (fun U => PW X Af G A U.heap ∧ KK X U))
    (va_Qi (fun ans u => ans = b2i (mvE (envA A) S) ∧ ∃ kn ps, MI (envA A) kn ps ∧ u = (gU_ps (gU_kn G kn) ps, A)) (atC X Af) Af) 0 0 Af
end
section
set_option maxRecDepth 20000 in
set_option maxHeartbeats 4000000 in
theorem lp_E_inner {p : Program} {l : Launch} {e : Env} {s : State} {m : MethodId} {args : Array Value} {below : List Frame} {meth : Method} {c : Code} {Q : State → Prop} {X : Xt} {G : Gc} {A : St} {Af : Nat → Prop} {S : Nat → Nat} {d nn : Nat} (hx : p.tables.exec = Jvm.exec) (hb : c.code = b_E_searchMoves) (hts : ∀ w ∈ Cond.code y_E_searchMoves b_E_searchMoves 9 (some .boolean) :: WA, w.before args s = true) (hown : s.vm.findClass R_Emptying = some m.cls) (hml : c.maxLocals = 9) (hK : KK X s) (hR : rOk A) (hfS : fitS S) (hd : phi S + d ≤ 34) (hnn : phi S ≤ nn) (ih : ∀ k, k < nn → CS l X k) {q : Nat} (hq : q < 6) (kontT : ∀ (kn ps : Nat → Int64) (H : Heap) (locs : List Loc) (ls : Array Slot), mvE (envA A) S = true → MI (envA A) kn ps → va_P X.1 classes (cw X (gU_ps (gU_kn G kn) ps) A) H → va_D Af (cw X (gU_ps (gU_kn G kn) ps) A) → va_S Af s.heap H locs → W p l e (rmM nn) s m args below meth c H locs 0 0 Q (F0 m 94 ls [.int 1]))
    (kont : ∀ (kn ps : Nat → Int64) (H : Heap) (locs : List Loc) (ls : Array Slot), triP (envA A) S q 5 → MI (envA A) kn ps → va_P X.1 classes (cw X (gU_ps (gU_kn G kn) ps) A) H → va_D Af (cw X (gU_ps (gU_kn G kn) ps) A) → va_S Af s.heap H locs → lv_has ls 9 [(4, .int (nI q)), (2, .int (nI (enc S))), (3, .int (nI d)), (0, .ref (gA_ad G 2)), (1, .ref (gA_ad G 1))] → W p l e (rmM nn) s m args below meth c H locs 0 0 Q (F0 m 101 ls [])) :
    ∀ (r f : Nat) (kn ps : Nat → Int64) (H : Heap) (locs : List Loc) (ls : Array Slot), f + r = 5 → triP (envA A) S q f → MI (envA A) kn ps → va_P X.1 classes (cw X (gU_ps (gU_kn G kn) ps) A) H → va_D Af (cw X (gU_ps (gU_kn G kn) ps) A) → va_S Af s.heap H locs → lv_has ls 9 [(5, .int (nI f)), (4, .int (nI q)), (2, .int (nI (enc S))), (3, .int (nI d)), (0, .ref (gA_ad G 2)), (1, .ref (gA_ad G 1))] → W p l e (rmM nn) s m args below meth c H locs 0 0 Q (F0 m 11 ls []) := by
  intro r
  induction r with
  | zero =>
    intro f kn ps H locs ls hfr htr hm hP hD hS hl
    have hfr : f = 5 := by omega
    subst hfr
    refine lv_iload hx hb d_E_searchMoves_11 (lv_at hl 0 rfl) ?_
    refine lv_iconst (v := 4) hx hb d_E_searchMoves_13 rfl ?_
    refine lv_icmp_gt (tgt := 101) hx hb d_E_searchMoves_14 rfl (fun h14 => ?_) (fun h14 => ?_)
    ·
      exact kont kn ps H locs ls htr hm hP hD hS (lv_sub hl [1, 2, 3, 4, 5] rfl)
    ·
      exact absurd (by decide) h14
  | succ r ihr =>
    intro f kn ps H locs ls hfr htr hm hP hD hS hl
    have hf5 : f < 5 := by omega
    refine lv_iload hx hb d_E_searchMoves_11 (lv_at hl 0 rfl) ?_
    refine lv_iconst (v := 4) hx hb d_E_searchMoves_13 rfl ?_
    refine lv_icmp_gt (tgt := 101) hx hb d_E_searchMoves_14 rfl (fun h14 => ?_) (fun h14 => ?_)
    ·
      exact absurd h14 (nI_nlt (a := 4) (b := f) (by omega) (by omega))
    ·
      refine lv_iload_n hx hb d_E_searchMoves_17 rfl (lv_at hl 2 rfl) ?_
      refine lv_iload hx hb d_E_searchMoves_18 (lv_at hl 0 rfl) ?_
      refine vp_callSi (W.runS (As := [.int (nI (enc S)), .int (nI f)]) (rest := []) ⟨hx, hb, hml, hown, hts⟩ (c_S_markAt l X (nI (enc S)) (nI f)) (va_cwS 2 hts (gT (wd_2 4 rfl rfl) (wd_1 233 rfl rfl) (wd_1 8 rfl rfl) (wd_1 234 rfl rfl)) rfl rfl rfl hd_S_markAt ⟨Nat.le_trans (m := 3) (Nat.le_of_ble_eq_true rfl) (Nat.le_add_right _ _), Nat.le_trans (m := 300) (Nat.le_of_ble_eq_true rfl) (Nat.le_add_right _ _)⟩) (vx_preS (P := fun _ => True) trivial hK) rfl rfl hl.1 rfl (lv_room (Nat.le_of_ble_eq_true rfl)) d_E_searchMoves_20 ⟨Nat.zero_le _, Nat.zero_le _⟩) (fun r20 e20 => ?_)
      subst e20
      rw [markAt_nI hfS hf5]
      refine lv_istore (lv' := [(6, .int (nI (S f))), (5, .int (nI f)), (4, .int (nI q)), (2, .int (nI (enc S))), (3, .int (nI d)), (0, .ref (gA_ad G 2)), (1, .ref (gA_ad G 1))]) hx hb d_E_searchMoves_23 hl (by decide) rfl (fun ls hl => ?_)
      refine lv_iload hx hb d_E_searchMoves_25 (lv_at hl 0 rfl) ?_
      refine vp_callSi (W.runS (As := [.int (nI (S f))]) (rest := []) ⟨hx, hb, hml, hown, hts⟩ (c_S_routeIn l X (nI (S f))) (va_cwS 1 hts (gT (wd_2 5 rfl rfl) (wd_2 6 rfl rfl) (wd_1 8 rfl rfl) (wd_2 7 rfl rfl)) rfl rfl rfl hd_S_routeIn ⟨Nat.le_trans (m := 3) (Nat.le_of_ble_eq_true rfl) (Nat.le_add_right _ _), Nat.le_trans (m := 300) (Nat.le_of_ble_eq_true rfl) (Nat.le_add_right _ _)⟩) (vx_preS (P := fun _ => True) trivial hK) rfl rfl hl.1 rfl (lv_room (Nat.le_of_ble_eq_true rfl)) d_E_searchMoves_27 ⟨Nat.zero_le _, Nat.zero_le _⟩) (fun r27 e27 => ?_)
      subst e27
      rw [routeIn_nI _ (fit16 hfS hf5)]
      refine lv_istore (lv' := [(7, .int (nI (m_r (S f)))), (6, .int (nI (S f))), (5, .int (nI f)), (4, .int (nI q)), (2, .int (nI (enc S))), (3, .int (nI d)), (0, .ref (gA_ad G 2)), (1, .ref (gA_ad G 1))]) hx hb d_E_searchMoves_30 hl (by decide) rfl (fun ls hl => ?_)
      refine lv_iload hx hb d_E_searchMoves_32 (lv_at hl 1 rfl) ?_
      refine vp_callSi (W.runS (As := [.int (nI (S f))]) (rest := []) ⟨hx, hb, hml, hown, hts⟩ (c_S_stageIn l X (nI (S f))) (va_cwS 1 hts (gT (wd_2 8 rfl rfl) (wd_2 9 rfl rfl) (wd_1 8 rfl rfl) (wd_2 10 rfl rfl)) rfl rfl rfl hd_S_stageIn ⟨Nat.le_trans (m := 3) (Nat.le_of_ble_eq_true rfl) (Nat.le_add_right _ _), Nat.le_trans (m := 300) (Nat.le_of_ble_eq_true rfl) (Nat.le_add_right _ _)⟩) (vx_preS (P := fun _ => True) trivial hK) rfl rfl hl.1 rfl (lv_room (Nat.le_of_ble_eq_true rfl)) d_E_searchMoves_34 ⟨Nat.zero_le _, Nat.zero_le _⟩) (fun r34 e34 => ?_)
      subst e34
      rw [stageIn_nI _ (fit16 hfS hf5)]
      refine lv_istore (lv' := [(8, .int (nI (m_s (S f)))), (7, .int (nI (m_r (S f)))), (6, .int (nI (S f))), (5, .int (nI f)), (4, .int (nI q)), (2, .int (nI (enc S))), (3, .int (nI d)), (0, .ref (gA_ad G 2)), (1, .ref (gA_ad G 1))]) hx hb d_E_searchMoves_37 hl (by decide) rfl (fun ls hl => ?_)
      refine lv_iload hx hb d_E_searchMoves_39 (lv_at hl 2 rfl) ?_
      refine lv_if_eq (tgt := 95) hx hb d_E_searchMoves_41 rfl (fun h41 => ?_) (fun h41 => ?_)
      ·
        refine lv_iinc (k := 3) (v := (nI f + 1)) (lv' := [(5, .int (nI f + 1)), (8, .int (nI (m_s (S f)))), (7, .int (nI (m_r (S f)))), (6, .int (nI (S f))), (4, .int (nI q)), (2, .int (nI (enc S))), (3, .int (nI d)), (0, .ref (gA_ad G 2)), (1, .ref (gA_ad G 1))]) hx hb d_E_searchMoves_95 hl rfl rfl (by decide) rfl (fun ls hl => ?_)
        refine lv_goto (tgt := 11) hx hb d_E_searchMoves_98 rfl ?_
        exact ihr (f + 1) kn ps H locs ls (by omega) (tri_p htr (no_ok1 h41 hfS hf5)) hm hP hD hS (by rw [← nI_1]; exact lv_sub hl [0, 4, 5, 6, 7, 8] rfl)
      ·
        refine lv_iload_n hx hb d_E_searchMoves_44 rfl (lv_at hl 5 rfl) ?_
        refine lv_iload hx hb d_E_searchMoves_45 (lv_at hl 3 rfl) ?_
        refine lv_iload hx hb d_E_searchMoves_47 (lv_at hl 4 rfl) ?_
        refine vp_callSi (W.runS (As := [.int (nI (enc S)), .int (nI f), .int (nI q)]) (rest := []) ⟨hx, hb, hml, hown, hts⟩ (c_S_isFree l X (nI (enc S)) (nI f) (nI q)) (va_cwS 3 hts (gT (wd_2 11 rfl rfl) (wd_2 12 rfl rfl) (wd_1 8 rfl rfl) (wd_2 13 rfl rfl)) rfl rfl rfl hd_S_isFree ⟨Nat.le_trans (m := 3) (Nat.le_of_ble_eq_true rfl) (Nat.le_add_right _ _), Nat.le_trans (m := 300) (Nat.le_of_ble_eq_true rfl) (Nat.le_add_right _ _)⟩) (vx_preS (P := fun _ => True) trivial hK) rfl rfl hl.1 rfl (lv_room (Nat.le_of_ble_eq_true rfl)) d_E_searchMoves_49 ⟨Nat.zero_le _, Nat.zero_le _⟩) (fun r49 e49 => ?_)
        subst e49
        rw [isFree_nI hfS hf5 hq]
        refine lv_if_eq (tgt := 95) hx hb d_E_searchMoves_52 rfl (fun h52 => ?_) (fun h52 => ?_)
        ·
          have h52 := b2i_f h52
          refine lv_iinc (k := 3) (v := (nI f + 1)) (lv' := [(5, .int (nI f + 1)), (8, .int (nI (m_s (S f)))), (7, .int (nI (m_r (S f)))), (6, .int (nI (S f))), (4, .int (nI q)), (2, .int (nI (enc S))), (3, .int (nI d)), (0, .ref (gA_ad G 2)), (1, .ref (gA_ad G 1))]) hx hb d_E_searchMoves_95 hl rfl rfl (by decide) rfl (fun ls hl => ?_)
          refine lv_goto (tgt := 11) hx hb d_E_searchMoves_98 rfl ?_
          exact ihr (f + 1) kn ps H locs ls (by omega) (tri_p htr (no_ok2 h52)) hm hP hD hS (by rw [← nI_1]; exact lv_sub hl [0, 4, 5, 6, 7, 8] rfl)
        ·
          have h52 := b2i_t h52
          refine lv_aload_n hx hb d_E_searchMoves_55 rfl (lv_at hl 8 rfl) ?_
          refine lv_iload hx hb d_E_searchMoves_56 (lv_at hl 1 rfl) ?_
          refine lv_iload hx hb d_E_searchMoves_58 (lv_at hl 0 rfl) ?_
          refine lv_iload hx hb d_E_searchMoves_60 (lv_at hl 3 rfl) ?_
          refine lv_iload hx hb d_E_searchMoves_62 (lv_at hl 4 rfl) ?_
          refine vp_callSi (W.runV (As := [.int (nI (m_r (S f))), .int (nI (m_s (S f))), .int (nI f), .int (nI q)]) (rest := []) ⟨hx, hb, hml, hown, hts⟩ (c_Y_leads l X (gU_ps (gU_kn G kn) ps) A (nI (m_r (S f))) (nI (m_s (S f))) (nI f) (nI q) hR) (cwV 4 hts (gV (wd_2 14 rfl rfl) (wd_1 185 rfl rfl) (wd_1 186 rfl rfl) (wd_1 2 rfl rfl) (wd_1 187 rfl rfl)) rfl rfl rfl ⟨rfl, hd_Y_leads⟩ ⟨Nat.le_trans (m := 3) (Nat.le_of_ble_eq_true rfl) (Nat.le_add_right _ _), Nat.le_trans (m := 300) (Nat.le_of_ble_eq_true rfl) (Nat.le_add_right _ _)⟩) (vx_preV (P := PR X (gU_ps (gU_kn G kn) ps) A) hP hK (va_recv hK.1 hP (ci := 1) rfl cw_1)) rfl rfl hl.1 rfl (lv_room (Nat.le_of_ble_eq_true rfl)) d_E_searchMoves_64 ⟨Nat.zero_le _, Nat.zero_le _⟩) (fun r64 e64 => ?_)
          subst e64
          rw [leads_nI hR (show m_r (S f) < 2 by simp only [m_r]; omega) (show m_s (S f) < 4 by simp only [m_s]; omega) (by omega) hq]
          refine lv_if_eq (tgt := 95) hx hb d_E_searchMoves_67 rfl (fun h67 => ?_) (fun h67 => ?_)
          ·
            have h67 := b2i_f h67
            refine lv_iinc (k := 3) (v := (nI f + 1)) (lv' := [(5, .int (nI f + 1)), (8, .int (nI (m_s (S f)))), (7, .int (nI (m_r (S f)))), (6, .int (nI (S f))), (4, .int (nI q)), (2, .int (nI (enc S))), (3, .int (nI d)), (0, .ref (gA_ad G 2)), (1, .ref (gA_ad G 1))]) hx hb d_E_searchMoves_95 hl rfl rfl (by decide) rfl (fun ls hl => ?_)
            refine lv_goto (tgt := 11) hx hb d_E_searchMoves_98 rfl ?_
            exact ihr (f + 1) kn ps H locs ls (by omega) (tri_p htr (no_ok3 h67)) hm hP hD hS (by rw [← nI_1]; exact lv_sub hl [0, 4, 5, 6, 7, 8] rfl)
          ·
            have h67 := b2i_t h67
            refine lv_aload_n hx hb d_E_searchMoves_70 rfl (lv_at hl 7 rfl) ?_
            refine lv_aload_n hx hb d_E_searchMoves_71 rfl (lv_at hl 8 rfl) ?_
            refine lv_iload_n hx hb d_E_searchMoves_72 rfl (lv_at hl 5 rfl) ?_
            refine lv_iload hx hb d_E_searchMoves_73 (lv_at hl 1 rfl) ?_
            refine lv_iload hx hb d_E_searchMoves_75 (lv_at hl 0 rfl) ?_
            refine lv_iload hx hb d_E_searchMoves_77 (lv_at hl 3 rfl) ?_
            refine lv_iload hx hb d_E_searchMoves_79 (lv_at hl 4 rfl) ?_
            refine vp_callSi (W.runS (As := [.int (nI (enc S)), .int (nI (m_r (S f))), .int (nI (m_s (S f))), .int (nI f), .int (nI q)]) (rest := [.ref (gA_ad G 1), .ref (gA_ad G 2)]) ⟨hx, hb, hml, hown, hts⟩ (c_S_after l X (nI (enc S)) (nI (m_r (S f))) (nI (m_s (S f))) (nI f) (nI q)) (va_cwS 5 hts (gT (wd_2 15 rfl rfl) (wd_1 230 rfl rfl) (wd_1 8 rfl rfl) (wd_1 231 rfl rfl)) rfl rfl rfl hd_S_after ⟨Nat.le_trans (m := 3) (Nat.le_of_ble_eq_true rfl) (Nat.le_add_right _ _), Nat.le_trans (m := 300) (Nat.le_of_ble_eq_true rfl) (Nat.le_add_right _ _)⟩) (vx_preS (P := fun _ => True) trivial hK) rfl rfl hl.1 rfl (lv_room (Nat.le_of_ble_eq_true rfl)) d_E_searchMoves_81 ⟨Nat.zero_le _, Nat.zero_le _⟩) (fun r81 e81 => ?_)
            subst e81
            rw [aft_nI hR hfS hf5 hq h52 h67]
            refine lv_iload_n hx hb d_E_searchMoves_84 rfl (lv_at hl 6 rfl) ?_
            refine lv_iconst (v := 1) hx hb d_E_searchMoves_85 rfl ?_
            refine lv_iadd hx hb d_E_searchMoves_86 ?_
            rw [nI_1]
            have hok : okN (envA A) S f q = true := ok_of h41 h52 h67
            have hph := phi_aft (env_ok hR) hf5 hq hok
            obtain ⟨n, rfl⟩ : ∃ n, nn = n + 1 := ⟨nn - 1, by omega⟩
            refine va_calli (va_runV (As := [.ref (gA_ad G 1), .int (nI (enc (aft S f q))), .int (nI (d + 1))]) (rest := []) ⟨hx, hb, hml, hown, hts⟩ (ih n (by omega) (gU_ps (gU_kn G kn) ps) A Af (aft S f q) (d + 1) hR hm (fit_aft (env_ok hR) hfS (by omega) (by omega) hok) (by omega) (by omega)) (cwV 3 hts (gV (wd_2 16 rfl rfl) (wd_1 238 rfl rfl) (wd_s 5 rfl) (wd_1 4 rfl rfl) (wd_1 239 rfl rfl)) rfl rfl rfl ⟨rfl, hd_E_search⟩ ⟨by show 4 + 2 * n + 1 ≤ 3 + 2 * (n + 1); omega, by show 8 + (8 + 11) + (328 + 55 * n) ≤ 300 + 55 * (n + 1); omega⟩) (vx_preV (P := PW X Af (gU_ps (gU_kn G kn) ps) A) ⟨hP, hD⟩ hK (va_recv hK.1 hP (ci := 2) rfl cw_2)) rfl rfl hl.1 rfl (lv_room (Nat.le_of_ble_eq_true rfl)) d_E_searchMoves_87 ⟨Nat.zero_le _, Nat.zero_le _⟩) hS (fun q _ h => h) (fun q h => h) (fun r87 u87 t87 H locs ht hvm hu87 hB hz hk hS => ?_)
            obtain ⟨hP, hD⟩ := hB
            rw [ht] at hP
            obtain ⟨e87, kn87, ps87, hm87, hz87, hu87⟩ := hu87
            subst e87
            subst hu87
            have hP : va_P X.1 classes (cw X (gU_ps (gU_kn G kn87) ps87) A) H := hP
            have hD : va_D Af (cw X (gU_ps (gU_kn G kn87) ps87) A) := hD
            refine lv_if_eq (tgt := 95) hx hb d_E_searchMoves_90 rfl (fun h90 => ?_) (fun h90 => ?_)
            ·
              have h90 := b2i_f h90
              refine lv_iinc (k := 3) (v := (nI f + 1)) (lv' := [(5, .int (nI f + 1)), (8, .int (nI (m_s (S f)))), (7, .int (nI (m_r (S f)))), (6, .int (nI (S f))), (4, .int (nI q)), (2, .int (nI (enc S))), (3, .int (nI d)), (0, .ref (gA_ad G 2)), (1, .ref (gA_ad G 1))]) hx hb d_E_searchMoves_95 hl rfl rfl (by decide) rfl (fun ls hl => ?_)
              refine lv_goto (tgt := 11) hx hb d_E_searchMoves_98 rfl ?_
              exact ihr (f + 1) kn87 ps87 H locs ls (by omega) (tri_p htr (fun z => absurd z.2 (nt_of h90))) hm87 hP hD hS (by rw [← nI_1]; exact lv_sub hl [0, 4, 5, 6, 7, 8] rfl)
            ·
              have h90 := b2i_t h90
              refine lv_iconst (v := 1) hx hb d_E_searchMoves_93 rfl ?_
              exact kontT kn87 ps87 H locs ls (mvE_iff.mpr ⟨f, hf5, q, hq, hok, h90⟩) hm87 hP hD hS
set_option maxRecDepth 20000 in
set_option maxHeartbeats 4000000 in
theorem lp_E_outer {p : Program} {l : Launch} {e : Env} {s : State} {m : MethodId} {args : Array Value} {below : List Frame} {meth : Method} {c : Code} {Q : State → Prop} {X : Xt} {G : Gc} {A : St} {Af : Nat → Prop} {S : Nat → Nat} {d nn : Nat} (hx : p.tables.exec = Jvm.exec) (hb : c.code = b_E_searchMoves) (hts : ∀ w ∈ Cond.code y_E_searchMoves b_E_searchMoves 9 (some .boolean) :: WA, w.before args s = true) (hown : s.vm.findClass R_Emptying = some m.cls) (hml : c.maxLocals = 9) (hK : KK X s) (hR : rOk A) (hfS : fitS S) (hd : phi S + d ≤ 34) (hnn : phi S ≤ nn) (ih : ∀ k, k < nn → CS l X k) (kontT : ∀ (kn ps : Nat → Int64) (H : Heap) (locs : List Loc) (ls : Array Slot), mvE (envA A) S = true → MI (envA A) kn ps → va_P X.1 classes (cw X (gU_ps (gU_kn G kn) ps) A) H → va_D Af (cw X (gU_ps (gU_kn G kn) ps) A) → va_S Af s.heap H locs → W p l e (rmM nn) s m args below meth c H locs 0 0 Q (F0 m 94 ls [.int 1]))
    (kont : ∀ (kn ps : Nat → Int64) (H : Heap) (locs : List Loc) (ls : Array Slot), mvE (envA A) S = false → MI (envA A) kn ps → va_P X.1 classes (cw X (gU_ps (gU_kn G kn) ps) A) H → va_D Af (cw X (gU_ps (gU_kn G kn) ps) A) → va_S Af s.heap H locs → W p l e (rmM nn) s m args below meth c H locs 0 0 Q (F0 m 107 ls [])) :
    ∀ (q : Nat) (kn ps : Nat → Int64) (H : Heap) (locs : List Loc) (ls : Array Slot), q < 6 → triQ (envA A) S q → MI (envA A) kn ps → va_P X.1 classes (cw X (gU_ps (gU_kn G kn) ps) A) H → va_D Af (cw X (gU_ps (gU_kn G kn) ps) A) → va_S Af s.heap H locs → lv_has ls 9 [(4, .int (nI q)), (2, .int (nI (enc S))), (3, .int (nI d)), (0, .ref (gA_ad G 2)), (1, .ref (gA_ad G 1))] → W p l e (rmM nn) s m args below meth c H locs 0 0 Q (F0 m 3 ls []) := by
  intro q
  induction q with
  | zero =>
    intro kn ps H locs ls hq htq hm hP hD hS hl
    refine lv_iload hx hb d_E_searchMoves_3 (lv_at hl 0 rfl) ?_
    refine lv_if_lt (tgt := 107) hx hb d_E_searchMoves_5 rfl (fun h5 => ?_) (fun h5 => ?_)
    ·
      exact absurd h5 (by decide)
    ·
      refine lv_iconst (v := 0) hx hb d_E_searchMoves_8 rfl ?_
      refine lv_istore (lv' := [(5, .int 0), (4, .int (nI 0)), (2, .int (nI (enc S))), (3, .int (nI d)), (0, .ref (gA_ad G 2)), (1, .ref (gA_ad G 1))]) hx hb d_E_searchMoves_9 hl (by decide) rfl (fun ls hl => ?_)
      refine lp_E_inner (G := G) (q := 0) hx hb hts hown hml hK hR hfS hd hnn ih (by omega) kontT (fun kn ps H locs ls htp hm hP hD hS hl => ?_) 5 0 kn ps H locs ls (by omega) (fun z hz => by omega) hm hP hD hS (lv_sub hl [0, 1, 2, 3, 4, 5] rfl)
      refine lv_iinc (k := 0) (v := (nI (0) + (-1))) (lv' := [(4, .int (nI (0) + (-1))), (2, .int (nI (enc S))), (3, .int (nI d)), (0, .ref (gA_ad G 2)), (1, .ref (gA_ad G 1))]) hx hb d_E_searchMoves_101 hl rfl rfl (by decide) rfl (fun ls hl => ?_)
      refine lv_goto (tgt := 3) hx hb d_E_searchMoves_104 rfl ?_
      refine lv_iload hx hb d_E_searchMoves_3 (lv_at hl 0 rfl) ?_
      refine lv_if_lt (tgt := 107) hx hb d_E_searchMoves_5 rfl (fun h5 => ?_) (fun h5 => absurd (by decide) h5)
      exact kont kn ps H locs ls (tri_end htq htp) hm hP hD hS
  | succ q ihq =>
    intro kn ps H locs ls hq htq hm hP hD hS hl
    refine lv_iload hx hb d_E_searchMoves_3 (lv_at hl 0 rfl) ?_
    refine lv_if_lt (tgt := 107) hx hb d_E_searchMoves_5 rfl (fun h5 => ?_) (fun h5 => ?_)
    ·
      exact absurd h5 (nI_pos (by omega))
    ·
      refine lv_iconst (v := 0) hx hb d_E_searchMoves_8 rfl ?_
      refine lv_istore (lv' := [(5, .int 0), (4, .int (nI (q + 1))), (2, .int (nI (enc S))), (3, .int (nI d)), (0, .ref (gA_ad G 2)), (1, .ref (gA_ad G 1))]) hx hb d_E_searchMoves_9 hl (by decide) rfl (fun ls hl => ?_)
      refine lp_E_inner (G := G) (q := q + 1) hx hb hts hown hml hK hR hfS hd hnn ih (by omega) kontT (fun kn ps H locs ls htp hm hP hD hS hl => ?_) 5 0 kn ps H locs ls (by omega) (fun z hz => by omega) hm hP hD hS (lv_sub hl [0, 1, 2, 3, 4, 5] rfl)
      refine lv_iinc (k := 0) (v := (nI (q + 1) + (-1))) (lv' := [(4, .int (nI (q + 1) + (-1))), (2, .int (nI (enc S))), (3, .int (nI d)), (0, .ref (gA_ad G 2)), (1, .ref (gA_ad G 1))]) hx hb d_E_searchMoves_101 hl rfl rfl (by decide) rfl (fun ls hl => ?_)
      refine lv_goto (tgt := 3) hx hb d_E_searchMoves_104 rfl ?_
      exact ihq kn ps H locs ls (by omega) (tri_next htq htp) hm hP hD hS (by rw [← pk_m1]; exact lv_sub hl [0, 1, 2, 3, 4] rfl)
set_option maxRecDepth 20000 in
set_option maxHeartbeats 4000000 in
theorem c_E_searchMoves_of (l : Launch) (X : Xt) (nn : Nat) (ih : ∀ k, k < nn → CS l X k) : CM l X nn := by
  intro G A Af S d hR hm hfS hnn hd
  refine vx_met (cc := b_E_searchMoves) (maxL := 9) (ret := (some .boolean)) (by decide) rfl (Nat.le_of_ble_eq_true rfl) ?_
  intro p e s m below meth c ls hx hb hrt hts hown hlocks hname hml hB hl
  obtain ⟨hP, hK⟩ := hB
  have hown : s.vm.findClass R_Emptying = some m.cls := hown
  have hl : lv_has ls 9 [(0, .ref (gA_ad G 2)), (1, .ref (gA_ad G 1)), (2, .int (nI (enc S))), (3, .int (nI d))] := hl
  have hD : va_D Af (cw X G A) := hP.2
  have hP : va_P X.1 classes (cw X G A) s.heap := hP.1
  have hS : va_S Af s.heap s.heap [] := va_S.rf
  refine lv_iconst (v := 5) hx hb d_E_searchMoves_0 rfl ?_
  refine lv_istore (lv' := [(4, .int 5), (0, .ref (gA_ad G 2)), (1, .ref (gA_ad G 1)), (2, .int (nI (enc S))), (3, .int (nI d))]) hx hb d_E_searchMoves_1 hl (by decide) rfl (fun ls hl => ?_)
  refine lp_E_outer (G := G) hx hb hts hown hml hK hR hfS hd hnn ih (fun kn ps H locs ls hmv hm hP hD hS => ?_) (fun kn ps H locs ls hmv hm hP hD hS => ?_) 5 (gA_kn G) (gA_ps G) _ _ ls (by omega) (fun q' h1 h2 => by omega) hm hP hD hS (lv_sub hl [0, 3, 4, 1, 2] rfl)
  · exact W.zret (v := b2i true) hx hb hrt (b2i_nar _) (fun t ht hW => ⟨⟨_, ((gU_ps (gU_kn G kn) ps), A), rfl, ⟨by rw [hmv], kn, ps, hm, rfl⟩, ⟨by rw [ht]; exact hP, hD⟩⟩, hS.F ht⟩) hS.2.2 d_E_searchMoves_94
  · refine lv_iconst (v := 0) hx hb d_E_searchMoves_107 rfl ?_
    exact W.zret (v := b2i false) hx hb hrt (b2i_nar _) (fun t ht hW => ⟨⟨_, ((gU_ps (gU_kn G kn) ps), A), rfl, ⟨by rw [hmv], kn, ps, hm, rfl⟩, ⟨by rw [ht]; exact hP, hD⟩⟩, hS.F ht⟩) hS.2.2 d_E_searchMoves_108
set_option maxRecDepth 20000 in
set_option maxHeartbeats 4000000 in
theorem c_E_search_of (l : Launch) (X : Xt) (nn : Nat) (hM : CM l X nn) : CS l X nn := by
  intro G A Af S d hR hm hfS hnn hd
  refine vx_met (cc := b_E_search) (maxL := 8) (ret := (some .boolean)) (by decide) rfl (Nat.le_of_ble_eq_true rfl) ?_
  intro p e s m below meth c ls hx hb hrt hts hown hlocks hname hml hB hl
  obtain ⟨hP, hK⟩ := hB
  have hown : s.vm.findClass R_Emptying = some m.cls := hown
  have hl : lv_has ls 8 [(0, .ref (gA_ad G 2)), (1, .ref (gA_ad G 1)), (2, .int (nI (enc S))), (3, .int (nI d))] := hl
  have hD : va_D Af (cw X G A) := hP.2
  have hP : va_P X.1 classes (cw X G A) s.heap := hP.1
  have hS : va_S Af s.heap s.heap [] := va_S.rf
  have hlt := enc_lt hfS
  refine lv_iload_n hx hb d_E_search_0 rfl (lv_at hl 2 rfl) ?_
  refine lv_if_ne (tgt := 6) hx hb d_E_search_1 rfl (fun h1 => ?_) (fun h1 => ?_)
  ·
    refine lv_iload_n hx hb d_E_search_6 rfl (lv_at hl 3 rfl) ?_
    refine lv_bipush (v := 35) hx hb d_E_search_7 rfl ?_
    refine lv_icmp_lt (tgt := 14) hx hb d_E_search_9 rfl (fun h9 => ?_) (fun h9 => ?_)
    ·
      refine lv_iload_n hx hb d_E_search_14 rfl (lv_at hl 2 rfl) ?_
      refine lv_bipush (v := 6) hx hb d_E_search_15 rfl ?_
      refine lv_ishr hx hb d_E_search_17 ?_
      refine lv_sipush (v := 1023) hx hb d_E_search_18 rfl ?_
      refine lv_iand hx hb d_E_search_21 ?_
      rw [row_ix hlt]
      refine lv_istore (lv' := [(4, .int (nI (enc S / 64))), (0, .ref (gA_ad G 2)), (1, .ref (gA_ad G 1)), (2, .int (nI (enc S))), (3, .int (nI d))]) hx hb d_E_search_22 hl (by decide) rfl (fun ls hl => ?_)
      refine lv_lconst (v := 1) hx hb d_E_search_24 rfl ?_
      refine lv_iload_n hx hb d_E_search_25 rfl (lv_at hl 3 rfl) ?_
      refine lv_bipush (v := 63) hx hb d_E_search_26 rfl ?_
      refine lv_iand hx hb d_E_search_28 ?_
      rw [bit_ix hlt]
      refine lv_lshl hx hb d_E_search_29 rfl ?_
      refine lv_lstore (lv' := [(5, .long (bitL (enc S % 64))), (4, .int (nI (enc S / 64))), (0, .ref (gA_ad G 2)), (1, .ref (gA_ad G 1)), (2, .int (nI (enc S))), (3, .int (nI d))]) hx hb d_E_search_30 hl (by decide) rfl (fun ls hl => ?_)
      refine lv_aload_n hx hb d_E_search_32 rfl (lv_at hl 2 rfl) ?_
      refine va_get (D := X.1) (ci := 2) (C := R_Emptying) (T := F_Emptying) (N := 2) hx hb hts hin_Emptying hown hK.1 hP 2 cw_2 rfl 0 (by decide) (hts _ (wd_1 60 rfl rfl)) (fun _ h9 => h9) rfl d_E_search_33 ?_
      refine lv_iload hx hb d_E_search_36 (lv_at hl 1 rfl) ?_
      refine va_lald hx hb hK.1 hP 16 1 cw_16 rfl (vp_in_nI (n := enc S / 64) (by omega) (by omega)) d_E_search_38 ?_
      rw [nI_clamp (n := enc S / 64) (by omega)]
      refine lv_lload hx hb d_E_search_39 (lv_at hl 0 rfl) ?_
      refine lv_land hx hb d_E_search_41 ?_
      refine lv_lconst (v := 0) hx hb d_E_search_42 rfl ?_
      refine W.lcmp hx hb d_E_search_43 ?_
      refine lv_if_ne (tgt := 89) hx hb d_E_search_44 rfl (fun h44 => ?_) (fun h44 => ?_)
      ·
        refine lv_aload_n hx hb d_E_search_89 rfl (lv_at hl 2 rfl) ?_
        refine va_get (D := X.1) (ci := 2) (C := R_Emptying) (T := F_Emptying) (N := 2) hx hb hts hin_Emptying hown hK.1 hP 2 cw_2 rfl 1 (by decide) (hts _ (wd_1 61 rfl rfl)) (fun _ h9 => h9) rfl d_E_search_90 ?_
        refine lv_iload hx hb d_E_search_93 (lv_at hl 1 rfl) ?_
        refine va_lald hx hb hK.1 hP 17 1 cw_17 rfl (vp_in_nI (n := enc S / 64) (by omega) (by omega)) d_E_search_95 ?_
        rw [nI_clamp (n := enc S / 64) (by omega)]
        refine lv_lload hx hb d_E_search_96 (lv_at hl 0 rfl) ?_
        refine lv_land hx hb d_E_search_98 ?_
        refine lv_lconst (v := 0) hx hb d_E_search_99 rfl ?_
        refine W.lcmp hx hb d_E_search_100 ?_
        refine lv_if_eq (tgt := 108) hx hb d_E_search_101 rfl (fun h101 => ?_) (fun h101 => ?_)
        ·
          refine lv_iconst (v := 0) hx hb d_E_search_108 rfl ?_
          exact W.zret (v := b2i false) hx hb hrt (b2i_nar _) (fun t ht hW => ⟨⟨_, ((gU_ps (gU_kn G (gA_kn G)) (gA_ps G)), A), rfl, ⟨ans_f hfS hm (kb_1 h44) h101, (gA_kn G), (gA_ps G), hm, (fun _ => ⟨rfl, rfl⟩), rfl⟩, ⟨by rw [ht]; exact hP, hD⟩⟩, hS.F ht⟩) hS.2.2 d_E_search_109
        ·
          refine lv_iconst (v := 1) hx hb d_E_search_104 rfl ?_
          refine lv_goto (tgt := 109) hx hb d_E_search_105 rfl ?_
          exact W.zret (v := b2i true) hx hb hrt (b2i_nar _) (fun t ht hW => ⟨⟨_, ((gU_ps (gU_kn G (gA_kn G)) (gA_ps G)), A), rfl, ⟨ans_t hfS hm (kb_1 h44) h101, (gA_kn G), (gA_ps G), hm, (fun _ => ⟨rfl, rfl⟩), rfl⟩, ⟨by rw [ht]; exact hP, hD⟩⟩, hS.F ht⟩) hS.2.2 d_E_search_109
      ·
        refine lv_aload_n hx hb d_E_search_47 rfl (lv_at hl 2 rfl) ?_
        refine lv_aload_n hx hb d_E_search_48 rfl (lv_at hl 3 rfl) ?_
        refine lv_iload_n hx hb d_E_search_49 rfl (lv_at hl 4 rfl) ?_
        refine lv_iload_n hx hb d_E_search_50 rfl (lv_at hl 5 rfl) ?_
        refine va_calli (va_runV (As := [.ref (gA_ad G 1), .int (nI (enc S)), .int (nI d)]) (rest := []) ⟨hx, hb, hml, hown, hts⟩ (hM G A Af S d hR hm hfS hnn hd) (cwV 3 hts (gV (wd_2 0 rfl rfl) (wd_2 2 rfl rfl) (wd_s 6 rfl) (wd_1 4 rfl rfl) (wd_2 3 rfl rfl)) rfl rfl rfl ⟨rfl, hd_E_searchMoves⟩ ⟨by show 3 + 2 * nn + 1 ≤ 4 + 2 * nn; omega, by show 8 + (9 + 11) + (300 + 55 * nn) ≤ 328 + 55 * nn; omega⟩) (vx_preV (P := PW X Af G A) ⟨hP, hD⟩ hK (va_recv hK.1 hP (ci := 2) rfl cw_2)) rfl rfl hl.1 rfl (lv_room (Nat.le_of_ble_eq_true rfl)) d_E_search_51 ⟨Nat.zero_le _, Nat.zero_le _⟩) hS (fun q _ h => h) (fun q h => h) (fun r51 u51 t51 H locs ht hvm hu51 hB hz hk hS => ?_)
        obtain ⟨hP, hD⟩ := hB
        rw [ht] at hP
        obtain ⟨e51, kn51, ps51, hm51, hu51⟩ := hu51
        subst e51
        subst hu51
        have hP : va_P X.1 classes (cw X (gU_ps (gU_kn G kn51) ps51) A) H := hP
        have hD : va_D Af (cw X (gU_ps (gU_kn G kn51) ps51) A) := hD
        refine lv_istore (lv' := [(7, .int (b2i (mvE (envA A) (S)))), (5, .long (bitL (enc S % 64))), (4, .int (nI (enc S / 64))), (0, .ref (gA_ad G 2)), (1, .ref (gA_ad G 1)), (2, .int (nI (enc S))), (3, .int (nI d))]) hx hb d_E_search_54 hl (by decide) rfl (fun ls hl => ?_)
        refine lv_aload_n hx hb d_E_search_56 rfl (lv_at hl 3 rfl) ?_
        refine va_get (D := X.1) (ci := 2) (C := R_Emptying) (T := F_Emptying) (N := 2) hx hb hts hin_Emptying hown hK.1 hP 2 cw_2 rfl 0 (by decide) (hts _ (wd_1 60 rfl rfl)) (fun _ h9 => h9) rfl d_E_search_57 ?_
        refine lv_iload hx hb d_E_search_60 (lv_at hl 2 rfl) ?_
        refine lv_dup2_11 hx hb d_E_search_62 rfl rfl ?_
        refine va_lald hx hb hK.1 hP 16 1 cw_16 rfl (vp_in_nI (n := enc S / 64) (by omega) (by omega)) d_E_search_63 ?_
        rw [nI_clamp (n := enc S / 64) (by omega)]
        refine lv_lload hx hb d_E_search_64 (lv_at hl 1 rfl) ?_
        refine lv_lor hx hb d_E_search_66 ?_
        refine va_last hx hb hK.1 hP hD hS 16 1 cw_16 rfl (vp_in_nI (n := enc S / 64) (by omega) (by omega)) d_E_search_67 (fun H locs hP hD hS => ?_)
        rw [nI_clamp (n := enc S / 64) (by omega)] at hP hD
        replace hP := vx_P (cw_s_kn (X := X) (G := (gU_ps (gU_kn G kn51) ps51)) (A := A) (k := enc S / 64) (v := ((kn51 (enc S / 64)) ||| (bitL (enc S % 64))))) hP
        replace hD := vx_D (cw_s_kn (X := X) (G := (gU_ps (gU_kn G kn51) ps51)) (A := A) (k := enc S / 64) (v := ((kn51 (enc S / 64)) ||| (bitL (enc S % 64))))) hD
        refine lv_aload_n hx hb d_E_search_68 rfl (lv_at hl 3 rfl) ?_
        refine va_get (D := X.1) (ci := 2) (C := R_Emptying) (T := F_Emptying) (N := 2) hx hb hts hin_Emptying hown hK.1 hP 2 cw_2 rfl 1 (by decide) (hts _ (wd_1 61 rfl rfl)) (fun _ h9 => h9) rfl d_E_search_69 ?_
        refine lv_iload hx hb d_E_search_72 (lv_at hl 2 rfl) ?_
        refine lv_dup2_11 hx hb d_E_search_74 rfl rfl ?_
        refine va_lald hx hb hK.1 hP 17 1 cw_17 rfl (vp_in_nI (n := enc S / 64) (by omega) (by omega)) d_E_search_75 ?_
        rw [nI_clamp (n := enc S / 64) (by omega)]
        refine lv_iload hx hb d_E_search_76 (lv_at hl 0 rfl) ?_
        refine lv_if_eq (tgt := 86) hx hb d_E_search_78 rfl (fun h78 => ?_) (fun h78 => ?_)
        ·
          have h78 := b2i_f h78
          refine lv_lconst (v := 0) hx hb d_E_search_86 rfl ?_
          refine lv_lor hx hb d_E_search_87 ?_
          refine va_last hx hb hK.1 hP hD hS 17 1 cw_17 rfl (vp_in_nI (n := enc S / 64) (by omega) (by omega)) d_E_search_88 (fun H locs hP hD hS => ?_)
          rw [nI_clamp (n := enc S / 64) (by omega)] at hP hD
          replace hP := vx_P (cw_s_ps (X := X) (G := (gU_kn (gU_ps (gU_kn G kn51) ps51) (vp_updL kn51 (enc S / 64) ((kn51 (enc S / 64)) ||| (bitL (enc S % 64)))))) (A := A) (k := enc S / 64) (v := ((ps51 (enc S / 64)) ||| 0))) hP
          replace hD := vx_D (cw_s_ps (X := X) (G := (gU_kn (gU_ps (gU_kn G kn51) ps51) (vp_updL kn51 (enc S / 64) ((kn51 (enc S / 64)) ||| (bitL (enc S % 64)))))) (A := A) (k := enc S / 64) (v := ((ps51 (enc S / 64)) ||| 0))) hD
          have hz : ¬ isZ S = true := fun z => h1 (by rw [enc_0.mpr z]; rfl)
          have hcan : false = canE (envA A) (dig (enc S)) := by rw [dig_enc hfS, canE_mv (env_ok hR) (by omega), h78]; simp [hz]
          have hm2 := MI_add2 (c := enc S) hm51 false hcan
          simp only [if_true, Bool.false_eq_true, if_false] at hm2
          refine lv_aload_n hx hb d_E_search_89 rfl (lv_at hl 3 rfl) ?_
          refine va_get (D := X.1) (ci := 2) (C := R_Emptying) (T := F_Emptying) (N := 2) hx hb hts hin_Emptying hown hK.1 hP 2 cw_2 rfl 1 (by decide) (hts _ (wd_1 61 rfl rfl)) (fun _ h9 => h9) rfl d_E_search_90 ?_
          refine lv_iload hx hb d_E_search_93 (lv_at hl 2 rfl) ?_
          refine va_lald hx hb hK.1 hP 17 1 cw_17 rfl (vp_in_nI (n := enc S / 64) (by omega) (by omega)) d_E_search_95 ?_
          rw [nI_clamp (n := enc S / 64) (by omega)]
          refine lv_lload hx hb d_E_search_96 (lv_at hl 1 rfl) ?_
          refine lv_land hx hb d_E_search_98 ?_
          refine lv_lconst (v := 0) hx hb d_E_search_99 rfl ?_
          refine W.lcmp hx hb d_E_search_100 ?_
          refine lv_if_eq (tgt := 108) hx hb d_E_search_101 rfl (fun h101 => ?_) (fun h101 => ?_)
          ·
            refine lv_iconst (v := 0) hx hb d_E_search_108 rfl ?_
            exact W.zret (v := b2i false) hx hb hrt (b2i_nar _) (fun t ht hW => ⟨⟨_, ((gU_ps (gU_kn G (vp_updL kn51 (enc S / 64) (kn51 (enc S / 64) ||| bitL (enc S % 64)))) (vp_updL ps51 (enc S / 64) (ps51 (enc S / 64) ||| 0))), A), rfl, ⟨ans_f hfS hm2 kb_set h101, (vp_updL kn51 (enc S / 64) (kn51 (enc S / 64) ||| bitL (enc S % 64))), (vp_updL ps51 (enc S / 64) (ps51 (enc S / 64) ||| 0)), hm2, (fun z => absurd z hz), rfl⟩, ⟨by rw [ht]; exact hP, hD⟩⟩, hS.F ht⟩) hS.2.2 d_E_search_109
          ·
            refine lv_iconst (v := 1) hx hb d_E_search_104 rfl ?_
            refine lv_goto (tgt := 109) hx hb d_E_search_105 rfl ?_
            exact W.zret (v := b2i true) hx hb hrt (b2i_nar _) (fun t ht hW => ⟨⟨_, ((gU_ps (gU_kn G (vp_updL kn51 (enc S / 64) (kn51 (enc S / 64) ||| bitL (enc S % 64)))) (vp_updL ps51 (enc S / 64) (ps51 (enc S / 64) ||| 0))), A), rfl, ⟨ans_t hfS hm2 kb_set h101, (vp_updL kn51 (enc S / 64) (kn51 (enc S / 64) ||| bitL (enc S % 64))), (vp_updL ps51 (enc S / 64) (ps51 (enc S / 64) ||| 0)), hm2, (fun z => absurd z hz), rfl⟩, ⟨by rw [ht]; exact hP, hD⟩⟩, hS.F ht⟩) hS.2.2 d_E_search_109
        ·
          have h78 := b2i_t h78
          refine lv_lload hx hb d_E_search_81 (lv_at hl 1 rfl) ?_
          refine lv_goto (tgt := 87) hx hb d_E_search_83 rfl ?_
          refine lv_lor hx hb d_E_search_87 ?_
          refine va_last hx hb hK.1 hP hD hS 17 1 cw_17 rfl (vp_in_nI (n := enc S / 64) (by omega) (by omega)) d_E_search_88 (fun H locs hP hD hS => ?_)
          rw [nI_clamp (n := enc S / 64) (by omega)] at hP hD
          replace hP := vx_P (cw_s_ps (X := X) (G := (gU_kn (gU_ps (gU_kn G kn51) ps51) (vp_updL kn51 (enc S / 64) ((kn51 (enc S / 64)) ||| (bitL (enc S % 64)))))) (A := A) (k := enc S / 64) (v := ((ps51 (enc S / 64)) ||| (bitL (enc S % 64))))) hP
          replace hD := vx_D (cw_s_ps (X := X) (G := (gU_kn (gU_ps (gU_kn G kn51) ps51) (vp_updL kn51 (enc S / 64) ((kn51 (enc S / 64)) ||| (bitL (enc S % 64)))))) (A := A) (k := enc S / 64) (v := ((ps51 (enc S / 64)) ||| (bitL (enc S % 64))))) hD
          have hz : ¬ isZ S = true := fun z => h1 (by rw [enc_0.mpr z]; rfl)
          have hcan : true = canE (envA A) (dig (enc S)) := by rw [dig_enc hfS, canE_mv (env_ok hR) (by omega), h78]; simp [hz]
          have hm2 := MI_add2 (c := enc S) hm51 true hcan
          simp only [if_true, Bool.false_eq_true, if_false] at hm2
          refine lv_aload_n hx hb d_E_search_89 rfl (lv_at hl 3 rfl) ?_
          refine va_get (D := X.1) (ci := 2) (C := R_Emptying) (T := F_Emptying) (N := 2) hx hb hts hin_Emptying hown hK.1 hP 2 cw_2 rfl 1 (by decide) (hts _ (wd_1 61 rfl rfl)) (fun _ h9 => h9) rfl d_E_search_90 ?_
          refine lv_iload hx hb d_E_search_93 (lv_at hl 2 rfl) ?_
          refine va_lald hx hb hK.1 hP 17 1 cw_17 rfl (vp_in_nI (n := enc S / 64) (by omega) (by omega)) d_E_search_95 ?_
          rw [nI_clamp (n := enc S / 64) (by omega)]
          refine lv_lload hx hb d_E_search_96 (lv_at hl 1 rfl) ?_
          refine lv_land hx hb d_E_search_98 ?_
          refine lv_lconst (v := 0) hx hb d_E_search_99 rfl ?_
          refine W.lcmp hx hb d_E_search_100 ?_
          refine lv_if_eq (tgt := 108) hx hb d_E_search_101 rfl (fun h101 => ?_) (fun h101 => ?_)
          ·
            refine lv_iconst (v := 0) hx hb d_E_search_108 rfl ?_
            exact W.zret (v := b2i false) hx hb hrt (b2i_nar _) (fun t ht hW => ⟨⟨_, ((gU_ps (gU_kn G (vp_updL kn51 (enc S / 64) (kn51 (enc S / 64) ||| bitL (enc S % 64)))) (vp_updL ps51 (enc S / 64) (ps51 (enc S / 64) ||| bitL (enc S % 64)))), A), rfl, ⟨ans_f hfS hm2 kb_set h101, (vp_updL kn51 (enc S / 64) (kn51 (enc S / 64) ||| bitL (enc S % 64))), (vp_updL ps51 (enc S / 64) (ps51 (enc S / 64) ||| bitL (enc S % 64))), hm2, (fun z => absurd z hz), rfl⟩, ⟨by rw [ht]; exact hP, hD⟩⟩, hS.F ht⟩) hS.2.2 d_E_search_109
          ·
            refine lv_iconst (v := 1) hx hb d_E_search_104 rfl ?_
            refine lv_goto (tgt := 109) hx hb d_E_search_105 rfl ?_
            exact W.zret (v := b2i true) hx hb hrt (b2i_nar _) (fun t ht hW => ⟨⟨_, ((gU_ps (gU_kn G (vp_updL kn51 (enc S / 64) (kn51 (enc S / 64) ||| bitL (enc S % 64)))) (vp_updL ps51 (enc S / 64) (ps51 (enc S / 64) ||| bitL (enc S % 64)))), A), rfl, ⟨ans_t hfS hm2 kb_set h101, (vp_updL kn51 (enc S / 64) (kn51 (enc S / 64) ||| bitL (enc S % 64))), (vp_updL ps51 (enc S / 64) (ps51 (enc S / 64) ||| bitL (enc S % 64))), hm2, (fun z => absurd z hz), rfl⟩, ⟨by rw [ht]; exact hP, hD⟩⟩, hS.F ht⟩) hS.2.2 d_E_search_109
    ·
      exact absurd (nI_lt (a := d) (b := 35) (by omega) (by omega)) h9
  ·
    refine lv_iconst (v := 1) hx hb d_E_search_4 rfl ?_
    exact W.zret (v := b2i true) hx hb hrt (b2i_nar _) (fun t ht hW => ⟨⟨_, ((gU_ps (gU_kn G (gA_kn G)) (gA_ps G)), A), rfl, ⟨by rw [canE_mv (env_ok hR) (by omega), enc_0.mp ((nI_eq (b := 0) (by omega) (by omega)).mp h1)]; rfl, (gA_kn G), (gA_ps G), hm, (fun _ => ⟨rfl, rfl⟩), rfl⟩, ⟨by rw [ht]; exact hP, hD⟩⟩, hS.F ht⟩) hS.2.2 d_E_search_5
theorem c_E_all (l : Launch) (X : Xt) : ∀ n, CS l X n := by
  intro n
  induction n using Nat.strongRecOn with
  | _ n ih => exact c_E_search_of l X n (c_E_searchMoves_of l X n ih)
end
section
/-! may: what its parts say. Own work. -/
theorem within_q {y : Int32} (h : f_T_isWithin y 0 5 = true) : ∃ q : Nat, q < 6 ∧ y = nI q := by
  obtain ⟨h1, h2⟩ := within_iff.mp h
  obtain ⟨j, hj, rfl⟩ := i32_nat h1
  exact ⟨j, by have := (nI_leI (b := 5) hj (by omega)).mp h2; omega, rfl⟩
theorem pidx_bad {y : Int32} (h : f_T_isWithin y 0 5 = false) : pidx y = none := by
  unfold pidx
  rw [if_neg]
  intro hc
  rw [within_iff.mpr hc] at h
  cases h
theorem mayF_none {A : St} {x y : Int32} (hn : sA_n A ≤ 25) (h : f_T_waferOf A x = none) : -1 = mayF A x y := by
  unfold mayF
  rw [← waferOf_eq hn, oc_none h]
theorem mayF_bad {A : St} {x y : Int32} {i : Nat} (hn : sA_n A ≤ 25) (h : f_T_waferOf A x = some i) (h2 : f_T_isWithin y 0 5 = false) : -1 = mayF A x y := by
  unfold mayF
  rw [← waferOf_eq hn, oc_some h, oc_none (pidx_bad h2)]
theorem mayF_at {A : St} {x : Int32} {i q : Nat} (hn : sA_n A ≤ 25) (h : f_T_waferOf A x = some i) (hq : q < 6) : mayF A x (nI q) = mayN A i q := by
  unfold mayF
  rw [← waferOf_eq hn, oc_some h, oc_some (pidx_nI hq)]
theorem lf_pos {n : Nat} (h : ¬ nI n ≤ 0) : 0 < n := pos_of_nle h
theorem lf_0 {n : Nat} (h : nI n ≤ 0) (hn : n < 2 ^ 31) : n = 0 := by
  have := (nI_leI (a := n) (b := 0) hn (by omega)).mp h
  omega
theorem taken_iff {G : Gc} {A : St} {i q : Nat} (hC : RC G A) (hp : sA_pl A i ≤ 5) (hq : q < 6) : f_T_isTaken G A i q = decide (q ≠ sA_pl A i ∧ inP A q ≠ -1) := by
  unfold f_T_isTaken
  by_cases h5 : q = 5
  · subst h5
    rw [if_pos (show nI 5 = (5 : Int32) from rfl)]
    have : inP A 5 = -1 := rfl
    simp [this]
  · rw [if_neg (show ¬ nI q = (5 : Int32) from nI_ne (b := 5) h5 (by omega) (by omega))]
    by_cases hpq : q = sA_pl A i
    · rw [if_pos (by rw [← hpq])]
      simp [hpq]
    · rw [if_neg (nI_ne hpq (by omega) (by omega)), hC.1 q (by omega)]
      by_cases hin : inP A q = -1
      · rw [if_pos hin]
        simp [hin]
      · rw [if_neg hin]
        simp [hin, hpq]
theorem rob_nI : ∀ p, p < 6 → ∀ q, q < 6 → f_T_robotFor (nI p) (nI q) = if (backN p || backN q) = true then some 4 else some 3 := by decide +kernel
theorem rob_4 {p q : Nat} (hp : p < 6) (hq : q < 6) (h : f_T_robotFor (nI p) (nI q) = some 4) : (backN p || backN q) = true := by
  rw [rob_nI p hp q hq] at h
  split at h
  · assumption
  · exact absurd h (by decide)
theorem rob_3 {p q : Nat} (hp : p < 6) (hq : q < 6) (h : f_T_robotFor (nI p) (nI q) = some 3) : (backN p || backN q) = false := by
  rw [rob_nI p hp q hq] at h
  split at h
  · exact absurd h (by decide)
  · next h2 => simpa using h2
theorem sitAft_mov {A : St} {i q : Nat} (hp : sA_pl A i ≤ 5) (hq : q < 6) (h1 : dnP (envA A) (sA_pl A i) = false) (h2 : dnP (envA A) q = false) : toS (envA A) (sitAft A i q) = movS (SA A) (sA_rt A i) (sA_sg A i) (sA_pl A i) q := by
  have e0 : toS (envA A) (if sA_pl A i < 5 then va_up (sit9 A) (sA_pl A i) 0 else sit9 A) = liftS (SA A) (sA_pl A i) := by
    unfold liftS SA
    by_cases h5 : sA_pl A i < 5
    · rw [if_pos h5, if_pos h5, toS_up h5 h1]
      rfl
    · rw [if_neg h5, if_neg h5]
  unfold sitAft movS
  by_cases hq5 : q = 5
  · rw [if_pos hq5]
    exact (if_pos hq5).trans rfl ▸ e0
  · rw [if_neg hq5]
    have e1 : toS (envA A) (va_up (if sA_pl A i < 5 then va_up (sit9 A) (sA_pl A i) 0 else sit9 A) q (if q < 4 then dgt A i + 1 else dgt A i)) = va_up (liftS (SA A) (sA_pl A i)) q (putM q (sA_rt A i) (sA_sg A i)) := by
      rw [toS_up (by omega) h2, e0]
      congr 1
      unfold mkD putM dgt
      by_cases h4 : q < 4
      · rw [if_pos h4, if_pos h4, if_neg (by omega), if_neg (by omega)]
        omega
      · have h4' : q = 4 := by omega
        rw [if_neg h4, if_neg h4, if_neg (by omega), if_pos h4']
        omega
    exact (if_neg hq5).trans rfl ▸ e1
def okD (S : Nat → Nat) : Prop := ∀ p, p < 4 → S p = 0 ∨ 1 ≤ S p % 4
theorem phi_31 {S : Nat → Nat} (h : okD S) : phi S ≤ 31 := by
  have h1 : phi S ≤ s5 (fun p => if p = 4 then 7 else 6) := by
    refine s5_le (fun p hp => ?_)
    unfold pot
    by_cases h4 : p = 4
    · rw [if_pos h4, if_pos h4]
      split <;> omega
    · rw [if_neg h4, if_neg h4]
      simp only [m_s]
      rcases h p (by omega) with h0 | h0
      · rw [if_pos h0]; omega
      · split <;> omega
  exact h1
theorem okD_SA {A : St} (hI : Inv A) : okD (SA A) := by
  intro p hp
  have h9 := ok9_sit hI p (by omega)
  unfold SA toS mkD
  rw [if_pos (by omega)]
  by_cases hd : dnP (envA A) p = true
  · rw [if_pos hd]; exact Or.inl rfl
  · rw [if_neg hd]
    by_cases h0 : sit9 A p = 0
    · rw [if_pos h0]; exact Or.inl rfl
    · rw [if_neg h0, if_neg (by omega)]
      have := (h9.2 h0).2 hp
      exact Or.inr (by omega)
theorem okD_up0 {S : Nat → Nat} {p : Nat} (h : okD S) : okD (va_up S p 0) := by
  intro x hx
  unfold va_up
  split
  · exact Or.inl rfl
  · exact h x hx
theorem okD_mov {S : Nat → Nat} {r g p q : Nat} (h : okD S) (hr : r < 2) (hg : g < 4) (hg3 : q < 4 → g < 3) : okD (movS S r g p q) := by
  have h1 : okD (liftS S p) := by
    unfold liftS
    split
    · exact okD_up0 h
    · exact h
  unfold movS
  split
  · exact h1
  · intro x hx
    unfold va_up
    split
    · next e =>
      subst e
      unfold putM
      rw [if_neg (by omega), if_pos hx]
      have := hg3 hx
      exact Or.inr (by omega)
    · exact h1 x hx
theorem fit_mov {S : Nat → Nat} {r g p q : Nat} (h : fitS S) (hq : q < 6) (hr : r < 2) (hg : g < 4) (hg3 : q < 4 → g < 3) : fitS (movS S r g p q) := by
  have h1 : fitS (liftS S p) := by
    unfold liftS
    split
    · exact fit_up0 h
    · exact h
  unfold movS
  split
  · exact h1
  · obtain ⟨f1, f2, f3⟩ := h1
    refine ⟨fun x hx => ?_, ?_, fun x hx => ?_⟩
    · unfold va_up
      split
      · next e =>
        subst e
        unfold putM
        rw [if_neg (by omega), if_pos hx]
        have := hg3 hx
        omega
      · exact f1 x hx
    · unfold va_up
      split
      · next e =>
        subst e
        unfold putM
        rw [if_pos rfl, if_neg (by omega)]
        omega
      · exact f2
    · unfold va_up
      split
      · omega
      · exact f3 x hx
theorem sitAfter_nI {A : St} {i q : Nat} (hI : Inv A) (hi : i < sA_n A) (hq : q < 6) (hl : leadN (sA_dn A) (mskN (envA A) (sA_rt A i) (sA_sg A i)) (sA_pl A i) q = true) (ht : q = sA_pl A i ∨ inP A q = -1) : f_T_situationAfter A i (nI q) = nI (enc (movS (SA A) (sA_rt A i) (sA_sg A i) (sA_pl A i) q)) := by
  obtain ⟨w1, w2, w3, -⟩ := hI.2.2.1 i hi
  have h3 := hI.2.1.1 (sA_rt A i)
  unfold f_T_situationAfter f_T_situation
  refine after_nI (SA_fit hI) (by omega) hq w1 (by omega) (fun h4 => mskN_pos (lead_q4 hl h4) (env_ok hI.2.1)) ?_
  by_cases h5 : q = 5
  · exact Or.inl h5
  · rcases ht with h | h
    · exact Or.inr (Or.inl h)
    · refine Or.inr (Or.inr ?_)
      rcases sit9_cases hI.2.2.2.1 (show q < 5 by omega) with ⟨h1, -⟩ | ⟨j, hj, -, -, h2⟩
      · unfold SA toS mkD
        rw [if_pos (by omega), h1]
        simp
      · rw [h2] at h
        exfalso
        have : (nI j).toInt = -1 := by rw [h]; rfl
        rw [nI_toInt (by have := hI.1; omega)] at this
        omega
theorem RC_memo {G : Gc} {A : St} {kn ps : Nat → Int64} (hC : RC G A) (hm : MI (envA A) kn ps) (hn : 0 < sA_n A) : RC (gU_ps (gU_kn G kn) ps) A := ⟨hC.1, hC.2.1, hC.2.2.1, hm, fun z => by omega⟩
end
section
abbrev rm_T_may : Room := { frames := 73, cells := 0, slots := 0, locals := 2225 }
set_option maxRecDepth 20000 in
set_option maxHeartbeats 4000000 in
theorem c_T_may (l : Launch) (X : Xt) (G : Gc) (A : St) (Af : Nat → Prop) (x : Int32) (y : Int32) (hI : Inv A) (hC : RC G A) : Met l y_T_may (Cond.code y_T_may b_T_may 4 (some .int) :: WA) rm_T_may (va_Pc [.ref (gA_ad G 0), .int x, .int y] (fun U => PW X Af G A U.heap ∧ KK X U)) (va_Qi (fun ans u => ans = mayF A x y ∧ ∃ kn ps, RC (gU_ps (gU_kn G kn) ps) A ∧ u = (gU_ps (gU_kn G kn) ps, A)) (atC X Af) Af) 0 0 Af := by
  refine vx_met (cc := b_T_may) (maxL := 4) (ret := (some .int)) (by decide) rfl (Nat.le_of_ble_eq_true rfl) ?_
  intro p e s m below meth c ls hx hb hrt hts hown hlocks hname hml hB hl
  obtain ⟨hP, hK⟩ := hB
  have hown : s.vm.findClass R_ClusterTool = some m.cls := hown
  have hl : lv_has ls 4 [(0, .ref (gA_ad G 0)), (1, .int x), (2, .int y)] := hl
  have hD : va_D Af (cw X G A) := hP.2
  have hP : va_P X.1 classes (cw X G A) s.heap := hP.1
  have hS : va_S Af s.heap s.heap [] := va_S.rf
  have hn := hI.1
  have hR := hI.2.1
  refine lv_aload_n hx hb d_T_may_0 rfl (lv_at hl 0 rfl) ?_
  refine lv_iload_n hx hb d_T_may_1 rfl (lv_at hl 1 rfl) ?_
  refine va_csq (W.runV (As := [.int x]) (rest := []) ⟨hx, hb, hml, hown, hts⟩ (c_T_waferOf l X G A x hn) (cwV 1 hts (gV (wd_1 180 rfl rfl) (wd_1 182 rfl rfl) (wd_s 0 rfl) (wd_1 1 rfl rfl) (wd_1 183 rfl rfl)) rfl rfl rfl ⟨rfl, hd_T_waferOf⟩ ⟨Nat.le_of_ble_eq_true rfl, Nat.le_of_ble_eq_true rfl⟩) (vx_preV (P := PR X G A) hP hK (va_recv hK.1 hP (ci := 0) rfl cw_0)) rfl rfl hl.1 rfl (lv_room (Nat.le_of_ble_eq_true rfl)) d_T_may_2 ⟨Nat.zero_le _, Nat.zero_le _⟩) (fun r2 e2 => ?_)
  cases q2 : f_T_waferOf A x with
  | none =>
    have e2 : r2 = none := by rw [e2, q2]; rfl
    subst e2
    refine lv_astore_nN (lv' := [(3, .null), (0, .ref (gA_ad G 0)), (1, .int x), (2, .int y)]) hx hb d_T_may_5 rfl hl (by decide) rfl (fun ls hl => ?_)
    refine lv_aload_nN hx hb d_T_may_6 rfl (lv_at hl 0 rfl) ?_
    refine lv_ifnullN (tgt := 19) hx hb d_T_may_7 rfl ?_
    refine lv_iconst (v := (-1)) hx hb d_T_may_19 rfl ?_
    exact W.iret (v := (-1)) hx hb hrt (fun t ht hW => ⟨⟨_, ((gU_ps (gU_kn G (gA_kn G)) (gA_ps G)), A), rfl, ⟨mayF_none hn q2, (gA_kn G), (gA_ps G), hC, rfl⟩, ⟨by rw [ht]; exact hP, hD⟩⟩, hS.F ht⟩) hS.2.2 d_T_may_20
  | some i2 =>
    have e2 : r2 = some (gA_ad G (18 + 4 * i2)) := by rw [e2, q2]; rfl
    subst e2
    have hli2 := waferOf_lt hn q2
    refine lv_astore_n (lv' := [(3, .ref (gA_ad G (18 + 4 * i2))), (0, .ref (gA_ad G 0)), (1, .int x), (2, .int y)]) hx hb d_T_may_5 rfl hl (by decide) rfl (fun ls hl => ?_)
    refine lv_aload_n hx hb d_T_may_6 rfl (lv_at hl 0 rfl) ?_
    refine lv_ifnull hx hb d_T_may_7 ?_
    refine lv_iload_n hx hb d_T_may_10 rfl (lv_at hl 3 rfl) ?_
    refine lv_iconst (v := 0) hx hb d_T_may_11 rfl ?_
    refine lv_iconst (v := 5) hx hb d_T_may_12 rfl ?_
    refine vp_callSi (W.runS (As := [.int y, .int 0, .int 5]) (rest := []) ⟨hx, hb, hml, hown, hts⟩ (c_T_isWithin l X y 0 5) (va_cwS 3 hts (gT (wd_1 121 rfl rfl) (wd_1 119 rfl rfl) (wd_1 1 rfl rfl) (wd_1 120 rfl rfl)) rfl rfl rfl hd_T_isWithin ⟨Nat.le_of_ble_eq_true rfl, Nat.le_of_ble_eq_true rfl⟩) (vx_preS (P := fun _ => True) trivial hK) rfl rfl hl.1 rfl (lv_room (Nat.le_of_ble_eq_true rfl)) d_T_may_13 ⟨Nat.zero_le _, Nat.zero_le _⟩) (fun r13 e13 => ?_)
    subst e13
    refine lv_if_ne (tgt := 21) hx hb d_T_may_16 rfl (fun h16 => ?_) (fun h16 => ?_)
    ·
      have h16 := b2i_t h16
      obtain ⟨q, hq, rfl⟩ := within_q h16
      obtain ⟨w1, w2, w3, w4, -⟩ := hI.2.2.1 i2 hli2
      have wl := hR.1 (sA_rt A i2)
      refine lv_aload_n hx hb d_T_may_21 rfl (lv_at hl 0 rfl) ?_
      refine va_getN (D := X.1) (ci := 5) (C := R_Wafer) (T := F_Wafer) (N := 10) hx hb hts hin_Wafer hown hK.1 hP (18 + 4 * i2) (cw_w hli2) rfl 8 (by decide) (va_Nw.use rfl (hK.2.1 _ (List.mem_of_getElem? (i := 16) rfl))) (fun _ h9 => h9) rfl d_T_may_22 ?_
      refine lv_if_ne (tgt := 35) hx hb d_T_may_25 rfl (fun h25 => ?_) (fun h25 => ?_)
      ·
        have h25 := b2i_t h25
        refine lv_iconst (v := 1) hx hb d_T_may_35 rfl ?_
        exact W.iret (v := 1) hx hb hrt (fun t ht hW => ⟨⟨_, ((gU_ps (gU_kn G (gA_kn G)) (gA_ps G)), A), rfl, ⟨by rw [mayF_at hn q2 hq, mayN, if_pos (Or.inr (by rw [← hC.2.1 i2 hli2]; exact h25))], (gA_kn G), (gA_ps G), hC, rfl⟩, ⟨by rw [ht]; exact hP, hD⟩⟩, hS.F ht⟩) hS.2.2 d_T_may_36
      ·
        have h25 := b2i_f h25
        refine lv_aload_n hx hb d_T_may_28 rfl (lv_at hl 0 rfl) ?_
        refine va_getN (D := X.1) (ci := 5) (C := R_Wafer) (T := F_Wafer) (N := 10) hx hb hts hin_Wafer hown hK.1 hP (18 + 4 * i2) (cw_w hli2) rfl 6 (by decide) (va_Nw.use rfl (hK.2.1 _ (List.mem_of_getElem? (i := 14) rfl))) (fun _ h9 => h9) rfl d_T_may_29 ?_
        refine lv_if_le (tgt := 37) hx hb d_T_may_32 rfl (fun h32 => ?_) (fun h32 => ?_)
        ·
          have hun : ¬ (0 < sA_lf A i2 ∨ fin A i2 = true) := by
            rw [← hC.2.1 i2 hli2, h25, lf_0 h32 (by omega)]
            simp
          refine lv_aload_n hx hb d_T_may_37 rfl (lv_at hl 1 rfl) ?_
          refine va_get (D := X.1) (ci := 0) (C := R_ClusterTool) (T := F_ClusterTool) (N := 8) hx hb hts hin_ClusterTool hown hK.1 hP 0 cw_0 rfl 0 (by decide) (hts _ (wd_1 85 rfl rfl)) (fun _ h9 => h9) rfl d_T_may_38 ?_
          refine lv_aload_n hx hb d_T_may_41 rfl (lv_at hl 0 rfl) ?_
          refine va_getN (D := X.1) (ci := 5) (C := R_Wafer) (T := F_Wafer) (N := 10) hx hb hts hin_Wafer hown hK.1 hP (18 + 4 * i2) (cw_w hli2) rfl 0 (by decide) (va_Nw.use rfl (hK.2.1 _ (List.mem_of_getElem? (i := 8) rfl))) (fun _ h9 => h9) rfl d_T_may_42 ?_
          refine lv_aload_n hx hb d_T_may_45 rfl (lv_at hl 0 rfl) ?_
          refine va_getN (D := X.1) (ci := 5) (C := R_Wafer) (T := F_Wafer) (N := 10) hx hb hts hin_Wafer hown hK.1 hP (18 + 4 * i2) (cw_w hli2) rfl 5 (by decide) (va_Nw.use rfl (hK.2.1 _ (List.mem_of_getElem? (i := 13) rfl))) (fun _ h9 => h9) rfl d_T_may_46 ?_
          refine lv_aload_n hx hb d_T_may_49 rfl (lv_at hl 0 rfl) ?_
          refine va_getN (D := X.1) (ci := 5) (C := R_Wafer) (T := F_Wafer) (N := 10) hx hb hts hin_Wafer hown hK.1 hP (18 + 4 * i2) (cw_w hli2) rfl 4 (by decide) (va_Nw.use rfl (hK.2.1 _ (List.mem_of_getElem? (i := 12) rfl))) (fun _ h9 => h9) rfl d_T_may_50 ?_
          refine lv_iload_n hx hb d_T_may_53 rfl (lv_at hl 3 rfl) ?_
          refine vp_callSi (W.runV (As := [.int (nI (sA_rt A i2)), .int (nI (sA_sg A i2)), .int (nI (sA_pl A i2)), .int (nI q)]) (rest := []) ⟨hx, hb, hml, hown, hts⟩ (c_Y_leads l X G A (nI (sA_rt A i2)) (nI (sA_sg A i2)) (nI (sA_pl A i2)) (nI q) hR) (cwV 4 hts (gV (wd_1 184 rfl rfl) (wd_1 185 rfl rfl) (wd_1 186 rfl rfl) (wd_1 2 rfl rfl) (wd_1 187 rfl rfl)) rfl rfl rfl ⟨rfl, hd_Y_leads⟩ ⟨Nat.le_of_ble_eq_true rfl, Nat.le_of_ble_eq_true rfl⟩) (vx_preV (P := PR X G A) hP hK (va_recv hK.1 hP (ci := 1) rfl cw_1)) rfl rfl hl.1 rfl (lv_room (Nat.le_of_ble_eq_true rfl)) d_T_may_54 ⟨Nat.zero_le _, Nat.zero_le _⟩) (fun r54 e54 => ?_)
          subst e54
          rw [leads_nI hR w1 (by omega) (by omega) hq]
          refine lv_if_ne (tgt := 62) hx hb d_T_may_57 rfl (fun h57 => ?_) (fun h57 => ?_)
          ·
            have h57 := b2i_t h57
            refine lv_aload_n hx hb d_T_may_62 rfl (lv_at hl 1 rfl) ?_
            refine lv_aload_n hx hb d_T_may_63 rfl (lv_at hl 0 rfl) ?_
            refine lv_iload_n hx hb d_T_may_64 rfl (lv_at hl 3 rfl) ?_
            refine vp_callSi (W.runV (As := [.ref (gA_ad G (18 + 4 * i2)), .int (nI q)]) (rest := []) ⟨hx, hb, hml, hown, hts⟩ (c_T_isTaken l X G A i2 hli2 q hq) (cwV 2 hts (gV (wd_1 213 rfl rfl) (wd_1 215 rfl rfl) (wd_s 2 rfl) (wd_1 1 rfl rfl) (wd_1 216 rfl rfl)) rfl rfl rfl ⟨rfl, hd_T_isTaken⟩ ⟨Nat.le_of_ble_eq_true rfl, Nat.le_of_ble_eq_true rfl⟩) (vx_preV (P := PR X G A) hP hK (va_recv hK.1 hP (ci := 0) rfl cw_0)) rfl rfl hl.1 rfl (lv_room (Nat.le_of_ble_eq_true rfl)) d_T_may_65 ⟨Nat.zero_le _, Nat.zero_le _⟩) (fun r65 e65 => ?_)
            subst e65
            refine lv_if_eq (tgt := 73) hx hb d_T_may_68 rfl (fun h68 => ?_) (fun h68 => ?_)
            ·
              have h68 := b2i_f h68
              have htk : q = sA_pl A i2 ∨ inP A q = -1 := by
                rw [taken_iff hC w3 hq] at h68
                simp only [decide_eq_false_iff_not, not_and, ne_eq, Classical.not_not] at h68
                by_cases e1 : q = sA_pl A i2
                · exact Or.inl e1
                · exact Or.inr (h68 e1)
              refine lv_aload_n hx hb d_T_may_73 rfl (lv_at hl 1 rfl) ?_
              refine va_get (D := X.1) (ci := 0) (C := R_ClusterTool) (T := F_ClusterTool) (N := 8) hx hb hts hin_ClusterTool hown hK.1 hP 0 cw_0 rfl 1 (by decide) (hts _ (wd_1 86 rfl rfl)) (fun _ h9 => h9) rfl d_T_may_74 ?_
              refine lv_aload_n hx hb d_T_may_77 rfl (lv_at hl 1 rfl) ?_
              refine va_get (D := X.1) (ci := 0) (C := R_ClusterTool) (T := F_ClusterTool) (N := 8) hx hb hts hin_ClusterTool hown hK.1 hP 0 cw_0 rfl 0 (by decide) (hts _ (wd_1 85 rfl rfl)) (fun _ h9 => h9) rfl d_T_may_78 ?_
              refine lv_aload_n hx hb d_T_may_81 rfl (lv_at hl 1 rfl) ?_
              refine lv_aload_n hx hb d_T_may_82 rfl (lv_at hl 0 rfl) ?_
              refine lv_iload_n hx hb d_T_may_83 rfl (lv_at hl 3 rfl) ?_
              refine vp_callSi (W.runV (As := [.ref (gA_ad G (18 + 4 * i2)), .int (nI q)]) (rest := [.ref (gA_ad G 1), .ref (gA_ad G 2)]) ⟨hx, hb, hml, hown, hts⟩ (c_T_situationAfter l X G A i2 hli2 (nI q) hI hC) (cwV 2 hts (gV (wd_1 217 rfl rfl) (wd_1 219 rfl rfl) (wd_s 3 rfl) (wd_1 1 rfl rfl) (wd_1 220 rfl rfl)) rfl rfl rfl ⟨rfl, hd_T_situationAfter⟩ ⟨Nat.le_of_ble_eq_true rfl, Nat.le_of_ble_eq_true rfl⟩) (vx_preV (P := PR X G A) hP hK (va_recv hK.1 hP (ci := 0) rfl cw_0)) rfl rfl hl.1 rfl (lv_room (Nat.le_of_ble_eq_true rfl)) d_T_may_84 ⟨Nat.zero_le _, Nat.zero_le _⟩) (fun r84 e84 => ?_)
              subst e84
              rw [sitAfter_nI hI hli2 hq h57 htk]
              have hg3 : q < 4 → sA_sg A i2 < 3 := fun h4 => mskN_pos (lead_q4 h57 h4) (env_ok hR)
              have hph := phi_31 (okD_mov (p := sA_pl A i2) (q := q) (okD_SA hI) w1 (by omega : sA_sg A i2 < 4) hg3)
              refine lv_iconst (v := 0) hx hb d_T_may_87 rfl ?_
              refine va_calli (va_runVN (As := [.ref (gA_ad G 1), .int (nI (enc (movS (SA A) (sA_rt A i2) (sA_sg A i2) (sA_pl A i2) q))), .int 0]) (rest := []) ⟨hx, hb, hml, hown, hts⟩ (c_E_all l X 34 G A Af (movS (SA A) (sA_rt A i2) (sA_sg A i2) (sA_pl A i2) q) 0 hR hC.2.2.2.1 (fit_mov (SA_fit hI) hq w1 (by omega) hg3) (by omega) (by omega)) ⟨va_cnB 3 hts (gC (wd_1 239 rfl rfl) rfl) rfl rfl rfl (hK.2.1 _ (List.mem_of_getElem? (i := 18) rfl)) (hts _ (wd_1 4 rfl rfl)) hd_E_search ⟨Nat.le_of_ble_eq_true rfl, Nat.le_of_ble_eq_true rfl⟩, hts _ (wd_1 238 rfl rfl), hts _ (wd_s 5 rfl)⟩ (vx_preV (P := PW X Af G A) ⟨hP, hD⟩ hK (va_recv hK.1 hP (ci := 2) rfl cw_2)) rfl rfl hl.1 rfl (lv_room (Nat.le_of_ble_eq_true rfl)) d_T_may_88 ⟨Nat.zero_le _, Nat.zero_le _⟩) hS (fun q _ h => h) (fun q h => h) (fun r88 u88 t88 H locs ht hvm hu88 hB hz hk hS => ?_)
              obtain ⟨hP, hD⟩ := hB
              rw [ht] at hP
              obtain ⟨e88, kn88, ps88, hm88, hz88, hu88⟩ := hu88
              subst e88
              subst hu88
              have hP : va_P X.1 classes (cw X (gU_ps (gU_kn G kn88) ps88) A) H := hP
              have hD : va_D Af (cw X (gU_ps (gU_kn G kn88) ps88) A) := hD
              refine lv_if_ne (tgt := 96) hx hb d_T_may_91 rfl (fun h91 => ?_) (fun h91 => ?_)
              ·
                have h91 := b2i_t h91
                refine lv_aload_n hx hb d_T_may_96 rfl (lv_at hl 1 rfl) ?_
                refine lv_aload_n hx hb d_T_may_97 rfl (lv_at hl 0 rfl) ?_
                refine va_getN (D := X.1) (ci := 5) (C := R_Wafer) (T := F_Wafer) (N := 10) hx hb hts hin_Wafer hown hK.1 hP (18 + 4 * i2) (cw_w hli2) rfl 4 (by decide) (va_Nw.use rfl (hK.2.1 _ (List.mem_of_getElem? (i := 12) rfl))) (fun _ h9 => h9) rfl d_T_may_98 ?_
                refine lv_iload_n hx hb d_T_may_101 rfl (lv_at hl 3 rfl) ?_
                refine va_csq (W.runV (As := [.int (nI (sA_pl A i2)), .int (nI q)]) (rest := []) ⟨hx, hb, hml, hown, hts⟩ (c_T_robotFor l X (gU_ps (gU_kn G kn88) ps88) A (nI (sA_pl A i2)) (nI q)) (cwV 2 hts (gV (wd_2 17 rfl rfl) (wd_2 19 rfl rfl) (wd_s 7 rfl) (wd_1 1 rfl rfl) (wd_2 20 rfl rfl)) rfl rfl rfl ⟨rfl, hd_T_robotFor⟩ ⟨Nat.le_of_ble_eq_true rfl, Nat.le_of_ble_eq_true rfl⟩) (vx_preV (P := PR X (gU_ps (gU_kn G kn88) ps88) A) hP hK (va_recv hK.1 hP (ci := 0) rfl cw_0)) rfl rfl hl.1 rfl (lv_room (Nat.le_of_ble_eq_true rfl)) d_T_may_102 ⟨Nat.zero_le _, Nat.zero_le _⟩) (fun r102 e102 => ?_)
                rcases robotFor_c (nI (sA_pl A i2)) (nI q) with q102 | q102
                ·
                  have e102 : r102 = some (gA_ad G 4) := by rw [e102, q102]; rfl
                  subst e102
                  refine va_getN (D := X.1) (ci := 3) (C := R_Robot) (T := F_Robot) (N := 2) hx hb hts hin_Robot hown hK.1 hP 4 cw_4 rfl 0 (by decide) (va_Nw.use rfl (hK.2.1 _ (List.mem_of_getElem? (i := 5) rfl))) (fun _ h9 => h9) rfl d_T_may_105 ?_
                  refine lv_if_eq (tgt := 115) hx hb d_T_may_108 rfl (fun h108 => ?_) (fun h108 => ?_)
                  ·
                    have h108 := b2i_f h108
                    refine lv_iconst (v := 0) hx hb d_T_may_115 rfl ?_
                    exact W.iret (v := 0) hx hb hrt (fun t ht hW => ⟨⟨_, ((gU_ps (gU_kn G (kn88)) (ps88)), A), rfl, ⟨by rw [mayF_at hn q2 hq, mayN, if_neg hun, if_neg (show ¬ leadN _ _ _ _ = false by rw [h57]; decide), if_neg (show ¬ (q ≠ sA_pl A i2 ∧ inP A q ≠ -1) by rw [taken_iff hC (by omega) hq] at h68; simpa using h68), if_neg (show ¬ canE (envA A) (toS (envA A) (sitAft A i2 q)) = false by rw [sitAft_mov (by omega) hq (lead_dn (env_ok hR) h57).1 (lead_dn (env_ok hR) h57).2, h91]; decide), busyF, if_pos (rob_4 (by omega) hq q102), if_neg (nt_of h108)], kn88, ps88, RC_memo hC hm88 (by omega), rfl⟩, ⟨by rw [ht]; exact hP, hD⟩⟩, hS.F ht⟩) hS.2.2 d_T_may_116
                  ·
                    have h108 := b2i_t h108
                    refine lv_iconst (v := 5) hx hb d_T_may_111 rfl ?_
                    refine lv_goto (tgt := 116) hx hb d_T_may_112 rfl ?_
                    exact W.iret (v := 5) hx hb hrt (fun t ht hW => ⟨⟨_, ((gU_ps (gU_kn G (kn88)) (ps88)), A), rfl, ⟨by rw [mayF_at hn q2 hq, mayN, if_neg hun, if_neg (show ¬ leadN _ _ _ _ = false by rw [h57]; decide), if_neg (show ¬ (q ≠ sA_pl A i2 ∧ inP A q ≠ -1) by rw [taken_iff hC (by omega) hq] at h68; simpa using h68), if_neg (show ¬ canE (envA A) (toS (envA A) (sitAft A i2 q)) = false by rw [sitAft_mov (by omega) hq (lead_dn (env_ok hR) h57).1 (lead_dn (env_ok hR) h57).2, h91]; decide), busyF, if_pos (rob_4 (by omega) hq q102), if_pos h108], kn88, ps88, RC_memo hC hm88 (by omega), rfl⟩, ⟨by rw [ht]; exact hP, hD⟩⟩, hS.F ht⟩) hS.2.2 d_T_may_116
                ·
                  have e102 : r102 = some (gA_ad G 3) := by rw [e102, q102]; rfl
                  subst e102
                  refine va_getN (D := X.1) (ci := 3) (C := R_Robot) (T := F_Robot) (N := 2) hx hb hts hin_Robot hown hK.1 hP 3 cw_3 rfl 0 (by decide) (va_Nw.use rfl (hK.2.1 _ (List.mem_of_getElem? (i := 5) rfl))) (fun _ h9 => h9) rfl d_T_may_105 ?_
                  refine lv_if_eq (tgt := 115) hx hb d_T_may_108 rfl (fun h108 => ?_) (fun h108 => ?_)
                  ·
                    have h108 := b2i_f h108
                    refine lv_iconst (v := 0) hx hb d_T_may_115 rfl ?_
                    exact W.iret (v := 0) hx hb hrt (fun t ht hW => ⟨⟨_, ((gU_ps (gU_kn G (kn88)) (ps88)), A), rfl, ⟨by rw [mayF_at hn q2 hq, mayN, if_neg hun, if_neg (show ¬ leadN _ _ _ _ = false by rw [h57]; decide), if_neg (show ¬ (q ≠ sA_pl A i2 ∧ inP A q ≠ -1) by rw [taken_iff hC (by omega) hq] at h68; simpa using h68), if_neg (show ¬ canE (envA A) (toS (envA A) (sitAft A i2 q)) = false by rw [sitAft_mov (by omega) hq (lead_dn (env_ok hR) h57).1 (lead_dn (env_ok hR) h57).2, h91]; decide), busyF, if_neg (nt_of (rob_3 (by omega) hq q102)), if_neg (nt_of h108)], kn88, ps88, RC_memo hC hm88 (by omega), rfl⟩, ⟨by rw [ht]; exact hP, hD⟩⟩, hS.F ht⟩) hS.2.2 d_T_may_116
                  ·
                    have h108 := b2i_t h108
                    refine lv_iconst (v := 5) hx hb d_T_may_111 rfl ?_
                    refine lv_goto (tgt := 116) hx hb d_T_may_112 rfl ?_
                    exact W.iret (v := 5) hx hb hrt (fun t ht hW => ⟨⟨_, ((gU_ps (gU_kn G (kn88)) (ps88)), A), rfl, ⟨by rw [mayF_at hn q2 hq, mayN, if_neg hun, if_neg (show ¬ leadN _ _ _ _ = false by rw [h57]; decide), if_neg (show ¬ (q ≠ sA_pl A i2 ∧ inP A q ≠ -1) by rw [taken_iff hC (by omega) hq] at h68; simpa using h68), if_neg (show ¬ canE (envA A) (toS (envA A) (sitAft A i2 q)) = false by rw [sitAft_mov (by omega) hq (lead_dn (env_ok hR) h57).1 (lead_dn (env_ok hR) h57).2, h91]; decide), busyF, if_neg (nt_of (rob_3 (by omega) hq q102)), if_pos h108], kn88, ps88, RC_memo hC hm88 (by omega), rfl⟩, ⟨by rw [ht]; exact hP, hD⟩⟩, hS.F ht⟩) hS.2.2 d_T_may_116
              ·
                have h91 := b2i_f h91
                refine lv_iconst (v := 4) hx hb d_T_may_94 rfl ?_
                exact W.iret (v := 4) hx hb hrt (fun t ht hW => ⟨⟨_, ((gU_ps (gU_kn G (kn88)) (ps88)), A), rfl, ⟨by rw [mayF_at hn q2 hq, mayN, if_neg hun, if_neg (show ¬ leadN _ _ _ _ = false by rw [h57]; decide), if_neg (show ¬ (q ≠ sA_pl A i2 ∧ inP A q ≠ -1) by rw [taken_iff hC (by omega) hq] at h68; simpa using h68), if_pos (show canE (envA A) (toS (envA A) (sitAft A i2 q)) = false by rw [sitAft_mov (by omega) hq (lead_dn (env_ok hR) h57).1 (lead_dn (env_ok hR) h57).2, h91])], kn88, ps88, RC_memo hC hm88 (by omega), rfl⟩, ⟨by rw [ht]; exact hP, hD⟩⟩, hS.F ht⟩) hS.2.2 d_T_may_95
            ·
              have h68 := b2i_t h68
              refine lv_iconst (v := 3) hx hb d_T_may_71 rfl ?_
              exact W.iret (v := 3) hx hb hrt (fun t ht hW => ⟨⟨_, ((gU_ps (gU_kn G (gA_kn G)) (gA_ps G)), A), rfl, ⟨by rw [mayF_at hn q2 hq, mayN, if_neg hun, if_neg (show ¬ leadN _ _ _ _ = false by rw [h57]; decide), if_pos (show q ≠ sA_pl A i2 ∧ inP A q ≠ -1 by rw [taken_iff hC (by omega) hq] at h68; simpa using h68)], (gA_kn G), (gA_ps G), hC, rfl⟩, ⟨by rw [ht]; exact hP, hD⟩⟩, hS.F ht⟩) hS.2.2 d_T_may_72
          ·
            have h57 := b2i_f h57
            refine lv_iconst (v := 2) hx hb d_T_may_60 rfl ?_
            exact W.iret (v := 2) hx hb hrt (fun t ht hW => ⟨⟨_, ((gU_ps (gU_kn G (gA_kn G)) (gA_ps G)), A), rfl, ⟨by rw [mayF_at hn q2 hq, mayN, if_neg hun, if_pos h57], (gA_kn G), (gA_ps G), hC, rfl⟩, ⟨by rw [ht]; exact hP, hD⟩⟩, hS.F ht⟩) hS.2.2 d_T_may_61
        ·
          refine lv_iconst (v := 1) hx hb d_T_may_35 rfl ?_
          exact W.iret (v := 1) hx hb hrt (fun t ht hW => ⟨⟨_, ((gU_ps (gU_kn G (gA_kn G)) (gA_ps G)), A), rfl, ⟨by rw [mayF_at hn q2 hq, mayN, if_pos (Or.inl (lf_pos h32))], (gA_kn G), (gA_ps G), hC, rfl⟩, ⟨by rw [ht]; exact hP, hD⟩⟩, hS.F ht⟩) hS.2.2 d_T_may_36
    ·
      have h16 := b2i_f h16
      refine lv_iconst (v := (-1)) hx hb d_T_may_19 rfl ?_
      exact W.iret (v := (-1)) hx hb hrt (fun t ht hW => ⟨⟨_, ((gU_ps (gU_kn G (gA_kn G)) (gA_ps G)), A), rfl, ⟨mayF_bad hn q2 h16, (gA_kn G), (gA_ps G), hC, rfl⟩, ⟨by rw [ht]; exact hP, hD⟩⟩, hS.F ht⟩) hS.2.2 d_T_may_20
end
section
/-! A move. Own work. -/
theorem timeAt_nI {A : St} {r g : Nat} (hR : rOk A) (hg : g < sA_len A r) : f_U_timeAt A r (nI g) = nI (sA_tm A r g) := by
  have := hR.1 r
  unfold f_U_timeAt
  rw [has_nI hR (by omega), nI_clamp (by omega), if_pos (by simp [hg])]
def robA (A : St) (b : Bool) : St := if b = true then sU_bm (sU_bb A true) (sA_bm A + 1) else sU_fm (sU_fb A true) (sA_fm A + 1)
def begA0 (B : St) (i q : Nat) : St := sU_sg (sU_lf (sU_en (sU_be (sU_ch B (va_up (sA_ch B) i (upd (sA_ch B i) (sA_sg B i) (nI q)))) (va_up (sA_be B) i (upd (sA_be B i) (sA_sg B i) (sA_ck B)))) (va_up (sA_en B) i (upd (sA_en B i) (sA_sg B i) (-1)))) (va_up (sA_lf B) i (sA_tm B (sA_rt B i) (sA_sg B i)))) (va_up (sA_sg B) i (sA_sg B i + 1))
def begA (B : St) (i q : Nat) : St := sU_sn (begA0 B i q) (va_up (sA_sn B) i 0)
def plB (B : St) (i q : Nat) : St := sU_pl B (va_up (sA_pl B) i q)
def mvA (B : St) (i q : Nat) : St := if q < 4 then begA (plB B i q) i q else plB B i q
def robB (A : St) (i q : Nat) : St := robA A (backN (sA_pl A i) || backN q)
def moveA (A : St) (i q : Nat) : St := mvA (robB A i q) i q
def ins1 (f : Nat → Int32) (k : Nat) : Nat → Int32 := if k = 5 then f else upd f k (-1)
def ins2 (f : Nat → Int32) (q i : Nat) : Nat → Int32 := if q = 5 then f else upd f q (nI i)
def arrG (G : Gc) (i q : Nat) : Gc := gU_fi (gU_wt G (va_up (gA_wt G) i 0)) (va_up (gA_fi G) i (decide (q = 5)))
def carG (G : Gc) (k i q : Nat) : Gc := arrG (gU_ins G (ins2 (ins1 (gA_ins G) k) q i)) i q
theorem robA_f (A : St) (b : Bool) : sA_n (robA A b) = sA_n A ∧ sA_pl (robA A b) = sA_pl A ∧ sA_sg (robA A b) = sA_sg A ∧ sA_rt (robA A b) = sA_rt A ∧ sA_len (robA A b) = sA_len A ∧ sA_tm (robA A b) = sA_tm A ∧ sA_lf (robA A b) = sA_lf A ∧ sA_mk (robA A b) = sA_mk A ∧ sA_dn (robA A b) = sA_dn A ∧ sA_lm (robA A b) = sA_lm A := by
  cases b <;> exact ⟨rfl, rfl, rfl, rfl, rfl, rfl, rfl, rfl, rfl, rfl⟩
theorem arrive_eq {G : Gc} {A : St} {i q : Nat} (hq : q < 6) : g_W_arrive G A i q = (arrG G i q, plB A i q) := by
  unfold g_W_arrive arrG plB
  by_cases h : q = 5
  · subst h
    rw [if_pos (show nI 5 = (5 : Int32) from rfl)]
    rfl
  · rw [if_neg (show ¬ nI q = (5 : Int32) from nI_ne (b := 5) h (by omega) (by omega))]
    simp [h]
theorem cw_sn {X : Xt} {G : Gc} {A : St} {f : Nat → Nat} : cw X G (sU_sn A f) = cw X G A := rfl
theorem cw_beg {X : Xt} {G : Gc} {B : St} {i q : Nat} : cw X G (begA0 B i q) = cw X G (begA B i q) := (cw_sn (A := begA0 B i q)).symm
theorem begin_eq {G : Gc} {B : St} {i q : Nat} (hg : sA_sg B i < 3) (hp : sA_pl B i = q) : g_W_begin G B i (sA_tm B (sA_rt B i) (sA_sg B i)) (sA_ck B) = (G, begA0 B i q) := by
  unfold g_W_begin begA0
  rw [if_neg (show ¬ (3 : Int32) ≤ nI (sA_sg B i) from nI_ge (b := 3) hg (by omega)), hp]
theorem pl5 {n : Nat} (hn : n ≤ 5) (h : nI n = 5) : n = 5 := (nI_eq (b := 5) (by omega) (by omega)).mp h
theorem lt4 {q : Nat} (hq : q < 6) (h : ¬ (4 : Int32) ≤ nI q) : q < 4 := Nat.lt_of_not_le fun z => h (nI_le (a := 4) z (by omega))
theorem ge4 {q : Nat} (hq : q < 6) (h : (4 : Int32) ≤ nI q) : ¬ q < 4 := fun z => nI_ge (b := 4) z (by omega) h
end
section
abbrev rm_T_carry : Room := { frames := 2, cells := 0, slots := 0, locals := 43 }
set_option maxRecDepth 20000 in
set_option maxHeartbeats 4000000 in
theorem sg_T_carry_39 {p : Program} {l : Launch} {e : Env} {s : State} {m : MethodId} {args : Array Value} {below : List Frame} {meth : Method} {c : Code} {Q : State → Prop} {X : Xt} {G : Gc} {B : St} {Af : Nat → Prop} {i q : Nat} (hx : p.tables.exec = Jvm.exec) (hb : c.code = b_T_carry) (hts : ∀ w ∈ Cond.code y_T_carry b_T_carry 6 none :: WA, w.before args s = true) (hown : s.vm.findClass R_ClusterTool = some m.cls) (hml : c.maxLocals = 6) (hK : KK X s) (hi : i < sA_n B) (hq : q < 6) (w1 : sA_rt B i < 2) (w3 : sA_pl B i ≤ 5) (hR : rOk B) {ls : Array Slot} (hl : lv_has ls 6 [(3, .ref (gA_ad G (18 + 4 * i))), (2, .int (nI q)), (1, .int (nI i)), (0, .ref (gA_ad G 0))]) (kont : ∀ (H : Heap) (locs : List Loc), va_P X.1 classes (cw X (gU_ins G (ins1 (gA_ins G) (sA_pl B i))) B) H → va_D Af (cw X (gU_ins G (ins1 (gA_ins G) (sA_pl B i))) B) → va_S Af s.heap H locs → W p l e rm_T_carry s m args below meth c H locs 0 0 Q (F0 m 57 ls [])) : ∀ (H : Heap) (locs : List Loc), va_P X.1 classes (cw X G B) H → va_D Af (cw X G B) → va_S Af s.heap H locs → W p l e rm_T_carry s m args below meth c H locs 0 0 Q (F0 m 39 ls []) := by
  intro H locs hP hD hS
  refine lv_aload_n hx hb d_T_carry_39 rfl (lv_at hl 0 rfl) ?_
  refine va_getN (D := X.1) (ci := 5) (C := R_Wafer) (T := F_Wafer) (N := 10) hx hb hts hin_Wafer hown hK.1 hP (18 + 4 * i) (cw_w hi) rfl 4 (by decide) (va_Nw.use rfl (hK.2.1 _ (List.mem_of_getElem? (i := 12) rfl))) (fun _ h9 => h9) rfl d_T_carry_40 ?_
  refine lv_iconst (v := 5) hx hb d_T_carry_43 rfl ?_
  refine lv_icmp_eq (tgt := 57) hx hb d_T_carry_44 rfl (fun h44 => ?_) (fun h44 => ?_)
  ·
    have eI : ins1 (gA_ins G) (sA_pl B i) = gA_ins G := by unfold ins1; rw [if_pos (pl5 w3 h44)]
    exact kont H locs (by rw [eI]; exact hP) (by rw [eI]; exact hD) hS
  ·
    refine lv_aload_n hx hb d_T_carry_47 rfl (lv_at hl 3 rfl) ?_
    refine va_get (D := X.1) (ci := 0) (C := R_ClusterTool) (T := F_ClusterTool) (N := 8) hx hb hts hin_ClusterTool hown hK.1 hP 0 cw_0 rfl 5 (by decide) (hts _ (wd_1 90 rfl rfl)) (fun _ h9 => h9) rfl d_T_carry_48 ?_
    refine lv_aload_n hx hb d_T_carry_51 rfl (lv_at hl 0 rfl) ?_
    refine va_getN (D := X.1) (ci := 5) (C := R_Wafer) (T := F_Wafer) (N := 10) hx hb hts hin_Wafer hown hK.1 hP (18 + 4 * i) (cw_w hi) rfl 4 (by decide) (va_Nw.use rfl (hK.2.1 _ (List.mem_of_getElem? (i := 12) rfl))) (fun _ h9 => h9) rfl d_T_carry_52 ?_
    refine lv_iconst (v := (-1)) hx hb d_T_carry_55 rfl ?_
    refine va_iast hx hb hK.1 hP hD hS 6 0 cw_6 rfl (vp_in_nI (ne5 (by omega) h44) (by omega)) d_T_carry_56 (fun H locs hP hD hS => ?_)
    rw [nI_clamp (n := sA_pl B i) (by omega)] at hP hD
    replace hP := vx_P (cw_s_ins (X := X) (G := G) (A := B) (k := sA_pl B i) (v := (-1))) hP
    replace hD := vx_D (cw_s_ins (X := X) (G := G) (A := B) (k := sA_pl B i) (v := (-1))) hD
    have eI : ins1 (gA_ins G) (sA_pl B i) = upd (gA_ins G) (sA_pl B i) (-1) := by unfold ins1; rw [if_neg (show ¬ sA_pl B i = 5 from fun z => h44 (by rw [z]; rfl))]
    exact kont H locs (by rw [eI]; exact hP) (by rw [eI]; exact hD) hS
set_option maxRecDepth 20000 in
set_option maxHeartbeats 4000000 in
theorem sg_T_carry_57 {p : Program} {l : Launch} {e : Env} {s : State} {m : MethodId} {args : Array Value} {below : List Frame} {meth : Method} {c : Code} {Q : State → Prop} {X : Xt} {G : Gc} {B : St} {Af : Nat → Prop} {i q : Nat} (hx : p.tables.exec = Jvm.exec) (hb : c.code = b_T_carry) (hts : ∀ w ∈ Cond.code y_T_carry b_T_carry 6 none :: WA, w.before args s = true) (hown : s.vm.findClass R_ClusterTool = some m.cls) (hml : c.maxLocals = 6) (hK : KK X s) (hi : i < sA_n B) (hq : q < 6) (w1 : sA_rt B i < 2) (w3 : sA_pl B i ≤ 5) (hR : rOk B) {ls : Array Slot} (hl : lv_has ls 6 [(3, .ref (gA_ad G (18 + 4 * i))), (2, .int (nI q)), (1, .int (nI i)), (0, .ref (gA_ad G 0))]) (kont : ∀ (H : Heap) (locs : List Loc), va_P X.1 classes (cw X (gU_ins G (ins2 (gA_ins G) q i)) B) H → va_D Af (cw X (gU_ins G (ins2 (gA_ins G) q i)) B) → va_S Af s.heap H locs → W p l e rm_T_carry s m args below meth c H locs 0 0 Q (F0 m 69 ls [])) : ∀ (H : Heap) (locs : List Loc), va_P X.1 classes (cw X G B) H → va_D Af (cw X G B) → va_S Af s.heap H locs → W p l e rm_T_carry s m args below meth c H locs 0 0 Q (F0 m 57 ls []) := by
  intro H locs hP hD hS
  refine lv_iload_n hx hb d_T_carry_57 rfl (lv_at hl 1 rfl) ?_
  refine lv_iconst (v := 5) hx hb d_T_carry_58 rfl ?_
  refine lv_icmp_eq (tgt := 69) hx hb d_T_carry_59 rfl (fun h59 => ?_) (fun h59 => ?_)
  ·
    have eI : ins2 (gA_ins G) q i = gA_ins G := by unfold ins2; rw [if_pos (pl5 (by omega) h59)]
    exact kont H locs (by rw [eI]; exact hP) (by rw [eI]; exact hD) hS
  ·
    refine lv_aload_n hx hb d_T_carry_62 rfl (lv_at hl 3 rfl) ?_
    refine va_get (D := X.1) (ci := 0) (C := R_ClusterTool) (T := F_ClusterTool) (N := 8) hx hb hts hin_ClusterTool hown hK.1 hP 0 cw_0 rfl 5 (by decide) (hts _ (wd_1 90 rfl rfl)) (fun _ h9 => h9) rfl d_T_carry_63 ?_
    refine lv_iload_n hx hb d_T_carry_66 rfl (lv_at hl 1 rfl) ?_
    refine lv_iload_n hx hb d_T_carry_67 rfl (lv_at hl 2 rfl) ?_
    refine va_iast hx hb hK.1 hP hD hS 6 0 cw_6 rfl (vp_in_nI (ne5 hq h59) (by omega)) d_T_carry_68 (fun H locs hP hD hS => ?_)
    rw [nI_clamp (n := q) (by omega)] at hP hD
    replace hP := vx_P (cw_s_ins (X := X) (G := G) (A := B) (k := q) (v := nI i)) hP
    replace hD := vx_D (cw_s_ins (X := X) (G := G) (A := B) (k := q) (v := nI i)) hD
    have eI : ins2 (gA_ins G) q i = upd (gA_ins G) q (nI i) := by unfold ins2; rw [if_neg (show ¬ q = 5 from fun z => h59 (by rw [z]; rfl))]
    exact kont H locs (by rw [eI]; exact hP) (by rw [eI]; exact hD) hS
set_option maxRecDepth 20000 in
set_option maxHeartbeats 4000000 in
theorem sg_T_carry_69 {p : Program} {l : Launch} {e : Env} {s : State} {m : MethodId} {args : Array Value} {below : List Frame} {meth : Method} {c : Code} {Q : State → Prop} {X : Xt} {G : Gc} {B : St} {Af : Nat → Prop} {i q : Nat} (hx : p.tables.exec = Jvm.exec) (hb : c.code = b_T_carry) (hts : ∀ w ∈ Cond.code y_T_carry b_T_carry 6 none :: WA, w.before args s = true) (hown : s.vm.findClass R_ClusterTool = some m.cls) (hml : c.maxLocals = 6) (hK : KK X s) (hi : i < sA_n B) (hq : q < 6) (w1 : sA_rt B i < 2) (w3 : sA_pl B i ≤ 5) (hR : rOk B) {ls : Array Slot} (hl : lv_has ls 6 [(3, .ref (gA_ad G (18 + 4 * i))), (2, .int (nI q)), (1, .int (nI i)), (0, .ref (gA_ad G 0))]) (kont : ∀ (H : Heap) (locs : List Loc) (ls : Array Slot), va_P X.1 classes (cw X (arrG G i q) (plB B i q)) H → va_D Af (cw X (arrG G i q) (plB B i q)) → va_S Af s.heap H locs → lv_has ls 6 [(5, .ref (gA_ad G (8 + 4 * (sA_rt B i)))), (3, .ref (gA_ad G (18 + 4 * i))), (2, .int (nI q)), (1, .int (nI i)), (0, .ref (gA_ad G 0))] → W p l e rm_T_carry s m args below meth c H locs 0 0 Q (F0 m 87 ls [])) : ∀ (H : Heap) (locs : List Loc), va_P X.1 classes (cw X G B) H → va_D Af (cw X G B) → va_S Af s.heap H locs → W p l e rm_T_carry s m args below meth c H locs 0 0 Q (F0 m 69 ls []) := by
  intro H locs hP hD hS
  refine lv_aload_n hx hb d_T_carry_69 rfl (lv_at hl 0 rfl) ?_
  refine lv_iload_n hx hb d_T_carry_70 rfl (lv_at hl 1 rfl) ?_
  refine va_callv (va_runV (As := [.int (nI q)]) (rest := []) ⟨hx, hb, hml, hown, hts⟩ (c_W_arrive l X G B Af i hi q) (cwV 1 hts (gV (wd_2 31 rfl rfl) (wd_2 32 rfl rfl) (wd_2 33 rfl rfl) (wd_1 7 rfl rfl) (wd_2 34 rfl rfl)) rfl rfl rfl ⟨rfl, hd_W_arrive⟩ ⟨Nat.le_of_ble_eq_true rfl, Nat.le_of_ble_eq_true rfl⟩) (vx_preV (P := PW X Af G B) ⟨hP, hD⟩ hK (va_recv hK.1 hP (ci := 5) rfl (cw_w hi))) rfl rfl hl.1 rfl (lv_room (Nat.le_of_ble_eq_true rfl)) d_T_carry_71 ⟨Nat.zero_le _, Nat.zero_le _⟩) hS (fun q _ h => h) (fun q h => h) (fun u71 t71 H locs ht hvm hu71 hB hz hk hS => ?_)
  obtain ⟨hP, hD⟩ := hB
  rw [ht] at hP
  rw [arrive_eq (q := q) (by omega)] at hu71
  subst hu71
  have hP : va_P X.1 classes (cw X (arrG G i q) (plB B i q)) H := hP
  have hD : va_D Af (cw X (arrG G i q) (plB B i q)) := hD
  have hi2 : i < sA_n (plB B i q) := hi
  refine lv_aload_n hx hb d_T_carry_74 rfl (lv_at hl 3 rfl) ?_
  refine va_get (D := X.1) (ci := 0) (C := R_ClusterTool) (T := F_ClusterTool) (N := 8) hx hb hts hin_ClusterTool hown hK.1 hP 0 cw_0 rfl 0 (by decide) (hts _ (wd_1 85 rfl rfl)) (fun _ h9 => h9) rfl d_T_carry_75 ?_
  refine lv_aload_n hx hb d_T_carry_78 rfl (lv_at hl 0 rfl) ?_
  refine va_getN (D := X.1) (ci := 5) (C := R_Wafer) (T := F_Wafer) (N := 10) hx hb hts hin_Wafer hown hK.1 hP (18 + 4 * i) (cw_w hi2) rfl 0 (by decide) (va_Nw.use rfl (hK.2.1 _ (List.mem_of_getElem? (i := 8) rfl))) (fun _ h9 => h9) rfl d_T_carry_79 ?_
  refine va_csq (W.runV (As := [.int (nI (sA_rt B i))]) (rest := []) ⟨hx, hb, hml, hown, hts⟩ (c_Y_routeOf l X (arrG G i q) (plB B i q) (nI (sA_rt B i))) (cwV 1 hts (gV (wd_1 114 rfl rfl) (wd_1 115 rfl rfl) (wd_1 116 rfl rfl) (wd_1 2 rfl rfl) (wd_1 117 rfl rfl)) rfl rfl rfl ⟨rfl, hd_Y_routeOf⟩ ⟨Nat.le_of_ble_eq_true rfl, Nat.le_of_ble_eq_true rfl⟩) (vx_preV (P := PR X (arrG G i q) (plB B i q)) hP hK (va_recv hK.1 hP (ci := 1) rfl cw_1)) rfl rfl hl.1 rfl (lv_room (Nat.le_of_ble_eq_true rfl)) d_T_carry_82 ⟨Nat.zero_le _, Nat.zero_le _⟩) (fun r82 e82 => ?_)
  cases q82 : f_Y_routeOf (nI (sA_rt B i)) with
  | none =>
    have e82 : r82 = none := by rw [e82, q82]; rfl
    subst e82
    exact absurd (routeOf_nI _ w1) (by rw [q82]; exact fun z => by cases z)
  | some i82 =>
    have e82 : r82 = some (gA_ad G (8 + 4 * i82)) := by rw [e82, q82]; rfl
    subst e82
    have hli82 := routeOf_lt q82
    have er : i82 = sA_rt B i := Option.some.inj (q82.symm.trans (routeOf_nI _ w1))
    subst er
    refine lv_astore (lv' := [(5, .ref (gA_ad G (8 + 4 * (sA_rt B i)))), (3, .ref (gA_ad G (18 + 4 * i))), (2, .int (nI q)), (1, .int (nI i)), (0, .ref (gA_ad G 0))]) hx hb d_T_carry_85 hl (by decide) rfl (fun ls hl => ?_)
    exact kont H locs ls hP hD hS (lv_sub hl [0, 1, 2, 3, 4] rfl)
set_option maxRecDepth 20000 in
set_option maxHeartbeats 4000000 in
theorem sg_T_carry_87 {p : Program} {l : Launch} {e : Env} {s : State} {m : MethodId} {args : Array Value} {below : List Frame} {meth : Method} {c : Code} {Q : State → Prop} {X : Xt} {G : Gc} {B : St} {Af : Nat → Prop} {i q : Nat} (hx : p.tables.exec = Jvm.exec) (hb : c.code = b_T_carry) (hts : ∀ w ∈ Cond.code y_T_carry b_T_carry 6 none :: WA, w.before args s = true) (hown : s.vm.findClass R_ClusterTool = some m.cls) (hml : c.maxLocals = 6) (hK : KK X s) (hi : i < sA_n B) (hq : q < 6) (w1 : sA_rt B i < 2) (w3 : sA_pl B i ≤ 5) (hR : rOk B) {ls : Array Slot} (hp : sA_pl B i = q) (h4 : q < 4 → sA_sg B i < sA_len B (sA_rt B i)) (hl : lv_has ls 6 [(5, .ref (gA_ad G (8 + 4 * (sA_rt B i)))), (3, .ref (gA_ad G (18 + 4 * i))), (2, .int (nI q)), (1, .int (nI i)), (0, .ref (gA_ad G 0))]) (kont : ∀ (H : Heap) (locs : List Loc) (ls : Array Slot), va_P X.1 classes (cw X G (if q < 4 then begA B i q else B)) H → va_D Af (cw X G (if q < 4 then begA B i q else B)) → va_S Af s.heap H locs → W p l e rm_T_carry s m args below meth c H locs 0 0 Q (F0 m 114 ls [])) : ∀ (H : Heap) (locs : List Loc), va_P X.1 classes (cw X G B) H → va_D Af (cw X G B) → va_S Af s.heap H locs → W p l e rm_T_carry s m args below meth c H locs 0 0 Q (F0 m 87 ls []) := by
  intro H locs hP hD hS
  refine lv_iload_n hx hb d_T_carry_87 rfl (lv_at hl 2 rfl) ?_
  refine lv_iconst (v := 4) hx hb d_T_carry_88 rfl ?_
  refine lv_icmp_ge (tgt := 114) hx hb d_T_carry_89 rfl (fun h89 => ?_) (fun h89 => ?_)
  ·
    exact kont H locs ls (by rw [if_neg (ge4 hq h89)]; exact hP) (by rw [if_neg (ge4 hq h89)]; exact hD) hS
  ·
    refine lv_aload hx hb d_T_carry_92 (lv_at hl 0 rfl) ?_
    refine lv_ifnull hx hb d_T_carry_94 ?_
    have hq4 := lt4 hq h89
    have hsl := h4 hq4
    have wl := hR.1 (sA_rt B i)
    have hsg3 : sA_sg B i < 3 := by omega
    refine lv_aload_n hx hb d_T_carry_97 rfl (lv_at hl 1 rfl) ?_
    refine lv_aload hx hb d_T_carry_98 (lv_at hl 0 rfl) ?_
    refine lv_aload_n hx hb d_T_carry_100 rfl (lv_at hl 1 rfl) ?_
    refine va_getN (D := X.1) (ci := 5) (C := R_Wafer) (T := F_Wafer) (N := 10) hx hb hts hin_Wafer hown hK.1 hP (18 + 4 * i) (cw_w hi) rfl 5 (by decide) (va_Nw.use rfl (hK.2.1 _ (List.mem_of_getElem? (i := 13) rfl))) (fun _ h9 => h9) rfl d_T_carry_101 ?_
    refine vp_callSi (W.runV (As := [.int (nI (sA_sg B i))]) (rest := [.ref (gA_ad G (18 + 4 * i))]) ⟨hx, hb, hml, hown, hts⟩ (c_U_timeAt l X G B (sA_rt B i) w1 (nI (sA_sg B i)) hR) (cwV 1 hts (gV (wd_2 35 rfl rfl) (wd_2 36 rfl rfl) (wd_2 37 rfl rfl) (wd_1 3 rfl rfl) (wd_2 38 rfl rfl)) rfl rfl rfl ⟨rfl, hd_U_timeAt⟩ ⟨Nat.le_of_ble_eq_true rfl, Nat.le_of_ble_eq_true rfl⟩) (vx_preV (P := PR X G B) hP hK (va_recv hK.1 hP (ci := 4) rfl (cw_r w1))) rfl rfl hl.1 rfl (lv_room (Nat.le_of_ble_eq_true rfl)) d_T_carry_104 ⟨Nat.zero_le _, Nat.zero_le _⟩) (fun r104 e104 => ?_)
    subst e104
    rw [timeAt_nI hR hsl]
    refine lv_aload_n hx hb d_T_carry_107 rfl (lv_at hl 4 rfl) ?_
    refine va_get (D := X.1) (ci := 0) (C := R_ClusterTool) (T := F_ClusterTool) (N := 8) hx hb hts hin_ClusterTool hown hK.1 hP 0 cw_0 rfl 7 (by decide) (hts _ (wd_1 92 rfl rfl)) (fun _ h9 => h9) rfl d_T_carry_108 ?_
    refine va_callv (va_runV (As := [.int (nI (sA_tm B (sA_rt B i) (sA_sg B i))), .int (sA_ck B)]) (rest := []) ⟨hx, hb, hml, hown, hts⟩ (c_W_begin l X G B Af i hi (sA_tm B (sA_rt B i) (sA_sg B i)) (sA_ck B) (by omega)) (cwV 2 hts (gV (wd_2 39 rfl rfl) (wd_2 40 rfl rfl) (wd_2 41 rfl rfl) (wd_1 7 rfl rfl) (wd_2 42 rfl rfl)) rfl rfl rfl ⟨rfl, hd_W_begin⟩ ⟨Nat.le_of_ble_eq_true rfl, Nat.le_of_ble_eq_true rfl⟩) (vx_preV (P := PW X Af G B) ⟨hP, hD⟩ hK (va_recv hK.1 hP (ci := 5) rfl (cw_w hi))) rfl rfl hl.1 rfl (lv_room (Nat.le_of_ble_eq_true rfl)) d_T_carry_111 ⟨Nat.zero_le _, Nat.zero_le _⟩) hS (fun q _ h => h) (fun q h => h) (fun u111 t111 H locs ht hvm hu111 hB hz hk hS => ?_)
    obtain ⟨hP, hD⟩ := hB
    rw [ht] at hP
    rw [begin_eq (q := q) hsg3 hp] at hu111
    subst hu111
    replace hP := vx_P cw_beg hP
    replace hD := vx_D cw_beg hD
    exact kont H locs ls (by rw [if_pos (lt4 hq h89)]; exact hP) (by rw [if_pos (lt4 hq h89)]; exact hD) hS
set_option maxRecDepth 20000 in
set_option maxHeartbeats 4000000 in
theorem c_T_carry (l : Launch) (X : Xt) (G : Gc) (A : St) (Af : Nat → Prop) (i : Nat) (q : Nat) (hI : Inv A) (hi : i < sA_n A) (hq : q < 6) (h4 : q < 4 → sA_sg A i < sA_len A (sA_rt A i)) : Met l y_T_carry (Cond.code y_T_carry b_T_carry 6 none :: WA) rm_T_carry (va_Pc [.ref (gA_ad G 0), .int (nI i), .int (nI q)] (fun U => PW X Af G A U.heap ∧ KK X U)) (va_Qv (fun u => u = (carG G (sA_pl A i) i q, moveA A i q)) (atC X Af) Af) 0 0 Af := by
  refine vx_met (cc := b_T_carry) (maxL := 6) (ret := none) (by decide) rfl (Nat.le_of_ble_eq_true rfl) ?_
  intro p e s m below meth c ls hx hb hrt hts hown hlocks hname hml hB hl
  obtain ⟨hP, hK⟩ := hB
  have hown : s.vm.findClass R_ClusterTool = some m.cls := hown
  have hl : lv_has ls 6 [(0, .ref (gA_ad G 0)), (1, .int (nI i)), (2, .int (nI q))] := hl
  have hD : va_D Af (cw X G A) := hP.2
  have hP : va_P X.1 classes (cw X G A) s.heap := hP.1
  have hS : va_S Af s.heap s.heap [] := va_S.rf
  have hn := hI.1
  have hR := hI.2.1
  refine lv_aload_n hx hb d_T_carry_0 rfl (lv_at hl 0 rfl) ?_
  refine lv_iload_n hx hb d_T_carry_1 rfl (lv_at hl 1 rfl) ?_
  refine va_csq (W.runV (As := [.int (nI i)]) (rest := []) ⟨hx, hb, hml, hown, hts⟩ (c_T_waferOf l X G A (nI i) hn) (cwV 1 hts (gV (wd_1 180 rfl rfl) (wd_1 182 rfl rfl) (wd_s 0 rfl) (wd_1 1 rfl rfl) (wd_1 183 rfl rfl)) rfl rfl rfl ⟨rfl, hd_T_waferOf⟩ ⟨Nat.le_of_ble_eq_true rfl, Nat.le_of_ble_eq_true rfl⟩) (vx_preV (P := PR X G A) hP hK (va_recv hK.1 hP (ci := 0) rfl cw_0)) rfl rfl hl.1 rfl (lv_room (Nat.le_of_ble_eq_true rfl)) d_T_carry_2 ⟨Nat.zero_le _, Nat.zero_le _⟩) (fun r2 e2 => ?_)
  cases q2 : f_T_waferOf A (nI i) with
  | none =>
    have e2 : r2 = none := by rw [e2, q2]; rfl
    subst e2
    exact absurd (waferOf_nI hn hi) (by rw [q2]; exact fun z => by cases z)
  | some i2 =>
    have e2 : r2 = some (gA_ad G (18 + 4 * i2)) := by rw [e2, q2]; rfl
    subst e2
    have hli2 := waferOf_lt hn q2
    have ei : i = i2 := Option.some.inj ((waferOf_nI hn hi).symm.trans q2)
    subst ei
    obtain ⟨w1, w2, w3, w4, -⟩ := hI.2.2.1 i hi
    refine lv_astore_n (lv' := [(3, .ref (gA_ad G (18 + 4 * i))), (0, .ref (gA_ad G 0)), (1, .int (nI i)), (2, .int (nI q))]) hx hb d_T_carry_5 rfl hl (by decide) rfl (fun ls hl => ?_)
    refine lv_aload_n hx hb d_T_carry_6 rfl (lv_at hl 0 rfl) ?_
    refine lv_ifnonnull (tgt := 11) hx hb d_T_carry_7 rfl ?_
    refine lv_aload_n hx hb d_T_carry_11 rfl (lv_at hl 1 rfl) ?_
    refine lv_aload_n hx hb d_T_carry_12 rfl (lv_at hl 0 rfl) ?_
    refine va_getN (D := X.1) (ci := 5) (C := R_Wafer) (T := F_Wafer) (N := 10) hx hb hts hin_Wafer hown hK.1 hP (18 + 4 * i) (cw_w hli2) rfl 4 (by decide) (va_Nw.use rfl (hK.2.1 _ (List.mem_of_getElem? (i := 12) rfl))) (fun _ h9 => h9) rfl d_T_carry_13 ?_
    refine lv_iload_n hx hb d_T_carry_16 rfl (lv_at hl 3 rfl) ?_
    refine va_csq (W.runV (As := [.int (nI (sA_pl A i)), .int (nI q)]) (rest := []) ⟨hx, hb, hml, hown, hts⟩ (c_T_robotFor l X G A (nI (sA_pl A i)) (nI q)) (cwV 2 hts (gV (wd_2 17 rfl rfl) (wd_2 19 rfl rfl) (wd_s 7 rfl) (wd_1 1 rfl rfl) (wd_2 20 rfl rfl)) rfl rfl rfl ⟨rfl, hd_T_robotFor⟩ ⟨Nat.le_of_ble_eq_true rfl, Nat.le_of_ble_eq_true rfl⟩) (vx_preV (P := PR X G A) hP hK (va_recv hK.1 hP (ci := 0) rfl cw_0)) rfl rfl hl.1 rfl (lv_room (Nat.le_of_ble_eq_true rfl)) d_T_carry_17 ⟨Nat.zero_le _, Nat.zero_le _⟩) (fun r17 e17 => ?_)
    rcases robotFor_c (nI (sA_pl A i)) (nI q) with q17 | q17
    ·
      have e17 : r17 = some (gA_ad G 4) := by rw [e17, q17]; rfl
      subst e17
      refine lv_astore (lv' := [(4, .ref (gA_ad G 4)), (3, .ref (gA_ad G (18 + 4 * i))), (0, .ref (gA_ad G 0)), (1, .int (nI i)), (2, .int (nI q))]) hx hb d_T_carry_20 hl (by decide) rfl (fun ls hl => ?_)
      refine lv_aload hx hb d_T_carry_22 (lv_at hl 0 rfl) ?_
      refine lv_iconst (v := 1) hx hb d_T_carry_24 rfl ?_
      refine va_putN (D := X.1) (ci := 3) (v := .int (b2i true)) (ty := .boolean) (C := R_Robot) (T := F_Robot) (N := 2) hx hb hts hin_Robot t_Robot t_Robot_ok n_Robot hown hK.1 hP hD hS 4 cw_4 rfl 0 (by decide) (va_Nw.use rfl (hK.2.1 _ (List.mem_of_getElem? (i := 5) rfl))) (fun _ h9 => h9) rfl (by decide +kernel) (b2i_nar _) (b2i_fit _) (Nat.le_of_ble_eq_true rfl) d_T_carry_25 (fun H locs hP hD hS => ?_)
      replace hP := vx_P (cw_s_bb (X := X) (G := G) (A := A) (v := true)) hP
      replace hD := vx_D (cw_s_bb (X := X) (G := G) (A := A) (v := true)) hD
      refine lv_aload hx hb d_T_carry_28 (lv_at hl 0 rfl) ?_
      refine lv_dup hx hb d_T_carry_30 rfl ?_
      refine va_getN (D := X.1) (ci := 3) (C := R_Robot) (T := F_Robot) (N := 2) hx hb hts hin_Robot hown hK.1 hP 4 cw_4 rfl 1 (by decide) (va_Nw.use rfl (hK.2.1 _ (List.mem_of_getElem? (i := 6) rfl))) (fun _ h9 => h9) rfl d_T_carry_31 ?_
      refine lv_iconst (v := 1) hx hb d_T_carry_34 rfl ?_
      refine lv_iadd hx hb d_T_carry_35 ?_
      refine va_putN (D := X.1) (ci := 3) (v := .int ((sA_bm A) + 1)) (ty := .int) (C := R_Robot) (T := F_Robot) (N := 2) hx hb hts hin_Robot t_Robot t_Robot_ok n_Robot hown hK.1 hP hD hS 4 cw_4 rfl 1 (by decide) (va_Nw.use rfl (hK.2.1 _ (List.mem_of_getElem? (i := 6) rfl))) (fun _ h9 => h9) rfl (by decide +kernel) rfl rfl (Nat.le_of_ble_eq_true rfl) d_T_carry_36 (fun H locs hP hD hS => ?_)
      replace hP := vx_P (cw_s_bm (X := X) (G := G) (A := (sU_bb A true)) (v := ((sA_bm A) + 1))) hP
      replace hD := vx_D (cw_s_bm (X := X) (G := G) (A := (sU_bb A true)) (v := ((sA_bm A) + 1))) hD
      have eB : robB A i q = (sU_bm (sU_bb A true) ((sA_bm A) + 1)) := by unfold robB robA; rw [if_pos (rob_4 (by omega) hq q17)]
      replace hP : va_P X.1 classes (cw X G (robB A i q)) H := by rw [eB]; exact hP
      replace hD : va_D Af (cw X G (robB A i q)) := by rw [eB]; exact hD
      obtain ⟨f1, f2, f3, f4, f5, f6, f7, f8, f9, f10⟩ := robA_f A (backN (sA_pl A i) || backN q)
      clear eB
      generalize hBe : robB A i q = B at hP hD ⊢
      have hBe2 : robA A (backN (sA_pl A i) || backN q) = B := hBe
      rw [hBe2] at f1 f2 f3 f4 f5 f6 f7 f8 f9 f10
      have hRB : rOk B := by unfold rOk; rw [f5, f8, f6, f10, f9]; exact hR
      have g1 : sA_rt B i < 2 := by rw [f4]; exact w1
      have g2 : i < sA_n B := by rw [f1]; exact hi
      have g3 : sA_pl B i ≤ 5 := by rw [f2]; exact w3
      have g4 : q < 4 → sA_sg B i < sA_len B (sA_rt B i) := by rw [f3, f5, f4]; exact h4
      have hl3 := lv_sub hl [1, 4, 3, 2] rfl
      refine sg_T_carry_39 (G := G) (B := B) hx hb hts hown hml hK g2 hq g1 g3 hRB hl3 (fun H locs hP hD hS => ?_) H locs hP hD hS
      refine sg_T_carry_57 (G := gU_ins G (ins1 (gA_ins G) (sA_pl B i))) (B := B) hx hb hts hown hml hK g2 hq g1 g3 hRB hl3 (fun H locs hP hD hS => ?_) H locs hP hD hS
      refine sg_T_carry_69 (G := gU_ins (gU_ins G (ins1 (gA_ins G) (sA_pl B i))) (ins2 (ins1 (gA_ins G) (sA_pl B i)) q i)) (B := B) hx hb hts hown hml hK g2 hq g1 g3 hRB hl3 (fun H locs ls hP hD hS hl => ?_) H locs hP hD hS
      refine sg_T_carry_87 (G := arrG (gU_ins (gU_ins G (ins1 (gA_ins G) (sA_pl B i))) (ins2 (ins1 (gA_ins G) (sA_pl B i)) q i)) i q) (B := plB B i q) hx hb hts hown hml hK g2 hq g1 (by rw [show sA_pl (plB B i q) i = q from va_up_self _ _ _]; omega) hRB (va_up_self _ _ _) g4 hl (fun H locs ls hP hD hS => ?_) H locs hP hD hS
      have hE : (carG G (sA_pl A i) i q, moveA A i q) = (arrG (gU_ins (gU_ins G (ins1 (gA_ins G) (sA_pl B i))) (ins2 (ins1 (gA_ins G) (sA_pl B i)) q i)) i q, if q < 4 then begA (plB B i q) i q else plB B i q) := by unfold carG moveA mvA; rw [hBe, f2]
      exact W.vret hx hb hrt (fun t ht hW => ⟨⟨_, rfl, hE.symm, ⟨by rw [ht]; exact hP, hD⟩⟩, hS.F ht⟩) hS.2.2 d_T_carry_114
    ·
      have e17 : r17 = some (gA_ad G 3) := by rw [e17, q17]; rfl
      subst e17
      refine lv_astore (lv' := [(4, .ref (gA_ad G 3)), (3, .ref (gA_ad G (18 + 4 * i))), (0, .ref (gA_ad G 0)), (1, .int (nI i)), (2, .int (nI q))]) hx hb d_T_carry_20 hl (by decide) rfl (fun ls hl => ?_)
      refine lv_aload hx hb d_T_carry_22 (lv_at hl 0 rfl) ?_
      refine lv_iconst (v := 1) hx hb d_T_carry_24 rfl ?_
      refine va_putN (D := X.1) (ci := 3) (v := .int (b2i true)) (ty := .boolean) (C := R_Robot) (T := F_Robot) (N := 2) hx hb hts hin_Robot t_Robot t_Robot_ok n_Robot hown hK.1 hP hD hS 3 cw_3 rfl 0 (by decide) (va_Nw.use rfl (hK.2.1 _ (List.mem_of_getElem? (i := 5) rfl))) (fun _ h9 => h9) rfl (by decide +kernel) (b2i_nar _) (b2i_fit _) (Nat.le_of_ble_eq_true rfl) d_T_carry_25 (fun H locs hP hD hS => ?_)
      replace hP := vx_P (cw_s_fb (X := X) (G := G) (A := A) (v := true)) hP
      replace hD := vx_D (cw_s_fb (X := X) (G := G) (A := A) (v := true)) hD
      refine lv_aload hx hb d_T_carry_28 (lv_at hl 0 rfl) ?_
      refine lv_dup hx hb d_T_carry_30 rfl ?_
      refine va_getN (D := X.1) (ci := 3) (C := R_Robot) (T := F_Robot) (N := 2) hx hb hts hin_Robot hown hK.1 hP 3 cw_3 rfl 1 (by decide) (va_Nw.use rfl (hK.2.1 _ (List.mem_of_getElem? (i := 6) rfl))) (fun _ h9 => h9) rfl d_T_carry_31 ?_
      refine lv_iconst (v := 1) hx hb d_T_carry_34 rfl ?_
      refine lv_iadd hx hb d_T_carry_35 ?_
      refine va_putN (D := X.1) (ci := 3) (v := .int ((sA_fm A) + 1)) (ty := .int) (C := R_Robot) (T := F_Robot) (N := 2) hx hb hts hin_Robot t_Robot t_Robot_ok n_Robot hown hK.1 hP hD hS 3 cw_3 rfl 1 (by decide) (va_Nw.use rfl (hK.2.1 _ (List.mem_of_getElem? (i := 6) rfl))) (fun _ h9 => h9) rfl (by decide +kernel) rfl rfl (Nat.le_of_ble_eq_true rfl) d_T_carry_36 (fun H locs hP hD hS => ?_)
      replace hP := vx_P (cw_s_fm (X := X) (G := G) (A := (sU_fb A true)) (v := ((sA_fm A) + 1))) hP
      replace hD := vx_D (cw_s_fm (X := X) (G := G) (A := (sU_fb A true)) (v := ((sA_fm A) + 1))) hD
      have eB : robB A i q = (sU_fm (sU_fb A true) ((sA_fm A) + 1)) := by unfold robB robA; rw [if_neg (nt_of (rob_3 (by omega) hq q17))]
      replace hP : va_P X.1 classes (cw X G (robB A i q)) H := by rw [eB]; exact hP
      replace hD : va_D Af (cw X G (robB A i q)) := by rw [eB]; exact hD
      obtain ⟨f1, f2, f3, f4, f5, f6, f7, f8, f9, f10⟩ := robA_f A (backN (sA_pl A i) || backN q)
      clear eB
      generalize hBe : robB A i q = B at hP hD ⊢
      have hBe2 : robA A (backN (sA_pl A i) || backN q) = B := hBe
      rw [hBe2] at f1 f2 f3 f4 f5 f6 f7 f8 f9 f10
      have hRB : rOk B := by unfold rOk; rw [f5, f8, f6, f10, f9]; exact hR
      have g1 : sA_rt B i < 2 := by rw [f4]; exact w1
      have g2 : i < sA_n B := by rw [f1]; exact hi
      have g3 : sA_pl B i ≤ 5 := by rw [f2]; exact w3
      have g4 : q < 4 → sA_sg B i < sA_len B (sA_rt B i) := by rw [f3, f5, f4]; exact h4
      have hl3 := lv_sub hl [1, 4, 3, 2] rfl
      refine sg_T_carry_39 (G := G) (B := B) hx hb hts hown hml hK g2 hq g1 g3 hRB hl3 (fun H locs hP hD hS => ?_) H locs hP hD hS
      refine sg_T_carry_57 (G := gU_ins G (ins1 (gA_ins G) (sA_pl B i))) (B := B) hx hb hts hown hml hK g2 hq g1 g3 hRB hl3 (fun H locs hP hD hS => ?_) H locs hP hD hS
      refine sg_T_carry_69 (G := gU_ins (gU_ins G (ins1 (gA_ins G) (sA_pl B i))) (ins2 (ins1 (gA_ins G) (sA_pl B i)) q i)) (B := B) hx hb hts hown hml hK g2 hq g1 g3 hRB hl3 (fun H locs ls hP hD hS hl => ?_) H locs hP hD hS
      refine sg_T_carry_87 (G := arrG (gU_ins (gU_ins G (ins1 (gA_ins G) (sA_pl B i))) (ins2 (ins1 (gA_ins G) (sA_pl B i)) q i)) i q) (B := plB B i q) hx hb hts hown hml hK g2 hq g1 (by rw [show sA_pl (plB B i q) i = q from va_up_self _ _ _]; omega) hRB (va_up_self _ _ _) g4 hl (fun H locs ls hP hD hS => ?_) H locs hP hD hS
      have hE : (carG G (sA_pl A i) i q, moveA A i q) = (arrG (gU_ins (gU_ins G (ins1 (gA_ins G) (sA_pl B i))) (ins2 (ins1 (gA_ins G) (sA_pl B i)) q i)) i q, if q < 4 then begA (plB B i q) i q else plB B i q) := by unfold carG moveA mvA; rw [hBe, f2]
      exact W.vret hx hb hrt (fun t ht hW => ⟨⟨_, rfl, hE.symm, ⟨by rw [ht]; exact hP, hD⟩⟩, hS.F ht⟩) hS.2.2 d_T_carry_114
end
section
/-! A move keeps the invariant and the relation. Own work. -/
theorem moveA_f {A : St} {i q : Nat} : sA_n (moveA A i q) = sA_n A ∧ sA_len (moveA A i q) = sA_len A ∧ sA_mk (moveA A i q) = sA_mk A ∧ sA_tm (moveA A i q) = sA_tm A ∧ sA_lm (moveA A i q) = sA_lm A ∧ sA_rt (moveA A i q) = sA_rt A ∧ sA_dn (moveA A i q) = sA_dn A ∧ sA_la (moveA A i q) = sA_la A ∧ sA_pl (moveA A i q) = va_up (sA_pl A) i q := by
  unfold moveA mvA plB robB robA begA begA0
  by_cases h : q < 4
  · rw [if_pos h]
    by_cases hb : (backN (sA_pl A i) || backN q) = true
    · rw [if_pos hb]; exact ⟨rfl, rfl, rfl, rfl, rfl, rfl, rfl, rfl, rfl⟩
    · rw [if_neg hb]; exact ⟨rfl, rfl, rfl, rfl, rfl, rfl, rfl, rfl, rfl⟩
  · rw [if_neg h]
    by_cases hb : (backN (sA_pl A i) || backN q) = true
    · rw [if_pos hb]; exact ⟨rfl, rfl, rfl, rfl, rfl, rfl, rfl, rfl, rfl⟩
    · rw [if_neg hb]; exact ⟨rfl, rfl, rfl, rfl, rfl, rfl, rfl, rfl, rfl⟩
theorem moveA_4 {A : St} {i q : Nat} (h : q < 4) : sA_sg (moveA A i q) = va_up (sA_sg A) i (sA_sg A i + 1) ∧ sA_lf (moveA A i q) = va_up (sA_lf A) i (sA_tm A (sA_rt A i) (sA_sg A i)) ∧ sA_sn (moveA A i q) = va_up (sA_sn A) i 0 ∧
    sA_en (moveA A i q) = va_up (sA_en A) i (upd (sA_en A i) (sA_sg A i) (-1)) ∧ sA_ch (moveA A i q) = va_up (sA_ch A) i (upd (sA_ch A i) (sA_sg A i) (nI q)) ∧ sA_be (moveA A i q) = va_up (sA_be A) i (upd (sA_be A i) (sA_sg A i) (sA_ck A)) := by
  unfold moveA mvA plB robB robA begA begA0
  rw [if_pos h]
  by_cases hb : (backN (sA_pl A i) || backN q) = true
  · rw [if_pos hb]; exact ⟨rfl, rfl, rfl, rfl, rfl, rfl⟩
  · rw [if_neg hb]; exact ⟨rfl, rfl, rfl, rfl, rfl, rfl⟩
theorem moveA_5 {A : St} {i q : Nat} (h : ¬ q < 4) : sA_sg (moveA A i q) = sA_sg A ∧ sA_lf (moveA A i q) = sA_lf A ∧ sA_sn (moveA A i q) = sA_sn A ∧ sA_en (moveA A i q) = sA_en A ∧ sA_ch (moveA A i q) = sA_ch A ∧ sA_be (moveA A i q) = sA_be A := by
  unfold moveA mvA plB robB robA begA begA0
  rw [if_neg h]
  by_cases hb : (backN (sA_pl A i) || backN q) = true
  · rw [if_pos hb]; exact ⟨rfl, rfl, rfl, rfl, rfl, rfl⟩
  · rw [if_neg hb]; exact ⟨rfl, rfl, rfl, rfl, rfl, rfl⟩
theorem envA_move {A : St} {i q : Nat} : envA (moveA A i q) = envA A := by
  obtain ⟨-, f1, f2, -, -, -, f3, -⟩ := moveA_f (A := A) (i := i) (q := q)
  unfold envA
  rw [f1, f2, f3]
theorem may_0 {A : St} {i q : Nat} (h : mayN A i q = 0) : sA_lf A i = 0 ∧ fin A i = false ∧ leadN (sA_dn A) (mskN (envA A) (sA_rt A i) (sA_sg A i)) (sA_pl A i) q = true ∧ (q = sA_pl A i ∨ inP A q = -1) := by
  unfold mayN at h
  split at h
  · exact absurd h (by decide)
  · next h1 =>
    split at h
    · exact absurd h (by decide)
    · next h2 =>
      split at h
      · exact absurd h (by decide)
      · next h3 =>
        refine ⟨?_, ?_, ?_, ?_⟩
        · rcases Nat.eq_zero_or_pos (sA_lf A i) with h4 | h4
          · exact h4
          · exact absurd (Or.inl h4) h1
        · cases hf : fin A i with
          | false => rfl
          | true => exact absurd (Or.inr hf) h1
        · simpa using h2
        · by_cases e : q = sA_pl A i
          · exact Or.inl e
          · by_cases e2 : inP A q = -1
            · exact Or.inr e2
            · exact absurd ⟨e, e2⟩ h3
theorem lead_5 {d k p : Nat} (h : leadN d k p 5 = true) : k = 0 := by
  unfold leadN at h
  by_cases hk : k = 0
  · exact hk
  · rw [if_neg hk] at h
    simp at h
theorem lead_sg {A : St} {i q : Nat} (hq : q < 4) (h : leadN (sA_dn A) (mskN (envA A) (sA_rt A i) (sA_sg A i)) (sA_pl A i) q = true) : sA_sg A i < sA_len A (sA_rt A i) := by
  have hk := lead_q4 h hq
  unfold mskN at hk
  split at hk
  · assumption
  · exact absurd rfl hk
theorem lead_fin {A : St} {i : Nat} (hI : Inv A) (hi : i < sA_n A) (h : leadN (sA_dn A) (mskN (envA A) (sA_rt A i) (sA_sg A i)) (sA_pl A i) 5 = true) : sA_sg A i = sA_len A (sA_rt A i) := by
  have hk := lead_5 h
  have h2 := (hI.2.2.1 i hi).2.1
  by_cases h3 : sA_sg A i < sA_len A (sA_rt A i)
  · exfalso
    unfold mskN at hk
    rw [if_pos (show sA_sg A i < e_len (envA A) (sA_rt A i) from h3)] at hk
    have := (hI.2.1.2.1 _ _ h3).1
    have hk : sA_mk A (sA_rt A i) (sA_sg A i) = 0 := hk
    omega
  · omega
theorem inP_m1 {A : St} {q : Nat} (hI : Inv A) (hq : q < 5) (h : inP A q = -1) : ∀ j, j < sA_n A → sA_pl A j ≠ q := by
  rcases inP_cases hI.2.2.2.1 hq with ⟨-, h2⟩ | ⟨j, hj, -, h2⟩
  · exact h2
  · rw [h2] at h
    exfalso
    have : (nI j).toInt = -1 := by rw [h]; rfl
    rw [nI_toInt (by have := hI.1; omega)] at this
    omega
/-- nobody else is where the wafer goes -/
theorem goes_free {A : St} {i q j : Nat} (hI : Inv A) (hi : i < sA_n A) (h : mayN A i q = 0) (hq : q < 5) (hj : j < sA_n A) (hne : j ≠ i) : sA_pl A j ≠ q := by
  obtain ⟨-, -, -, ht⟩ := may_0 h
  rcases ht with e | e
  · intro z
    exact hne (hI.2.2.2.1 j i hj hi (by omega) (by omega))
  · exact inP_m1 hI hq e j hj
theorem uniq_move {A : St} {i q : Nat} (hI : Inv A) (hi : i < sA_n A) (h : mayN A i q = 0) : uniq (moveA A i q) := by
  obtain ⟨f1, -, -, -, -, -, -, -, f9⟩ := moveA_f (A := A) (i := i) (q := q)
  intro a b ha hb he h5
  rw [f1] at ha hb
  rw [f9] at he h5
  by_cases e1 : a = i
  · by_cases e2 : b = i
    · omega
    · subst e1
      rw [va_up_self] at he h5
      rw [va_up_ne _ _ e2] at he
      exact absurd he.symm (goes_free hI hi h h5 hb e2)
  · by_cases e2 : b = i
    · subst e2
      rw [va_up_ne _ _ e1] at he h5
      rw [va_up_self] at he
      exact absurd he (goes_free hI hi h (by omega) ha e1)
    · rw [va_up_ne _ _ e1] at he h5
      rw [va_up_ne _ _ e2] at he
      exact hI.2.2.2.1 a b ha hb he h5
theorem Inv_move {A : St} {i q : Nat} (hI : Inv A) (hi : i < sA_n A) (hq : q < 6) (h : mayN A i q = 0) : Inv (moveA A i q) := by
  obtain ⟨f1, f2, f3, f4, f5, f6, f7, f8, f9⟩ := moveA_f (A := A) (i := i) (q := q)
  obtain ⟨m1, m2, m3, m4⟩ := may_0 h
  obtain ⟨hn, hR, hW, hu, hfr⟩ := hI
  have hR2 : rOk (moveA A i q) := by
    unfold rOk
    rw [f2, f3, f4, f5, f7]
    exact hR
  refine ⟨by rw [f1]; exact hn, hR2, fun j hj => ?_, uniq_move ⟨hn, hR, hW, hu, hfr⟩ hi h, fun j hj => ?_⟩
  · rw [f1] at hj
    obtain ⟨w1, w2, w3, w4, w5, w6, w7⟩ := hW j hj
    unfold wOk
    rw [f2, f5, f6, f8, f9]
    by_cases e : j = i
    · subst e
      rw [va_up_self]
      by_cases h4 : q < 4
      · obtain ⟨g1, g2, g3, g4, -, -⟩ := moveA_4 (A := A) (i := j) h4
        rw [g1, g2, g3, g4, va_up_self, va_up_self, va_up_self, va_up_self]
        have hs := lead_sg h4 m3
        have ht := (hR.2.1 _ _ hs)
        refine ⟨w1, by omega, by omega, by omega, fun _ => by omega, fun _ => ⟨h4, ?_⟩, fun _ _ => Or.inr (by omega)⟩
        rw [Nat.add_sub_cancel]
        exact pk_us
      · obtain ⟨g1, g2, g3, g4, -, -⟩ := moveA_5 (A := A) (i := j) h4
        rw [g1, g2, g3, g4]
        exact ⟨w1, w2, by omega, w4, fun z => absurd z h4, fun z => by omega, fun z => absurd z h4⟩
    · rw [va_up_ne _ _ e]
      by_cases h4 : q < 4
      · obtain ⟨g1, g2, g3, g4, -, -⟩ := moveA_4 (A := A) (i := i) h4
        rw [g1, g2, g3, g4, va_up_ne _ _ e, va_up_ne _ _ e, va_up_ne _ _ e, va_up_ne _ _ e]
        exact ⟨w1, w2, w3, w4, w5, w6, w7⟩
      · obtain ⟨g1, g2, g3, g4, -, -⟩ := moveA_5 (A := A) (i := i) h4
        rw [g1, g2, g3, g4]
        exact ⟨w1, w2, w3, w4, w5, w6, w7⟩
  · rw [f1] at hj
    have e : j ≠ i := by omega
    obtain ⟨r1, r2, r3, r4, r5, r6, r7, r8, r9⟩ := hfr j hj
    unfold fresh
    rw [f6, f8, f9, va_up_ne _ _ e]
    by_cases h4 : q < 4
    · obtain ⟨g1, g2, g3, g4, g5, g6⟩ := moveA_4 (A := A) (i := i) h4
      rw [g1, g2, g3, g4, g5, g6, va_up_ne _ _ e, va_up_ne _ _ e, va_up_ne _ _ e, va_up_ne _ _ e, va_up_ne _ _ e, va_up_ne _ _ e]
      exact ⟨r1, r2, r3, r4, r5, r6, r7, r8, r9⟩
    · obtain ⟨g1, g2, g3, g4, g5, g6⟩ := moveA_5 (A := A) (i := i) h4
      rw [g1, g2, g3, g4, g5, g6]
      exact ⟨r1, r2, r3, r4, r5, r6, r7, r8, r9⟩
theorem occ_congr {A B : St} {x : Nat} : ∀ {k : Nat}, (∀ j, j < k → (sA_pl B j = x ↔ sA_pl A j = x)) → occ B x k = occ A x k
  | 0, _ => rfl
  | k + 1, h => by
    unfold occ
    rw [occ_congr (fun j hj => h j (by omega))]
    by_cases e : sA_pl A k = x
    · rw [if_pos e, if_pos ((h k (by omega)).mpr e)]
    · rw [if_neg e, if_neg (fun z => e ((h k (by omega)).mp z))]
theorem ins_move {G : Gc} {A : St} {i q x : Nat} (hI : Inv A) (hC : RC G A) (hi : i < sA_n A) (hq : q < 6) (h : mayN A i q = 0) (hx : x < 5) : ins2 (ins1 (gA_ins G) (sA_pl A i)) q i x = inP (moveA A i q) x := by
  obtain ⟨f1, -, -, -, -, -, -, -, f9⟩ := moveA_f (A := A) (i := i) (q := q)
  have hold : ins1 (gA_ins G) (sA_pl A i) x = if x = sA_pl A i then -1 else inP A x := by
    unfold ins1
    by_cases e5 : sA_pl A i = 5
    · rw [if_pos e5, if_neg (by omega)]
      exact hC.1 x hx
    · rw [if_neg e5]
      by_cases e : x = sA_pl A i
      · rw [if_pos e, e]
        exact pk_us
      · rw [if_neg e, pk_un e]
        exact hC.1 x hx
  unfold inP
  rw [if_pos hx, f1]
  unfold ins2
  by_cases eq : x = q
  · rw [if_neg (show ¬ q = 5 by omega), eq, pk_us]
    refine (occ_some (i := i) (by rw [f9, va_up_self]) hi (fun j hj hpj => ?_)).symm
    by_cases e : j = i
    · exact e
    · rw [f9, va_up_ne _ _ e] at hpj
      exact absurd hpj (goes_free hI hi h (by omega) hj e)
  · have e1 : (if q = 5 then ins1 (gA_ins G) (sA_pl A i) else upd (ins1 (gA_ins G) (sA_pl A i)) q (nI i)) x = ins1 (gA_ins G) (sA_pl A i) x := by
      by_cases e5 : q = 5
      · rw [if_pos e5]
      · rw [if_neg e5, pk_un eq]
    rw [e1, hold]
    by_cases ek : x = sA_pl A i
    · rw [if_pos ek]
      refine (occ_none (fun j hj hpj => ?_)).symm
      by_cases e : j = i
      · rw [f9, e, va_up_self] at hpj
        omega
      · rw [f9, va_up_ne _ _ e] at hpj
        exact e (hI.2.2.2.1 j i hj hi (by omega) (by omega))
    · rw [if_neg ek]
      unfold inP
      rw [if_pos hx]
      refine (occ_congr (fun j hj => ?_)).symm
      by_cases e : j = i
      · rw [f9, e, va_up_self]
        constructor
        · intro z; omega
        · intro z; omega
      · rw [f9, va_up_ne _ _ e]
theorem RC_move {G : Gc} {A : St} {i q : Nat} (hI : Inv A) (hC : RC G A) (hi : i < sA_n A) (hq : q < 6) (h : mayN A i q = 0) : RC (carG G (sA_pl A i) i q) (moveA A i q) := by
  obtain ⟨f1, f2, f3, f4, f5, f6, f7, f8, f9⟩ := moveA_f (A := A) (i := i) (q := q)
  obtain ⟨m1, m2, m3, m4⟩ := may_0 h
  refine ⟨fun x hx => ins_move hI hC hi hq h hx, fun j hj => ?_, fun j hj h4 => ?_, ?_, fun z => ?_⟩
  · rw [f1] at hj
    show va_up (gA_fi G) i (decide (q = 5)) j = fin (moveA A i q) j
    unfold fin
    rw [f2, f6, f9]
    by_cases e : j = i
    · subst e
      rw [va_up_self, va_up_self]
      by_cases e5 : q = 5
      · subst e5
        rw [(moveA_5 (A := A) (i := j) (q := 5) (by omega)).1, lead_fin hI hj m3]
        simp
      · simp [e5]
    · rw [va_up_ne _ _ e, va_up_ne _ _ e, hC.2.1 j hj]
      unfold fin
      by_cases hq4 : q < 4
      · rw [(moveA_4 (A := A) (i := i) hq4).1, va_up_ne _ _ e]
      · rw [(moveA_5 (A := A) (i := i) hq4).1]
  · rw [f1] at hj
    show va_up (gA_wt G) i 0 j = nI (sA_sn (moveA A i q) j)
    rw [f9] at h4
    by_cases e : j = i
    · subst e
      rw [va_up_self] at h4 ⊢
      rw [(moveA_4 (A := A) (i := j) h4).2.2.1, va_up_self]
      rfl
    · rw [va_up_ne _ _ e] at h4 ⊢
      rw [hC.2.2.1 j hj h4]
      by_cases hq4 : q < 4
      · rw [(moveA_4 (A := A) (i := i) hq4).2.2.1, va_up_ne _ _ e]
      · rw [(moveA_5 (A := A) (i := i) hq4).2.2.1]
  · rw [envA_move]
    exact hC.2.2.2.1
  · rw [f1] at z
    omega
theorem mayF_0 {A : St} {x y : Int32} (hn : sA_n A ≤ 25) (h : mayF A x y = 0) : ∃ i q : Nat, i < sA_n A ∧ q < 6 ∧ x = nI i ∧ y = nI q ∧ mayN A i q = 0 := by
  unfold mayF at h
  cases hw : widx A x with
  | none => rw [oc_none hw] at h; exact absurd h (by decide)
  | some i =>
    rw [oc_some hw] at h
    cases hp : pidx y with
    | none => rw [oc_none hp] at h; exact absurd h (by decide)
    | some q =>
      rw [oc_some hp] at h
      obtain ⟨a1, a2⟩ := widx_some hw hn
      obtain ⟨b1, b2⟩ := pidx_some hp
      exact ⟨i, q, a1, b1, a2, b2, h⟩
def moveF (A : St) (x y : Int32) : St := if mayF A x y = 0 then moveA A x.toNatClampNeg y.toNatClampNeg else A
theorem moveF_at {A : St} {i q : Nat} (hi : i < 100) (hq : q < 6) (h : mayF A (nI i) (nI q) = 0) : moveF A (nI i) (nI q) = moveA A i q := by
  unfold moveF
  rw [if_pos h, nI_clamp (by omega), nI_clamp (by omega)]
/-- what a public writer says at its end -/
def AP (G : Gc) (F : Int32) (A' : St) (ans : Int32) (u : Gc × St) : Prop := ans = F ∧ u.2 = A' ∧ RC u.1 A' ∧ gA_ad u.1 0 = gA_ad G 0
end
section
/-! safe and down. Own work. -/
theorem SA_0 {A : St} (hI : Inv A) (h : sA_n A = 0) : isZ (SA A) = true := by
  rw [isZ_iff]
  intro p hp
  unfold SA toS mkD
  rw [if_pos hp]
  have h9 : sit9 A p = 0 := by unfold sit9; rw [h]; rfl
  rw [h9]
  simp
theorem within_3 {y : Int32} (h : f_T_isWithin y 0 3 = true) : ∃ q : Nat, q < 4 ∧ y = nI q := by
  obtain ⟨h1, h2⟩ := within_iff.mp h
  obtain ⟨j, hj, rfl⟩ := i32_nat h1
  exact ⟨j, by have := (nI_leI (b := 3) hj (by omega)).mp h2; omega, rfl⟩
/-- which chamber a number names -/
def cidx (x : Int32) : Option Nat := if 0 ≤ x ∧ x ≤ 3 then some x.toNatClampNeg else none
def downF (A : St) (x y : Int32) : Bool := oc (cidx x) false (fun q => decide (¬ b2i ((sA_dn A).testBit q) = y))
def downA (A : St) (x y : Int32) : St := if downF A x y = true then sU_dn A (sA_dn A ^^^ 2 ^ x.toNatClampNeg) else A
theorem cidx_nI {q : Nat} (hq : q < 4) : cidx (nI q) = some q := by
  unfold cidx
  rw [if_pos ⟨nI_pos' (by omega), nI_le (a := q) (b := 3) (by omega) (by omega)⟩, nI_clamp (by omega)]
theorem cidx_bad {x : Int32} (h : f_T_isWithin x 0 3 = false) : cidx x = none := by
  unfold cidx
  rw [if_neg]
  intro hc
  rw [within_iff.mpr hc] at h
  cases h
theorem downF_bad {A : St} {x y : Int32} (h : f_T_isWithin x 0 3 = false) : b2i false = b2i (downF A x y) := by
  unfold downF
  rw [oc_none (cidx_bad h)]
theorem downA_bad {A : St} {x y : Int32} (h : f_T_isWithin x 0 3 = false) : downA A x y = A := by
  unfold downA downF
  rw [oc_none (cidx_bad h)]
  rfl
theorem downF_at {A : St} {q : Nat} {y : Int32} (hd : sA_dn A < 16) (hq : q < 4) : downF A (nI q) y = decide (¬ b2i (f_Y_isDown A (nI q)) = y) := by
  unfold downF
  rw [oc_some (cidx_nI hq), down_nI hd (by omega)]
theorem downF_same {A : St} {q : Nat} {y : Int32} (hd : sA_dn A < 16) (hq : q < 4) (h : b2i (f_Y_isDown A (nI q)) = y) : b2i false = b2i (downF A (nI q) y) := by
  rw [downF_at hd hq]
  simp [h]
theorem downA_same {A : St} {q : Nat} {y : Int32} (hd : sA_dn A < 16) (hq : q < 4) (h : b2i (f_Y_isDown A (nI q)) = y) : downA A (nI q) y = A := by
  unfold downA
  rw [downF_at hd hq]
  simp [h]
theorem downF_ok {A : St} {q : Nat} {y : Int32} (hd : sA_dn A < 16) (hq : q < 4) (h : ¬ b2i (f_Y_isDown A (nI q)) = y) : b2i true = b2i (downF A (nI q) y) := by
  rw [downF_at hd hq]
  simp [h]
theorem downA_ok {A : St} {q : Nat} {y : Int32} (hd : sA_dn A < 16) (hq : q < 4) (h : ¬ b2i (f_Y_isDown A (nI q)) = y) : downA A (nI q) y = sU_dn A (sA_dn A ^^^ 2 ^ q) := by
  unfold downA
  rw [downF_at hd hq, if_pos (by simp [h]), nI_clamp (by omega)]
theorem RC_down {G : Gc} {A : St} {d : Nat} {f1 f2 : Nat → Int64} (hC : RC G A) (h1 : ∀ j, j < 1024 → f1 j = 0) (h2 : ∀ j, j < 1024 → f2 j = 0) : RC (gU_ps (gU_kn G f1) f2) (sU_dn A d) := by
  refine ⟨fun q hq => ?_, hC.2.1, hC.2.2.1, MI_zero h1 h2, fun _ k hk => ⟨h1 k hk, h2 k hk⟩⟩
  rw [show gA_ins (gU_ps (gU_kn G f1) f2) q = gA_ins G q from rfl, hC.1 q hq]
  unfold inP
  by_cases h5 : q < 5
  · rw [if_pos h5, if_pos h5]
    exact (occ_congr (A := A) (B := sU_dn A d) (k := sA_n A) (fun j hj => Iff.rfl)).symm
  · rw [if_neg h5, if_neg h5]
end
section
abbrev rm_T_move : Room := { frames := 74, cells := 0, slots := 0, locals := 2248 }
set_option maxRecDepth 20000 in
set_option maxHeartbeats 4000000 in
theorem c_T_move (l : Launch) (X : Xt) (G : Gc) (A : St) (Af : Nat → Prop) (x : Int32) (y : Int32) (hI : Inv A) (hC : RC G A) : Met l y_T_move (Cond.code y_T_move b_T_move 4 (some .int) :: WA) rm_T_move (va_Pc [.ref (gA_ad G 0), .int x, .int y] (fun U => PW X Af G A U.heap ∧ KK X U)) (va_Qi (AP G (mayF A x y) (moveF A x y)) (atC X Af) Af) 0 0 Af := by
  refine vx_met (cc := b_T_move) (maxL := 4) (ret := (some .int)) (by decide) rfl (Nat.le_of_ble_eq_true rfl) ?_
  intro p e s m below meth c ls hx hb hrt hts hown hlocks hname hml hB hl
  obtain ⟨hP, hK⟩ := hB
  have hown : s.vm.findClass R_ClusterTool = some m.cls := hown
  have hl : lv_has ls 4 [(0, .ref (gA_ad G 0)), (1, .int x), (2, .int y)] := hl
  have hD : va_D Af (cw X G A) := hP.2
  have hP : va_P X.1 classes (cw X G A) s.heap := hP.1
  have hS : va_S Af s.heap s.heap [] := va_S.rf
  have hn := hI.1
  have hR := hI.2.1
  refine lv_aload_n hx hb d_T_move_0 rfl (lv_at hl 0 rfl) ?_
  refine lv_iload_n hx hb d_T_move_1 rfl (lv_at hl 1 rfl) ?_
  refine lv_iload_n hx hb d_T_move_2 rfl (lv_at hl 2 rfl) ?_
  refine va_calli (va_runV (As := [.int x, .int y]) (rest := []) ⟨hx, hb, hml, hown, hts⟩ (c_T_may l X G A Af x y hI hC) (cwV 2 hts (gV (wd_2 26 rfl rfl) (wd_1 177 rfl rfl) (wd_1 178 rfl rfl) (wd_1 1 rfl rfl) (wd_1 179 rfl rfl)) rfl rfl rfl ⟨rfl, hd_T_may⟩ ⟨Nat.le_of_ble_eq_true rfl, Nat.le_of_ble_eq_true rfl⟩) (vx_preV (P := PW X Af G A) ⟨hP, hD⟩ hK (va_recv hK.1 hP (ci := 0) rfl cw_0)) rfl rfl hl.1 rfl (lv_room (Nat.le_of_ble_eq_true rfl)) d_T_move_3 ⟨Nat.zero_le _, Nat.zero_le _⟩) hS (fun q _ h => h) (fun q h => h) (fun r3 u3 t3 H locs ht hvm hu3 hB hz hk hS => ?_)
  obtain ⟨hP, hD⟩ := hB
  rw [ht] at hP
  obtain ⟨e3, kn3, ps3, hC3, hu3⟩ := hu3
  subst e3
  subst hu3
  have hP : va_P X.1 classes (cw X (gU_ps (gU_kn G kn3) ps3) A) H := hP
  have hD : va_D Af (cw X (gU_ps (gU_kn G kn3) ps3) A) := hD
  refine lv_istore_n (lv' := [(3, .int (mayF A x y)), (0, .ref (gA_ad G 0)), (1, .int x), (2, .int y)]) hx hb d_T_move_6 rfl hl (by decide) rfl (fun ls hl => ?_)
  refine lv_iload_n hx hb d_T_move_7 rfl (lv_at hl 0 rfl) ?_
  refine lv_if_ne (tgt := 17) hx hb d_T_move_8 rfl (fun h8 => ?_) (fun h8 => ?_)
  ·
    refine lv_iload_n hx hb d_T_move_17 rfl (lv_at hl 0 rfl) ?_
    exact W.iret (v := mayF A x y) hx hb hrt (fun t ht hW => ⟨⟨_, ((gU_ps (gU_kn G kn3) ps3), A), rfl, ⟨rfl, (by rw [moveF, if_neg h8]), (by rw [moveF, if_neg h8]; exact hC3), rfl⟩, ⟨by rw [ht]; exact hP, hD⟩⟩, hS.F ht⟩) hS.2.2 d_T_move_18
  ·
    obtain ⟨i, q, hi, hq, rfl, rfl, hm0⟩ := mayF_0 hn h8
    refine lv_aload_n hx hb d_T_move_11 rfl (lv_at hl 1 rfl) ?_
    refine lv_iload_n hx hb d_T_move_12 rfl (lv_at hl 2 rfl) ?_
    refine lv_iload_n hx hb d_T_move_13 rfl (lv_at hl 3 rfl) ?_
    refine va_callv (va_runV (As := [.int (nI i), .int (nI q)]) (rest := []) ⟨hx, hb, hml, hown, hts⟩ (c_T_carry l X (gU_ps (gU_kn G kn3) ps3) A Af i q hI hi hq (fun h4 => lead_sg h4 (may_0 hm0).2.2.1)) (cwV 2 hts (gV (wd_2 27 rfl rfl) (wd_2 29 rfl rfl) (wd_s 8 rfl) (wd_1 1 rfl rfl) (wd_2 30 rfl rfl)) rfl rfl rfl ⟨rfl, hd_T_carry⟩ ⟨Nat.le_of_ble_eq_true rfl, Nat.le_of_ble_eq_true rfl⟩) (vx_preV (P := PW X Af (gU_ps (gU_kn G kn3) ps3) A) ⟨hP, hD⟩ hK (va_recv hK.1 hP (ci := 0) rfl cw_0)) rfl rfl hl.1 rfl (lv_room (Nat.le_of_ble_eq_true rfl)) d_T_move_14 ⟨Nat.zero_le _, Nat.zero_le _⟩) hS (fun q _ h => h) (fun q h => h) (fun u14 t14 H locs ht hvm hu14 hB hz hk hS => ?_)
    obtain ⟨hP, hD⟩ := hB
    rw [ht] at hP
    subst hu14
    have hP : va_P X.1 classes (cw X (carG (gU_ps (gU_kn G kn3) ps3) (sA_pl A i) i q) (moveA A i q)) H := hP
    have hD : va_D Af (cw X (carG (gU_ps (gU_kn G kn3) ps3) (sA_pl A i) i q) (moveA A i q)) := hD
    refine lv_iload_n hx hb d_T_move_17 rfl (lv_at hl 0 rfl) ?_
    exact W.iret (v := mayF A (nI i) (nI q)) hx hb hrt (fun t ht hW => ⟨⟨_, ((carG (gU_ps (gU_kn G kn3) ps3) (sA_pl A i) i q), (moveA A i q)), rfl, ⟨rfl, (moveF_at (by omega) hq h8).symm, (by rw [moveF_at (by omega) hq h8]; exact RC_move hI hC3 hi hq hm0), rfl⟩, ⟨by rw [ht]; exact hP, hD⟩⟩, hS.F ht⟩) hS.2.2 d_T_move_18
abbrev rm_T_safe : Room := { frames := 73, cells := 0, slots := 0, locals := 2225 }
set_option maxRecDepth 20000 in
set_option maxHeartbeats 4000000 in
theorem c_T_safe (l : Launch) (X : Xt) (G : Gc) (A : St) (Af : Nat → Prop) (hI : Inv A) (hC : RC G A) : Met l y_T_safe (Cond.code y_T_safe b_T_safe 1 (some .boolean) :: WA) rm_T_safe (va_Pc [.ref (gA_ad G 0)] (fun U => PW X Af G A U.heap ∧ KK X U)) (va_Qi (AP G (b2i (safeF A)) (A)) (atC X Af) Af) 0 0 Af := by
  refine vx_met (cc := b_T_safe) (maxL := 1) (ret := (some .boolean)) (by decide) rfl (Nat.le_of_ble_eq_true rfl) ?_
  intro p e s m below meth c ls hx hb hrt hts hown hlocks hname hml hB hl
  obtain ⟨hP, hK⟩ := hB
  have hown : s.vm.findClass R_ClusterTool = some m.cls := hown
  have hl : lv_has ls 1 [(0, .ref (gA_ad G 0))] := hl
  have hD : va_D Af (cw X G A) := hP.2
  have hP : va_P X.1 classes (cw X G A) s.heap := hP.1
  have hS : va_S Af s.heap s.heap [] := va_S.rf
  have hn := hI.1
  have hR := hI.2.1
  refine lv_aload_n hx hb d_T_safe_0 rfl (lv_at hl 0 rfl) ?_
  refine va_get (D := X.1) (ci := 0) (C := R_ClusterTool) (T := F_ClusterTool) (N := 8) hx hb hts hin_ClusterTool hown hK.1 hP 0 cw_0 rfl 1 (by decide) (hts _ (wd_1 86 rfl rfl)) (fun _ h9 => h9) rfl d_T_safe_1 ?_
  refine lv_aload_n hx hb d_T_safe_4 rfl (lv_at hl 0 rfl) ?_
  refine va_get (D := X.1) (ci := 0) (C := R_ClusterTool) (T := F_ClusterTool) (N := 8) hx hb hts hin_ClusterTool hown hK.1 hP 0 cw_0 rfl 0 (by decide) (hts _ (wd_1 85 rfl rfl)) (fun _ h9 => h9) rfl d_T_safe_5 ?_
  refine lv_aload_n hx hb d_T_safe_8 rfl (lv_at hl 0 rfl) ?_
  refine vp_callSi (W.runV (As := []) (rest := [.ref (gA_ad G 1), .ref (gA_ad G 2)]) ⟨hx, hb, hml, hown, hts⟩ (c_T_situation l X G A hI hC) (cwV 0 hts (gV (wd_1 221 rfl rfl) (wd_1 223 rfl rfl) (wd_s 4 rfl) (wd_1 1 rfl rfl) (wd_1 224 rfl rfl)) rfl rfl rfl ⟨rfl, hd_T_situation⟩ ⟨Nat.le_of_ble_eq_true rfl, Nat.le_of_ble_eq_true rfl⟩) (vx_preV (P := PR X G A) hP hK (va_recv hK.1 hP (ci := 0) rfl cw_0)) rfl rfl hl.1 rfl (lv_room (Nat.le_of_ble_eq_true rfl)) d_T_safe_9 ⟨Nat.zero_le _, Nat.zero_le _⟩) (fun r9 e9 => ?_)
  subst e9
  refine lv_iconst (v := 0) hx hb d_T_safe_12 rfl ?_
  have hph := phi_31 (okD_SA hI)
  refine va_calli (va_runVN (As := [.ref (gA_ad G 1), .int (nI (enc (SA A))), .int 0]) (rest := []) ⟨hx, hb, hml, hown, hts⟩ (c_E_all l X 34 G A Af (SA A) 0 hR hC.2.2.2.1 (SA_fit hI) (by omega) (by omega)) ⟨va_cnB 3 hts (gC (wd_1 239 rfl rfl) rfl) rfl rfl rfl (hK.2.1 _ (List.mem_of_getElem? (i := 18) rfl)) (hts _ (wd_1 4 rfl rfl)) hd_E_search ⟨Nat.le_of_ble_eq_true rfl, Nat.le_of_ble_eq_true rfl⟩, hts _ (wd_1 238 rfl rfl), hts _ (wd_s 5 rfl)⟩ (vx_preV (P := PW X Af G A) ⟨hP, hD⟩ hK (va_recv hK.1 hP (ci := 2) rfl cw_2)) rfl rfl hl.1 rfl (lv_room (Nat.le_of_ble_eq_true rfl)) d_T_safe_13 ⟨Nat.zero_le _, Nat.zero_le _⟩) hS (fun q _ h => h) (fun q h => h) (fun r13 u13 t13 H locs ht hvm hu13 hB hz hk hS => ?_)
  obtain ⟨hP, hD⟩ := hB
  rw [ht] at hP
  obtain ⟨e13, kn13, ps13, hm13, hz13, hu13⟩ := hu13
  subst e13
  subst hu13
  have hP : va_P X.1 classes (cw X (gU_ps (gU_kn G kn13) ps13) A) H := hP
  have hD : va_D Af (cw X (gU_ps (gU_kn G kn13) ps13) A) := hD
  have hC2 : RC (gU_ps (gU_kn G kn13) ps13) A := by
    rcases Nat.eq_zero_or_pos (sA_n A) with h0 | h0
    · obtain ⟨z1, z2⟩ := hz13 (SA_0 hI h0)
      rw [z1, z2]
      exact hC
    · exact RC_memo hC hm13 h0
  exact W.zret (v := b2i (canE (envA A) (SA A))) hx hb hrt (b2i_nar _) (fun t ht hW => ⟨⟨_, ((gU_ps (gU_kn G kn13) ps13), A), rfl, ⟨rfl, rfl, hC2, rfl⟩, ⟨by rw [ht]; exact hP, hD⟩⟩, hS.F ht⟩) hS.2.2 d_T_safe_16
abbrev rm_T_down : Room := { frames := 2, cells := 0, slots := 0, locals := 44 }
set_option maxRecDepth 20000 in
set_option maxHeartbeats 4000000 in
theorem c_T_down (l : Launch) (X : Xt) (G : Gc) (A : St) (Af : Nat → Prop) (x : Int32) (y : Int32) (hI : Inv A) (hC : RC G A) : Met l y_T_down (Cond.code y_T_down b_T_down 3 (some .boolean) :: WA) rm_T_down (va_Pc [.ref (gA_ad G 0), .int x, .int y] (fun U => PW X Af G A U.heap ∧ KK X U)) (va_Qi (AP G (b2i (downF A x y)) (downA A x y)) (atC X Af) Af) 0 0 Af := by
  refine vx_met (cc := b_T_down) (maxL := 3) (ret := (some .boolean)) (by decide) rfl (Nat.le_of_ble_eq_true rfl) ?_
  intro p e s m below meth c ls hx hb hrt hts hown hlocks hname hml hB hl
  obtain ⟨hP, hK⟩ := hB
  have hown : s.vm.findClass R_ClusterTool = some m.cls := hown
  have hl : lv_has ls 3 [(0, .ref (gA_ad G 0)), (1, .int x), (2, .int y)] := hl
  have hD : va_D Af (cw X G A) := hP.2
  have hP : va_P X.1 classes (cw X G A) s.heap := hP.1
  have hS : va_S Af s.heap s.heap [] := va_S.rf
  have hn := hI.1
  have hR := hI.2.1
  refine lv_iload_n hx hb d_T_down_0 rfl (lv_at hl 1 rfl) ?_
  refine lv_iconst (v := 0) hx hb d_T_down_1 rfl ?_
  refine lv_iconst (v := 3) hx hb d_T_down_2 rfl ?_
  refine vp_callSi (W.runS (As := [.int x, .int 0, .int 3]) (rest := []) ⟨hx, hb, hml, hown, hts⟩ (c_T_isWithin l X x 0 3) (va_cwS 3 hts (gT (wd_1 121 rfl rfl) (wd_1 119 rfl rfl) (wd_1 1 rfl rfl) (wd_1 120 rfl rfl)) rfl rfl rfl hd_T_isWithin ⟨Nat.le_of_ble_eq_true rfl, Nat.le_of_ble_eq_true rfl⟩) (vx_preS (P := fun _ => True) trivial hK) rfl rfl hl.1 rfl (lv_room (Nat.le_of_ble_eq_true rfl)) d_T_down_3 ⟨Nat.zero_le _, Nat.zero_le _⟩) (fun r3 e3 => ?_)
  subst e3
  refine lv_if_eq (tgt := 21) hx hb d_T_down_6 rfl (fun h6 => ?_) (fun h6 => ?_)
  ·
    have h6 := b2i_f h6
    refine lv_iconst (v := 0) hx hb d_T_down_21 rfl ?_
    exact W.zret (v := b2i false) hx hb hrt (b2i_nar _) (fun t ht hW => ⟨⟨_, (G, A), rfl, ⟨(downF_bad h6), (downA_bad h6).symm, (by rw [downA_bad h6]; exact hC), rfl⟩, ⟨by rw [ht]; exact hP, hD⟩⟩, hS.F ht⟩) hS.2.2 d_T_down_22
  ·
    have h6 := b2i_t h6
    obtain ⟨q, hq, rfl⟩ := within_3 h6
    refine lv_aload_n hx hb d_T_down_9 rfl (lv_at hl 0 rfl) ?_
    refine va_get (D := X.1) (ci := 0) (C := R_ClusterTool) (T := F_ClusterTool) (N := 8) hx hb hts hin_ClusterTool hown hK.1 hP 0 cw_0 rfl 0 (by decide) (hts _ (wd_1 85 rfl rfl)) (fun _ h9 => h9) rfl d_T_down_10 ?_
    refine lv_iload_n hx hb d_T_down_13 rfl (lv_at hl 1 rfl) ?_
    refine vp_callSi (W.runV (As := [.int (nI q)]) (rest := []) ⟨hx, hb, hml, hown, hts⟩ (c_Y_isDown l X G A (nI q)) (cwV 1 hts (gV (wd_1 225 rfl rfl) (wd_1 190 rfl rfl) (wd_1 191 rfl rfl) (wd_1 2 rfl rfl) (wd_1 192 rfl rfl)) rfl rfl rfl ⟨rfl, hd_Y_isDown⟩ ⟨Nat.le_of_ble_eq_true rfl, Nat.le_of_ble_eq_true rfl⟩) (vx_preV (P := PR X G A) hP hK (va_recv hK.1 hP (ci := 1) rfl cw_1)) rfl rfl hl.1 rfl (lv_room (Nat.le_of_ble_eq_true rfl)) d_T_down_14 ⟨Nat.zero_le _, Nat.zero_le _⟩) (fun r14 e14 => ?_)
    subst e14
    refine lv_iload_n hx hb d_T_down_17 rfl (lv_at hl 2 rfl) ?_
    refine lv_icmp_ne (tgt := 23) hx hb d_T_down_18 rfl (fun h18 => ?_) (fun h18 => ?_)
    ·
      refine lv_aload_n hx hb d_T_down_23 rfl (lv_at hl 0 rfl) ?_
      refine va_get (D := X.1) (ci := 0) (C := R_ClusterTool) (T := F_ClusterTool) (N := 8) hx hb hts hin_ClusterTool hown hK.1 hP 0 cw_0 rfl 0 (by decide) (hts _ (wd_1 85 rfl rfl)) (fun _ h9 => h9) rfl d_T_down_24 ?_
      refine lv_iload_n hx hb d_T_down_27 rfl (lv_at hl 1 rfl) ?_
      refine va_callv (va_runV (As := [.int (nI q)]) (rest := []) ⟨hx, hb, hml, hown, hts⟩ (c_Y_turn l X G A Af q hR.2.2 hq) (cwV 1 hts (gV (wd_2 94 rfl rfl) (wd_2 95 rfl rfl) (wd_2 96 rfl rfl) (wd_1 2 rfl rfl) (wd_2 97 rfl rfl)) rfl rfl rfl ⟨rfl, hd_Y_turn⟩ ⟨Nat.le_of_ble_eq_true rfl, Nat.le_of_ble_eq_true rfl⟩) (vx_preV (P := PW X Af G A) ⟨hP, hD⟩ hK (va_recv hK.1 hP (ci := 1) rfl cw_1)) rfl rfl hl.1 rfl (lv_room (Nat.le_of_ble_eq_true rfl)) d_T_down_28 ⟨Nat.zero_le _, Nat.zero_le _⟩) hS (fun q _ h => h) (fun q h => h) (fun u28 t28 H locs ht hvm hu28 hB hz hk hS => ?_)
      obtain ⟨hP, hD⟩ := hB
      rw [ht] at hP
      unfold g_Y_turn at hu28
      subst hu28
      have hP : va_P X.1 classes (cw X G (sU_dn A (sA_dn A ^^^ 2 ^ q))) H := hP
      have hD : va_D Af (cw X G (sU_dn A (sA_dn A ^^^ 2 ^ q))) := hD
      refine lv_aload_n hx hb d_T_down_31 rfl (lv_at hl 0 rfl) ?_
      refine va_get (D := X.1) (ci := 0) (C := R_ClusterTool) (T := F_ClusterTool) (N := 8) hx hb hts hin_ClusterTool hown hK.1 hP 0 cw_0 rfl 1 (by decide) (hts _ (wd_1 86 rfl rfl)) (fun _ h9 => h9) rfl d_T_down_32 ?_
      refine va_callv (va_runV (As := []) (rest := []) ⟨hx, hb, hml, hown, hts⟩ (c_E_forget l X G (sU_dn A (sA_dn A ^^^ 2 ^ q)) Af) (cwV 0 hts (gV (wd_2 98 rfl rfl) (wd_2 99 rfl rfl) (wd_2 100 rfl rfl) (wd_1 4 rfl rfl) (wd_2 101 rfl rfl)) rfl rfl rfl ⟨rfl, hd_E_forget⟩ ⟨Nat.le_of_ble_eq_true rfl, Nat.le_of_ble_eq_true rfl⟩) (vx_preV (P := PW X Af G (sU_dn A (sA_dn A ^^^ 2 ^ q))) ⟨hP, hD⟩ hK (va_recv hK.1 hP (ci := 2) rfl cw_2)) rfl rfl hl.1 rfl (lv_room (Nat.le_of_ble_eq_true rfl)) d_T_down_35 ⟨Nat.zero_le _, Nat.zero_le _⟩) hS (fun q _ h => h) (fun q h => h) (fun u35 t35 H locs ht hvm hu35 hB hz hk hS => ?_)
      obtain ⟨hP, hD⟩ := hB
      rw [ht] at hP
      obtain ⟨fk35, fp35, hk35, hp35, hu35⟩ := hu35
      subst hu35
      have hP : va_P X.1 classes (cw X (gU_ps (gU_kn G fk35) fp35) (sU_dn A (sA_dn A ^^^ 2 ^ q))) H := hP
      have hD : va_D Af (cw X (gU_ps (gU_kn G fk35) fp35) (sU_dn A (sA_dn A ^^^ 2 ^ q))) := hD
      refine lv_iconst (v := 1) hx hb d_T_down_38 rfl ?_
      exact W.zret (v := b2i true) hx hb hrt (b2i_nar _) (fun t ht hW => ⟨⟨_, ((gU_ps (gU_kn G fk35) fp35), (sU_dn A (sA_dn A ^^^ 2 ^ q))), rfl, ⟨(downF_ok hR.2.2 hq h18), (downA_ok hR.2.2 hq h18).symm, (by rw [downA_ok hR.2.2 hq h18]; exact RC_down hC hk35 hp35), rfl⟩, ⟨by rw [ht]; exact hP, hD⟩⟩, hS.F ht⟩) hS.2.2 d_T_down_39
    ·
      refine lv_iconst (v := 0) hx hb d_T_down_21 rfl ?_
      exact W.zret (v := b2i false) hx hb hrt (b2i_nar _) (fun t ht hW => ⟨⟨_, (G, A), rfl, ⟨(downF_same hR.2.2 hq h18), (downA_same hR.2.2 hq h18).symm, (by rw [downA_same hR.2.2 hq h18]; exact hC), rfl⟩, ⟨by rw [ht]; exact hP, hD⟩⟩, hS.F ht⟩) hS.2.2 d_T_down_22
end
section
/-! Which wafer goes next. Own work. -/
def rkA (A : St) (i : Nat) : Nat := if sA_pl A i = 5 then 2000 else if sA_pl A i < 4 ∧ lmt A i ≠ 0 then sA_lf A i + lmt A i - sA_sn A i else 1000
def gR (r : Nat) : Nat := if r = 2000 then 1001 else if r = 3000 then 1002 else r
def firstQ (A : St) (i : Nat) : Option Nat := (List.range 6).find? (fun q => decide (mayN A i q = 0))
def stepN (A : St) (i : Nat) (b : Int32 × Nat) : Int32 × Nat := if rkA A i < b.2 then oc (firstQ A i) b (fun q => (nI (8 * i + q), rkA A i)) else b
def nextK (A : St) : Nat → Int32 × Nat
  | 0 => (-1, 3000)
  | k + 1 => stepN A k (nextK A k)
def nextF (A : St) : Int32 := (nextK A (sA_n A)).1
def rnk (r : Nat) : Prop := r ≤ 1000 ∨ r = 2000 ∨ r = 3000
def snB (A : St) : Prop := ∀ i, i < sA_n A → sA_sn A i < 2 ^ 20
theorem lmt_le {A : St} {i : Nat} (hI : Inv A) (hi : i < sA_n A) (h4 : sA_pl A i < 4) : lmt A i ≤ 100 := by
  obtain ⟨w1, w2, w3, w4, w5, -⟩ := hI.2.2.1 i hi
  have := w5 h4
  exact (hI.2.1.2.1 _ _ (show sA_sg A i - 1 < sA_len A (sA_rt A i) by omega)).2.2.2.2
theorem rk_rnk {A : St} {i : Nat} (hI : Inv A) (hi : i < sA_n A) : rkA A i ≤ 1000 ∨ rkA A i = 2000 := by
  unfold rkA
  split
  · exact Or.inr rfl
  · split
    · next h =>
      have := lmt_le hI hi h.1
      have := (hI.2.2.1 i hi).2.2.2.1
      exact Or.inl (by omega)
    · exact Or.inl (by omega)
theorem gR_lt {a b : Nat} (ha : a ≤ 1000 ∨ a = 2000) (hb : rnk b) : gR a < gR b ↔ a < b := by
  unfold rnk at hb
  unfold gR
  split <;> split <;> (try split) <;> (try split) <;> omega
theorem gR_le (r : Nat) (hr : rnk r) : gR r ≤ 1002 := by
  unfold rnk at hr
  unfold gR
  split
  · omega
  · split <;> omega
theorem limitAt_nI {A : St} {r g : Nat} (hR : rOk A) (hg : g < sA_len A r) : f_U_limitAt A r (nI g) = nI (sA_lm A r g) := by
  have := hR.1 r
  unfold f_U_limitAt
  rw [has_nI hR (by omega), nI_clamp (by omega), if_pos (by simp [hg])]
theorem limitOf_nI {A : St} {i : Nat} (hI : Inv A) (hi : i < sA_n A) (h4 : sA_pl A i < 4) : f_T_limitOf A i = nI (lmt A i) := by
  obtain ⟨w1, w2, w3, w4, w5, -⟩ := hI.2.2.1 i hi
  have hg := w5 h4
  unfold f_T_limitOf
  rw [oc_some (routeOf_nI _ w1), nI_s1 hg, limitAt_nI hI.2.1 (by omega)]
  rfl
/-- the time to the limit, as the calls tell it -/
def stayN (A : St) (i : Nat) : Int32 := if sA_pl A i < 4 ∧ lmt A i ≠ 0 then nI (sA_lf A i + lmt A i - sA_sn A i) else -1
theorem mx_nI {a b : Nat} (ha : a < 2 ^ 30) (hb : b < 2 ^ 30) : (if 0 < nI a - nI b then nI a - nI b else 0) = nI (a - b) := by
  by_cases h : b ≤ a
  · rw [pk_sub h]
    by_cases h0 : a - b = 0
    · rw [h0, if_neg (by decide)]
      rfl
    · rw [if_pos (show (0 : Int32) < nI (a - b) from nI_lt (a := 0) (by omega) (by omega))]
  · have h1 := pk_sneg (a := a) (b := b) hb (by omega)
    rw [show a - b = 0 by omega, if_neg]
    · rfl
    · intro h2
      rw [Int32.lt_iff_toInt_lt] at h1 h2
      omega
theorem stay_nI {G : Gc} {A : St} {x : Int32} (hI : Inv A) (hC : RC G A) (hB : snB A) : f_T_stay G A x = oc (widx A x) (-1) (fun i => stayN A i) := by
  unfold f_T_stay
  rw [waferOf_eq hI.1]
  cases hw : widx A x with
  | none => rw [oc_none rfl, oc_none rfl]
  | some i =>
    rw [oc_some rfl, oc_some rfl]
    obtain ⟨hi, -⟩ := widx_some hw hI.1
    obtain ⟨w1, w2, w3, w4, w5, -⟩ := hI.2.2.1 i hi
    unfold stayN
    by_cases h4 : sA_pl A i < 4
    · have hl := lmt_le hI hi h4
      have hb := hB i hi
      rw [if_pos (show nI (sA_pl A i) < (4 : Int32) from nI_lt (b := 4) h4 (by omega)), limitOf_nI hI hi h4]
      by_cases h0 : lmt A i = 0
      · rw [if_pos (show nI (lmt A i) = (0 : Int32) by rw [h0]; rfl), if_neg (by omega)]
      · rw [if_neg (show ¬ nI (lmt A i) = (0 : Int32) from nI_ne (b := 0) h0 (by omega) (by omega)), hC.2.2.1 i hi h4, nI_add, mx_nI (a := sA_lf A i + lmt A i) (b := sA_sn A i) (by omega) (by omega), if_pos (show sA_pl A i < 4 ∧ lmt A i ≠ 0 from ⟨h4, h0⟩)]
    · rw [if_neg (show ¬ nI (sA_pl A i) < (4 : Int32) from nI_nlt (b := 4) (by omega) (by omega)), if_neg (by omega)]
theorem place_nI {A : St} {i : Nat} (hI : Inv A) (hi : i < sA_n A) : f_T_place A (nI i) = nI (sA_pl A i) := by
  unfold f_T_place
  rw [oc_some (waferOf_nI hI.1 hi)]
theorem rank_nI {G : Gc} {A : St} {i : Nat} (hI : Inv A) (hC : RC G A) (hB : snB A) (hi : i < sA_n A) : f_T_rankOf G A (nI i) = nI (gR (rkA A i)) := by
  have hp := (hI.2.2.1 i hi).2.2.1
  have hf := (hI.2.2.1 i hi).2.2.2.1
  unfold f_T_rankOf
  rw [place_nI hI hi, stay_nI hI hC hB, oc_some (widx_nI hi hI.1)]
  unfold rkA stayN
  by_cases h5 : sA_pl A i = 5
  · rw [if_pos (show nI (sA_pl A i) = (5 : Int32) by rw [h5]; rfl), if_pos h5]
    rfl
  · rw [if_neg (show ¬ nI (sA_pl A i) = (5 : Int32) from nI_ne (b := 5) h5 (by omega) (by omega)), if_neg h5]
    by_cases hc : sA_pl A i < 4 ∧ lmt A i ≠ 0
    · have := lmt_le hI hi hc.1
      rw [if_pos hc, if_pos hc, if_neg]
      · unfold gR
        rw [if_neg (by omega), if_neg (by omega)]
      · intro z
        have h2 : (nI (sA_lf A i + lmt A i - sA_sn A i)).toInt = -1 := by rw [z]; rfl
        rw [nI_toInt (by omega)] at h2
        omega
    · rw [if_neg hc, if_neg hc, if_pos rfl]
      rfl
theorem first_none {A : St} {i : Nat} (h : ∀ q, q < 6 → mayN A i q ≠ 0) : firstQ A i = none := by
  unfold firstQ
  rw [List.find?_eq_none]
  intro q hq
  simpa using h q (List.mem_range.mp hq)
theorem first_some {A : St} {i q : Nat} (hq : q < 6) (h : ∀ p, p < q → mayN A i p ≠ 0) (h0 : mayN A i q = 0) : firstQ A i = some q := by
  unfold firstQ
  rcases (show q = 0 ∨ q = 1 ∨ q = 2 ∨ q = 3 ∨ q = 4 ∨ q = 5 by omega) with rfl | rfl | rfl | rfl | rfl | rfl
  · simp [List.range, List.range.loop, List.find?, h0]
  · have a0 := h 0 (by omega)
    simp [List.range, List.range.loop, List.find?, h0, a0]
  · have a0 := h 0 (by omega)
    have a1 := h 1 (by omega)
    simp [List.range, List.range.loop, List.find?, h0, a0, a1]
  · have a0 := h 0 (by omega)
    have a1 := h 1 (by omega)
    have a2 := h 2 (by omega)
    simp [List.range, List.range.loop, List.find?, h0, a0, a1, a2]
  · have a0 := h 0 (by omega)
    have a1 := h 1 (by omega)
    have a2 := h 2 (by omega)
    have a3 := h 3 (by omega)
    simp [List.range, List.range.loop, List.find?, h0, a0, a1, a2, a3]
  · have a0 := h 0 (by omega)
    have a1 := h 1 (by omega)
    have a2 := h 2 (by omega)
    have a3 := h 3 (by omega)
    have a4 := h 4 (by omega)
    simp [List.range, List.range.loop, List.find?, h0, a0, a1, a2, a3, a4]
theorem step_none {A : St} {i : Nat} {b : Int32 × Nat} (h : ∀ q, q < 6 → mayN A i q ≠ 0) : stepN A i b = b := by
  unfold stepN
  rw [oc_none (first_none h)]
  split <;> rfl
theorem step_ge {A : St} {i : Nat} {b : Int32 × Nat} (h : ¬ rkA A i < b.2) : stepN A i b = b := by
  unfold stepN
  rw [if_neg h]
theorem step_some {A : St} {i q : Nat} {b : Int32 × Nat} (hr : rkA A i < b.2) (hq : q < 6) (h : ∀ p, p < q → mayN A i p ≠ 0) (h0 : mayN A i q = 0) : stepN A i b = (nI (8 * i + q), rkA A i) := by
  unfold stepN
  rw [if_pos hr, oc_some (first_some hq h h0)]
theorem first_may {A : St} {i q : Nat} (h : firstQ A i = some q) : q < 6 ∧ mayN A i q = 0 := by
  unfold firstQ at h
  have h1 := List.find?_some h
  have h2 := List.mem_of_find?_eq_some h
  exact ⟨List.mem_range.mp h2, by simpa using h1⟩
theorem next_rnk {A : St} (hI : Inv A) : ∀ k, k ≤ sA_n A → rnk (nextK A k).2 ∧ ((nextK A k).1 = -1 ∨ ∃ i q, i < sA_n A ∧ q < 6 ∧ (nextK A k).1 = nI (8 * i + q) ∧ mayN A i q = 0)
  | 0, _ => ⟨Or.inr (Or.inr rfl), Or.inl rfl⟩
  | k + 1, hk => by
    obtain ⟨h1, h2⟩ := next_rnk hI k (by omega)
    unfold nextK stepN
    split
    · cases hf : firstQ A k with
      | none => rw [oc_none rfl]; exact ⟨h1, h2⟩
      | some q =>
        rw [oc_some rfl]
        obtain ⟨a1, a2⟩ := first_may hf
        refine ⟨?_, Or.inr ⟨k, q, by omega, a1, rfl, a2⟩⟩
        have := rk_rnk hI (show k < sA_n A by omega)
        unfold rnk
        show rkA A k ≤ 1000 ∨ rkA A k = 2000 ∨ rkA A k = 3000
        omega
    · exact ⟨h1, h2⟩
theorem next_spec {A : St} (hI : Inv A) : nextF A = -1 ∨ ∃ i q, i < sA_n A ∧ q < 6 ∧ nextF A = nI (8 * i + q) ∧ mayN A i q = 0 := (next_rnk hI _ (Nat.le_refl _)).2
theorem mayF_nI {A : St} {i q : Nat} (hI : Inv A) (hi : i < sA_n A) (hq : q < 6) : mayF A (nI i) (nI q) = mayN A i q := by
  unfold mayF
  rw [oc_some (widx_nI hi hI.1), oc_some (pidx_nI hq)]
def goA (A : St) : St := if nextF A = -1 then A else moveA A ((nextF A).toNatClampNeg / 8) ((nextF A).toNatClampNeg % 8)
theorem goA_at {A : St} {i q : Nat} (hi : i < 100) (hq : q < 6) (h : nextF A = nI (8 * i + q)) : goA A = moveA A i q := by
  have hne : ¬ nextF A = -1 := by
    rw [h]
    intro z
    have h2 : (nI (8 * i + q)).toInt = -1 := by rw [z]; rfl
    rw [nI_toInt (by omega)] at h2
    omega
  unfold goA
  rw [if_neg hne, h, nI_clamp (by omega), show (8 * i + q) / 8 = i by omega, show (8 * i + q) % 8 = q by omega]
end
section
abbrev rm_T_next : Room := { frames := 74, cells := 0, slots := 0, locals := 2248 }
set_option maxRecDepth 20000 in
set_option maxHeartbeats 4000000 in
theorem lp_T_next_in {p : Program} {l : Launch} {e : Env} {s : State} {m : MethodId} {args : Array Value} {below : List Frame} {meth : Method} {c : Code} {Q : State → Prop} {X : Xt} {G : Gc} {A : St} {Af : Nat → Prop} (hx : p.tables.exec = Jvm.exec) (hb : c.code = b_T_next) (hts : ∀ w ∈ Cond.code y_T_next b_T_next 6 (some .int) :: WA, w.before args s = true) (hown : s.vm.findClass R_ClusterTool = some m.cls) (hml : c.maxLocals = 6) (hK : KK X s) (hI : Inv A) (hBd : snB A) {i : Nat} {b : Int32 × Nat} (hi : i < sA_n A) (hb2 : rnk b.2)
    (kont : ∀ (kn ps : Nat → Int64) (H : Heap) (locs : List Loc) (ls : Array Slot), RC (gU_ps (gU_kn G kn) ps) A → va_P X.1 classes (cw X (gU_ps (gU_kn G kn) ps) A) H → va_D Af (cw X (gU_ps (gU_kn G kn) ps) A) → va_S Af s.heap H locs → lv_has ls 6 [(1, .int ((stepN A i b).1)), (2, .int (nI (gR (stepN A i b).2))), (3, .int (nI i)), (0, .ref (gA_ad G 0))] → W p l e rm_T_next s m args below meth c H locs 0 0 Q (F0 m 66 ls [])) :
    ∀ (r q : Nat) (kn ps : Nat → Int64) (H : Heap) (locs : List Loc) (ls : Array Slot), q + r = 6 → (∀ p, p < q → mayN A i p ≠ 0) → RC (gU_ps (gU_kn G kn) ps) A → va_P X.1 classes (cw X (gU_ps (gU_kn G kn) ps) A) H → va_D Af (cw X (gU_ps (gU_kn G kn) ps) A) → va_S Af s.heap H locs → lv_has ls 6 [(5, .int (nI q)), (4, .int (nI (gR (rkA A i)))), (1, .int b.1), (2, .int (nI (gR b.2))), (3, .int (nI i)), (0, .ref (gA_ad G 0))] → W p l e rm_T_next s m args below meth c H locs 0 0 Q (F0 m 26 ls []) := by
  have hn := hI.1
  have hrk := rk_rnk hI hi
  have hgl := gR_lt hrk hb2
  have hgb := gR_le _ hb2
  have hga := gR_le (rkA A i) (by unfold rnk; omega)
  intro r
  induction r with
  | zero =>
    intro q kn ps H locs ls hq hno hC hP hD hS hl
    have hq : q = 6 := by omega
    subst hq
    refine lv_iload hx hb d_T_next_26 (lv_at hl 0 rfl) ?_
    refine lv_bipush (v := 6) hx hb d_T_next_28 rfl ?_
    refine lv_icmp_ge (tgt := 66) hx hb d_T_next_30 rfl (fun h30 => ?_) (fun h30 => ?_)
    ·
      exact kont kn ps H locs ls hC hP hD hS (by rw [step_none hno]; exact lv_sub hl [2, 3, 4, 5] rfl)
    ·
      exact absurd (by decide) h30
  | succ r ih =>
    intro q kn ps H locs ls hq hno hC hP hD hS hl
    have hq6 : q < 6 := by omega
    refine lv_iload hx hb d_T_next_26 (lv_at hl 0 rfl) ?_
    refine lv_bipush (v := 6) hx hb d_T_next_28 rfl ?_
    refine lv_icmp_ge (tgt := 66) hx hb d_T_next_30 rfl (fun h30 => ?_) (fun h30 => ?_)
    ·
      exact absurd h30 (nI_ge (a := q) (b := 6) hq6 (by omega))
    ·
      refine lv_iload hx hb d_T_next_33 (lv_at hl 1 rfl) ?_
      refine lv_iload_n hx hb d_T_next_35 rfl (lv_at hl 3 rfl) ?_
      refine lv_icmp_ge (tgt := 66) hx hb d_T_next_36 rfl (fun h36 => ?_) (fun h36 => ?_)
      ·
        exact kont kn ps H locs ls hC hP hD hS (by rw [step_ge (fun z => (fun y => nI_ge y (by omega) h36) (hgl.mpr z))]; exact lv_sub hl [2, 3, 4, 5] rfl)
      ·
        have hlt : rkA A i < b.2 := hgl.mp (Nat.lt_of_not_le fun z => h36 (nI_le z (by omega)))
        refine lv_aload_n hx hb d_T_next_39 rfl (lv_at hl 5 rfl) ?_
        refine lv_iload_n hx hb d_T_next_40 rfl (lv_at hl 4 rfl) ?_
        refine lv_iload hx hb d_T_next_41 (lv_at hl 0 rfl) ?_
        refine va_calli (va_runV (As := [.int (nI i), .int (nI q)]) (rest := []) ⟨hx, hb, hml, hown, hts⟩ (c_T_may l X (gU_ps (gU_kn G kn) ps) A Af (nI i) (nI q) hI hC) (cwV 2 hts (gV (wd_2 26 rfl rfl) (wd_1 177 rfl rfl) (wd_1 178 rfl rfl) (wd_1 1 rfl rfl) (wd_1 179 rfl rfl)) rfl rfl rfl ⟨rfl, hd_T_may⟩ ⟨Nat.le_of_ble_eq_true rfl, Nat.le_of_ble_eq_true rfl⟩) (vx_preV (P := PW X Af (gU_ps (gU_kn G kn) ps) A) ⟨hP, hD⟩ hK (va_recv hK.1 hP (ci := 0) rfl cw_0)) rfl rfl hl.1 rfl (lv_room (Nat.le_of_ble_eq_true rfl)) d_T_next_43 ⟨Nat.zero_le _, Nat.zero_le _⟩) hS (fun q _ h => h) (fun q h => h) (fun r43 u43 t43 H locs ht hvm hu43 hB hz hk hS => ?_)
        obtain ⟨hP, hD⟩ := hB
        rw [ht] at hP
        obtain ⟨e43, kn43, ps43, hC43, hu43⟩ := hu43
        subst e43
        subst hu43
        have hP : va_P X.1 classes (cw X (gU_ps (gU_kn (gU_ps (gU_kn G kn) ps) kn43) ps43) A) H := hP
        have hD : va_D Af (cw X (gU_ps (gU_kn (gU_ps (gU_kn G kn) ps) kn43) ps43) A) := hD
        refine lv_if_ne (tgt := 60) hx hb d_T_next_46 rfl (fun h46 => ?_) (fun h46 => ?_)
        ·
          refine lv_iinc (k := 0) (v := (nI q + 1)) (lv' := [(5, .int (nI q + 1)), (4, .int (nI (gR (rkA A i)))), (1, .int b.1), (2, .int (nI (gR b.2))), (3, .int (nI i)), (0, .ref (gA_ad G 0))]) hx hb d_T_next_60 hl rfl rfl (by decide) rfl (fun ls hl => ?_)
          refine lv_goto (tgt := 26) hx hb d_T_next_63 rfl ?_
          exact ih (q + 1) kn43 ps43 H locs ls (by omega) (lt_s hno (by rw [← mayF_nI hI hi hq6]; exact h46)) hC43 hP hD hS (by rw [← nI_1]; exact lv_sub hl [0, 1, 2, 3, 4, 5] rfl)
        ·
          refine lv_bipush (v := 8) hx hb d_T_next_49 rfl ?_
          refine lv_iload_n hx hb d_T_next_51 rfl (lv_at hl 4 rfl) ?_
          refine lv_imul hx hb d_T_next_52 ?_
          refine lv_iload hx hb d_T_next_53 (lv_at hl 0 rfl) ?_
          refine lv_iadd hx hb d_T_next_55 ?_
          rw [show (8 : Int32) * nI i = nI (8 * i) from pk_mul 8 i, nI_add]
          refine lv_istore_n (lv' := [(1, .int (nI (8 * i + q))), (5, .int (nI q)), (4, .int (nI (gR (rkA A i)))), (2, .int (nI (gR b.2))), (3, .int (nI i)), (0, .ref (gA_ad G 0))]) hx hb d_T_next_56 rfl hl (by decide) rfl (fun ls hl => ?_)
          refine lv_iload hx hb d_T_next_57 (lv_at hl 2 rfl) ?_
          refine lv_istore_n (lv' := [(2, .int (nI (gR (rkA A i)))), (1, .int (nI (8 * i + q))), (5, .int (nI q)), (4, .int (nI (gR (rkA A i)))), (3, .int (nI i)), (0, .ref (gA_ad G 0))]) hx hb d_T_next_59 rfl hl (by decide) rfl (fun ls hl => ?_)
          refine lv_iinc (k := 2) (v := (nI q + 1)) (lv' := [(5, .int (nI q + 1)), (2, .int (nI (gR (rkA A i)))), (1, .int (nI (8 * i + q))), (4, .int (nI (gR (rkA A i)))), (3, .int (nI i)), (0, .ref (gA_ad G 0))]) hx hb d_T_next_60 hl rfl rfl (by decide) rfl (fun ls hl => ?_)
          refine lv_goto (tgt := 26) hx hb d_T_next_63 rfl ?_
          refine lv_iload hx hb d_T_next_26 (lv_at hl 0 rfl) ?_
          refine lv_bipush (v := 6) hx hb d_T_next_28 rfl ?_
          refine lv_icmp_ge (tgt := 66) hx hb d_T_next_30 rfl (fun h30_2 => ?_) (fun h30_2 => ?_)
          ·
            have hst := step_some (b := b) hlt hq6 hno (by rw [← mayF_nI hI hi hq6]; exact h46)
            exact kont kn43 ps43 H locs ls hC43 hP hD hS (by rw [hst]; exact lv_sub hl [2, 1, 4, 5] rfl)
          ·
            refine lv_iload hx hb d_T_next_33 (lv_at hl 3 rfl) ?_
            refine lv_iload_n hx hb d_T_next_35 rfl (lv_at hl 1 rfl) ?_
            refine lv_icmp_ge (tgt := 66) hx hb d_T_next_36 rfl (fun h36_2 => ?_) (fun h36_2 => ?_)
            ·
              have hst := step_some (b := b) hlt hq6 hno (by rw [← mayF_nI hI hi hq6]; exact h46)
              exact kont kn43 ps43 H locs ls hC43 hP hD hS (by rw [hst]; exact lv_sub hl [2, 1, 4, 5] rfl)
            ·
              exact absurd (Int32.le_refl _) h36_2
set_option maxRecDepth 20000 in
set_option maxHeartbeats 4000000 in
theorem lp_T_next {p : Program} {l : Launch} {e : Env} {s : State} {m : MethodId} {args : Array Value} {below : List Frame} {meth : Method} {c : Code} {Q : State → Prop} {X : Xt} {G : Gc} {A : St} {Af : Nat → Prop} (hx : p.tables.exec = Jvm.exec) (hb : c.code = b_T_next) (hts : ∀ w ∈ Cond.code y_T_next b_T_next 6 (some .int) :: WA, w.before args s = true) (hown : s.vm.findClass R_ClusterTool = some m.cls) (hml : c.maxLocals = 6) (hK : KK X s) (hI : Inv A) (hBd : snB A)
    (kont : ∀ (kn ps : Nat → Int64) (H : Heap) (locs : List Loc) (ls : Array Slot), RC (gU_ps (gU_kn G kn) ps) A → va_P X.1 classes (cw X (gU_ps (gU_kn G kn) ps) A) H → va_D Af (cw X (gU_ps (gU_kn G kn) ps) A) → va_S Af s.heap H locs → lv_has ls 6 [(1, .int (nextF A))] → W p l e rm_T_next s m args below meth c H locs 0 0 Q (F0 m 72 ls [])) :
    ∀ (r i : Nat) (kn ps : Nat → Int64) (H : Heap) (locs : List Loc) (ls : Array Slot), i + r = sA_n A → RC (gU_ps (gU_kn G kn) ps) A → va_P X.1 classes (cw X (gU_ps (gU_kn G kn) ps) A) H → va_D Af (cw X (gU_ps (gU_kn G kn) ps) A) → va_S Af s.heap H locs → lv_has ls 6 [(1, .int ((nextK A i).1)), (2, .int (nI (gR (nextK A i).2))), (3, .int (nI i)), (0, .ref (gA_ad G 0))] → W p l e rm_T_next s m args below meth c H locs 0 0 Q (F0 m 8 ls []) := by
  have hn := hI.1
  intro r
  induction r with
  | zero =>
    intro i kn ps H locs ls hi hC hP hD hS hl
    have hi : i = sA_n A := by omega
    subst hi
    refine lv_iload_n hx hb d_T_next_8 rfl (lv_at hl 2 rfl) ?_
    refine lv_aload_n hx hb d_T_next_9 rfl (lv_at hl 3 rfl) ?_
    refine va_get (D := X.1) (ci := 0) (C := R_ClusterTool) (T := F_ClusterTool) (N := 8) hx hb hts hin_ClusterTool hown hK.1 hP 0 cw_0 rfl 6 (by decide) (hts _ (wd_1 91 rfl rfl)) (fun _ h9 => h9) rfl d_T_next_10 ?_
    refine lv_icmp_ge (tgt := 72) hx hb d_T_next_13 rfl (fun h13 => ?_) (fun h13 => ?_)
    ·
      exact kont kn ps H locs ls hC hP hD hS (lv_sub hl [0] rfl)
    ·
      exact absurd (nI_le (Nat.le_refl _) (by omega)) h13
  | succ r ih =>
    intro i kn ps H locs ls hi hC hP hD hS hl
    have hin : i < sA_n A := by omega
    have hrn := (next_rnk hI i (by omega)).1
    refine lv_iload_n hx hb d_T_next_8 rfl (lv_at hl 2 rfl) ?_
    refine lv_aload_n hx hb d_T_next_9 rfl (lv_at hl 3 rfl) ?_
    refine va_get (D := X.1) (ci := 0) (C := R_ClusterTool) (T := F_ClusterTool) (N := 8) hx hb hts hin_ClusterTool hown hK.1 hP 0 cw_0 rfl 6 (by decide) (hts _ (wd_1 91 rfl rfl)) (fun _ h9 => h9) rfl d_T_next_10 ?_
    refine lv_icmp_ge (tgt := 72) hx hb d_T_next_13 rfl (fun h13 => ?_) (fun h13 => ?_)
    ·
      exact absurd h13 (nI_ge hin (by omega))
    ·
      refine lv_aload_n hx hb d_T_next_16 rfl (lv_at hl 3 rfl) ?_
      refine lv_iload_n hx hb d_T_next_17 rfl (lv_at hl 2 rfl) ?_
      refine vp_callSi (W.runV (As := [.int (nI i)]) (rest := []) ⟨hx, hb, hml, hown, hts⟩ (c_T_rankOf l X (gU_ps (gU_kn G kn) ps) A (nI i) hI) (cwV 1 hts (gV (wd_2 47 rfl rfl) (wd_2 49 rfl rfl) (wd_s 9 rfl) (wd_1 1 rfl rfl) (wd_2 50 rfl rfl)) rfl rfl rfl ⟨rfl, hd_T_rankOf⟩ ⟨Nat.le_of_ble_eq_true rfl, Nat.le_of_ble_eq_true rfl⟩) (vx_preV (P := PR X (gU_ps (gU_kn G kn) ps) A) hP hK (va_recv hK.1 hP (ci := 0) rfl cw_0)) rfl rfl hl.1 rfl (lv_room (Nat.le_of_ble_eq_true rfl)) d_T_next_18 ⟨Nat.zero_le _, Nat.zero_le _⟩) (fun r18 e18 => ?_)
      subst e18
      rw [rank_nI hI hC hBd hin]
      refine lv_istore (lv' := [(4, .int (nI (gR (rkA A i)))), (1, .int ((nextK A i).1)), (2, .int (nI (gR (nextK A i).2))), (3, .int (nI i)), (0, .ref (gA_ad G 0))]) hx hb d_T_next_21 hl (by decide) rfl (fun ls hl => ?_)
      refine lv_iconst (v := 0) hx hb d_T_next_23 rfl ?_
      refine lv_istore (lv' := [(5, .int 0), (4, .int (nI (gR (rkA A i)))), (1, .int ((nextK A i).1)), (2, .int (nI (gR (nextK A i).2))), (3, .int (nI i)), (0, .ref (gA_ad G 0))]) hx hb d_T_next_24 hl (by decide) rfl (fun ls hl => ?_)
      refine lp_T_next_in (G := G) (b := nextK A i) hx hb hts hown hml hK hI hBd hin hrn (fun kn ps H locs ls hC hP hD hS hl => ?_) 6 0 kn ps H locs ls (by omega) (fun z hz => by omega) hC hP hD hS (lv_sub hl [0, 1, 2, 3, 4, 5] rfl)
      refine lv_iinc (k := 2) (v := (nI i + 1)) (lv' := [(3, .int (nI i + 1)), (1, .int ((nextK A (i + 1)).1)), (2, .int (nI (gR (nextK A (i + 1)).2))), (0, .ref (gA_ad G 0))]) hx hb d_T_next_66 hl rfl rfl (by decide) rfl (fun ls hl => ?_)
      refine lv_goto (tgt := 8) hx hb d_T_next_69 rfl ?_
      exact ih (i + 1) kn ps H locs ls (by omega) hC hP hD hS (by rw [← nI_1]; exact lv_sub hl [1, 2, 0, 3] rfl)
set_option maxRecDepth 20000 in
set_option maxHeartbeats 4000000 in
theorem c_T_next (l : Launch) (X : Xt) (G : Gc) (A : St) (Af : Nat → Prop) (hI : Inv A) (hC : RC G A) (hBd : snB A) : Met l y_T_next (Cond.code y_T_next b_T_next 6 (some .int) :: WA) rm_T_next (va_Pc [.ref (gA_ad G 0)] (fun U => PW X Af G A U.heap ∧ KK X U)) (va_Qi (fun ans u => ans = nextF A ∧ ∃ kn ps, RC (gU_ps (gU_kn G kn) ps) A ∧ u = (gU_ps (gU_kn G kn) ps, A)) (atC X Af) Af) 0 0 Af := by
  refine vx_met (cc := b_T_next) (maxL := 6) (ret := (some .int)) (by decide) rfl (Nat.le_of_ble_eq_true rfl) ?_
  intro p e s m below meth c ls hx hb hrt hts hown hlocks hname hml hB hl
  obtain ⟨hP, hK⟩ := hB
  have hown : s.vm.findClass R_ClusterTool = some m.cls := hown
  have hl : lv_has ls 6 [(0, .ref (gA_ad G 0))] := hl
  have hD : va_D Af (cw X G A) := hP.2
  have hP : va_P X.1 classes (cw X G A) s.heap := hP.1
  have hS : va_S Af s.heap s.heap [] := va_S.rf
  have hn := hI.1
  have hR := hI.2.1
  refine lv_iconst (v := (-1)) hx hb d_T_next_0 rfl ?_
  refine lv_istore_n (lv' := [(1, .int (-1)), (0, .ref (gA_ad G 0))]) hx hb d_T_next_1 rfl hl (by decide) rfl (fun ls hl => ?_)
  refine lv_sipush (v := 1002) hx hb d_T_next_2 rfl ?_
  refine lv_istore_n (lv' := [(2, .int 1002), (1, .int (-1)), (0, .ref (gA_ad G 0))]) hx hb d_T_next_5 rfl hl (by decide) rfl (fun ls hl => ?_)
  refine lv_iconst (v := 0) hx hb d_T_next_6 rfl ?_
  refine lv_istore_n (lv' := [(3, .int 0), (2, .int 1002), (1, .int (-1)), (0, .ref (gA_ad G 0))]) hx hb d_T_next_7 rfl hl (by decide) rfl (fun ls hl => ?_)
  refine lp_T_next (G := G) hx hb hts hown hml hK hI hBd (fun kn ps H locs ls hC hP hD hS hl => ?_) (sA_n A) 0 (gA_kn G) (gA_ps G) _ _ ls (by omega) hC hP hD hS (lv_sub hl [2, 1, 0, 3] rfl)
  refine lv_iload_n hx hb d_T_next_72 rfl (lv_at hl 0 rfl) ?_
  exact W.iret (v := nextF A) hx hb hrt (fun t ht hW => ⟨⟨_, ((gU_ps (gU_kn G kn) ps), A), rfl, ⟨rfl, kn, ps, hC, rfl⟩, ⟨by rw [ht]; exact hP, hD⟩⟩, hS.F ht⟩) hS.2.2 d_T_next_73
abbrev rm_T_go : Room := { frames := 75, cells := 0, slots := 0, locals := 2273 }
set_option maxRecDepth 20000 in
set_option maxHeartbeats 4000000 in
theorem c_T_go (l : Launch) (X : Xt) (G : Gc) (A : St) (Af : Nat → Prop) (hI : Inv A) (hC : RC G A) (hBd : snB A) : Met l y_T_go (Cond.code y_T_go b_T_go 2 (some .int) :: WA) rm_T_go (va_Pc [.ref (gA_ad G 0)] (fun U => PW X Af G A U.heap ∧ KK X U)) (va_Qi (AP G (nextF A) (goA A)) (atC X Af) Af) 0 0 Af := by
  refine vx_met (cc := b_T_go) (maxL := 2) (ret := (some .int)) (by decide) rfl (Nat.le_of_ble_eq_true rfl) ?_
  intro p e s m below meth c ls hx hb hrt hts hown hlocks hname hml hB hl
  obtain ⟨hP, hK⟩ := hB
  have hown : s.vm.findClass R_ClusterTool = some m.cls := hown
  have hl : lv_has ls 2 [(0, .ref (gA_ad G 0))] := hl
  have hD : va_D Af (cw X G A) := hP.2
  have hP : va_P X.1 classes (cw X G A) s.heap := hP.1
  have hS : va_S Af s.heap s.heap [] := va_S.rf
  have hn := hI.1
  have hR := hI.2.1
  refine lv_aload_n hx hb d_T_go_0 rfl (lv_at hl 0 rfl) ?_
  refine va_calli (va_runV (As := []) (rest := []) ⟨hx, hb, hml, hown, hts⟩ (c_T_next l X G A Af hI hC hBd) (cwV 0 hts (gV (wd_2 74 rfl rfl) (wd_2 44 rfl rfl) (wd_2 45 rfl rfl) (wd_1 1 rfl rfl) (wd_2 46 rfl rfl)) rfl rfl rfl ⟨rfl, hd_T_next⟩ ⟨Nat.le_of_ble_eq_true rfl, Nat.le_of_ble_eq_true rfl⟩) (vx_preV (P := PW X Af G A) ⟨hP, hD⟩ hK (va_recv hK.1 hP (ci := 0) rfl cw_0)) rfl rfl hl.1 rfl (lv_room (Nat.le_of_ble_eq_true rfl)) d_T_go_1 ⟨Nat.zero_le _, Nat.zero_le _⟩) hS (fun q _ h => h) (fun q h => h) (fun r1 u1 t1 H locs ht hvm hu1 hB hz hk hS => ?_)
  obtain ⟨hP, hD⟩ := hB
  rw [ht] at hP
  obtain ⟨e1, kn1, ps1, hC1, hu1⟩ := hu1
  subst e1
  subst hu1
  have hP : va_P X.1 classes (cw X (gU_ps (gU_kn G kn1) ps1) A) H := hP
  have hD : va_D Af (cw X (gU_ps (gU_kn G kn1) ps1) A) := hD
  refine lv_istore_n (lv' := [(1, .int (nextF A)), (0, .ref (gA_ad G 0))]) hx hb d_T_go_4 rfl hl (by decide) rfl (fun ls hl => ?_)
  refine lv_iload_n hx hb d_T_go_5 rfl (lv_at hl 0 rfl) ?_
  refine lv_iconst (v := (-1)) hx hb d_T_go_6 rfl ?_
  refine lv_icmp_eq (tgt := 22) hx hb d_T_go_7 rfl (fun h7 => ?_) (fun h7 => ?_)
  ·
    refine lv_iload_n hx hb d_T_go_22 rfl (lv_at hl 0 rfl) ?_
    exact W.iret (v := nextF A) hx hb hrt (fun t ht hW => ⟨⟨_, ((gU_ps (gU_kn G kn1) ps1), A), rfl, ⟨rfl, (by rw [goA, if_pos h7]), (by rw [goA, if_pos h7]; exact hC1), rfl⟩, ⟨by rw [ht]; exact hP, hD⟩⟩, hS.F ht⟩) hS.2.2 d_T_go_23
  ·
    obtain ⟨i, q, hi, hq, hnx, hm0⟩ := (next_spec hI).resolve_left h7
    rw [hnx] at hl
    refine lv_aload_n hx hb d_T_go_10 rfl (lv_at hl 1 rfl) ?_
    refine lv_iload_n hx hb d_T_go_11 rfl (lv_at hl 0 rfl) ?_
    refine lv_bipush (v := 8) hx hb d_T_go_12 rfl ?_
    refine lv_idiv hx hb d_T_go_14 (by decide) ?_
    rw [show (nI (8 * i + q)) / (8 : Int32) = nI i by rw [show (8 : Int32) = nI 8 from rfl, pk_div (by omega) (by omega) (by omega)]; congr 1; omega]
    refine lv_iload_n hx hb d_T_go_15 rfl (lv_at hl 0 rfl) ?_
    refine lv_bipush (v := 8) hx hb d_T_go_16 rfl ?_
    refine lv_irem hx hb d_T_go_18 (by decide) ?_
    rw [show nI (8 * i + q) - nI (8 * i + q) / (8 : Int32) * (8 : Int32) = nI q by rw [show (8 : Int32) = nI 8 from rfl, pk_rem (by omega) (by omega) (by omega)]; congr 1; omega]
    refine va_callv (va_runV (As := [.int (nI i), .int (nI q)]) (rest := []) ⟨hx, hb, hml, hown, hts⟩ (c_T_carry l X (gU_ps (gU_kn G kn1) ps1) A Af i q hI hi hq (fun h4 => lead_sg h4 (may_0 hm0).2.2.1)) (cwV 2 hts (gV (wd_2 27 rfl rfl) (wd_2 29 rfl rfl) (wd_s 8 rfl) (wd_1 1 rfl rfl) (wd_2 30 rfl rfl)) rfl rfl rfl ⟨rfl, hd_T_carry⟩ ⟨Nat.le_of_ble_eq_true rfl, Nat.le_of_ble_eq_true rfl⟩) (vx_preV (P := PW X Af (gU_ps (gU_kn G kn1) ps1) A) ⟨hP, hD⟩ hK (va_recv hK.1 hP (ci := 0) rfl cw_0)) rfl rfl hl.1 rfl (lv_room (Nat.le_of_ble_eq_true rfl)) d_T_go_19 ⟨Nat.zero_le _, Nat.zero_le _⟩) hS (fun q _ h => h) (fun q h => h) (fun u19 t19 H locs ht hvm hu19 hB hz hk hS => ?_)
    obtain ⟨hP, hD⟩ := hB
    rw [ht] at hP
    subst hu19
    have hP : va_P X.1 classes (cw X (carG (gU_ps (gU_kn G kn1) ps1) (sA_pl A i) i q) (moveA A i q)) H := hP
    have hD : va_D Af (cw X (carG (gU_ps (gU_kn G kn1) ps1) (sA_pl A i) i q) (moveA A i q)) := hD
    refine lv_iload_n hx hb d_T_go_22 rfl (lv_at hl 0 rfl) ?_
    exact W.iret (v := nI (8 * i + q)) hx hb hrt (fun t ht hW => ⟨⟨_, ((carG (gU_ps (gU_kn G kn1) ps1) (sA_pl A i) i q), (moveA A i q)), rfl, ⟨hnx.symm, (goA_at (by omega) hq hnx).symm, (by rw [goA_at (by omega) hq hnx]; exact RC_move hI hC1 hi hq hm0), rfl⟩, ⟨by rw [ht]; exact hP, hD⟩⟩, hS.F ht⟩) hS.2.2 d_T_go_23
end
section
/-! visit, count and tick of the class. Own work. -/
def ridx (x : Int32) : Option Nat := if x = 0 then some 0 else if x = 1 then some 1 else none
theorem routeOf_eq (x : Int32) : f_Y_routeOf x = ridx x := by
  unfold ridx
  by_cases h0 : x = 0
  · subst h0; rfl
  · by_cases h1 : x = 1
    · subst h1; rfl
    · rw [if_neg h0, if_neg h1]
      unfold f_Y_routeOf
      rw [if_neg]
      intro h
      obtain ⟨a, b⟩ := within_iff.mp h
      obtain ⟨j, hj, rfl⟩ := i32_nat a
      have hj1 := (nI_leI (b := 1) hj (by omega)).mp b
      rcases (show j = 0 ∨ j = 1 by omega) with rfl | rfl
      · exact h0 rfl
      · exact h1 rfl
def appA (A : St) (r a b d : Nat) : St := sU_len (sU_lm (sU_tm (sU_mk A (va_up (sA_mk A) r (va_up (sA_mk A r) (sA_len A r) a))) (va_up (sA_tm A) r (va_up (sA_tm A r) (sA_len A r) b))) (va_up (sA_lm A) r (va_up (sA_lm A r) (sA_len A r) d))) (va_up (sA_len A) r (sA_len A r + 1))
theorem append_eq {G : Gc} {A : St} {r a b d : Nat} (h : sA_len A r < 3) : g_U_append G A r a b d = (G, appA A r a b d) := by
  unfold g_U_append appA
  rw [if_neg (show ¬ (3 : Int32) ≤ nI (sA_len A r) from nI_ge (b := 3) h (by omega))]
def visitOk (A : St) (r : Nat) (y z k : Int32) : Prop := sA_n A = 0 ∧ sA_len A r ≠ 3 ∧ (1 ≤ y ∧ y ≤ 15) ∧ (1 ≤ z ∧ z ≤ 100) ∧ (0 ≤ k ∧ k ≤ 100)
theorem within_n {y lo : Int32} {hi : Int32} {n m : Nat} (h : f_T_isWithin y lo hi = true) (hm : lo.toInt = m) (hn : hi.toInt = n) : ∃ q : Nat, m ≤ q ∧ q ≤ n ∧ y = nI q := by
  obtain ⟨h1, h2⟩ := within_iff.mp h
  rw [Int32.le_iff_toInt_le] at h1 h2
  have h0 : (0 : Int32) ≤ y := by
    rw [Int32.le_iff_toInt_le]
    have : (0 : Int32).toInt = 0 := rfl
    omega
  obtain ⟨j, hj, rfl⟩ := i32_nat h0
  rw [nI_toInt hj] at h1 h2
  exact ⟨j, by omega, by omega, rfl⟩
theorem not_within {y lo hi : Int32} (h : f_T_isWithin y lo hi = false) : ¬ (lo ≤ y ∧ y ≤ hi) := by
  intro hc
  rw [within_iff.mpr hc] at h
  cases h
theorem n_pos {n : Nat} (h : (0 : Int32) < nI n) : ¬ n = 0 := by
  rintro rfl
  exact absurd h (by decide)
theorem n_zero {n : Nat} (h : ¬ (0 : Int32) < nI n) (hn : n < 2 ^ 31) : n = 0 := by
  rcases Nat.eq_zero_or_pos n with h1 | h1
  · exact h1
  · exact absurd (nI_lt (a := 0) h1 hn) h
theorem RC_app {G : Gc} {A : St} {r a b d : Nat} (hC : RC G A) (h0 : sA_n A = 0) : RC G (appA A r a b d) := by
  have hz := hC.2.2.2.2 h0
  refine ⟨fun q hq => ?_, fun i hi => ?_, fun i hi => ?_, MI_zero (fun k hk => (hz k hk).1) (fun k hk => (hz k hk).2), fun _ => hz⟩
  · rw [hC.1 q hq]
    unfold inP
    rw [if_pos hq, if_pos hq]
    exact (occ_congr (A := A) (B := appA A r a b d) (k := sA_n A) (fun j hj => Iff.rfl)).symm
  · have hi : i < sA_n A := hi
    omega
  · have hi : i < sA_n A := hi
    omega
theorem sw6 (x : Int32) : x = 0 ∨ x = 1 ∨ x = 2 ∨ x = 3 ∨ x = 4 ∨ x = 5 ∨ (x.toInt < 0 ∨ 5 < x.toInt) := by
  by_cases h : 0 ≤ x.toInt ∧ x.toInt ≤ 5
  · have h0 : (0 : Int32) ≤ x := by
      rw [Int32.le_iff_toInt_le]
      exact h.1
    obtain ⟨j, hj, rfl⟩ := i32_nat h0
    rw [nI_toInt hj] at h
    rcases (show j = 0 ∨ j = 1 ∨ j = 2 ∨ j = 3 ∨ j = 4 ∨ j = 5 by omega) with rfl | rfl | rfl | rfl | rfl | rfl
    · exact Or.inl rfl
    · exact Or.inr (Or.inl rfl)
    · exact Or.inr (Or.inr (Or.inl rfl))
    · exact Or.inr (Or.inr (Or.inr (Or.inl rfl)))
    · exact Or.inr (Or.inr (Or.inr (Or.inr (Or.inl rfl))))
    · exact Or.inr (Or.inr (Or.inr (Or.inr (Or.inr (Or.inl rfl)))))
  · exact Or.inr (Or.inr (Or.inr (Or.inr (Or.inr (Or.inr (by omega))))))
def countF (A : St) (x : Int32) : Int32 := if x = 0 then nI (sA_n A) else if x = 1 then nI (cnt (fin A) (sA_n A)) else if x = 2 then nI (cnt (sA_la A) (sA_n A)) else if x = 3 then sA_fm A else if x = 4 then sA_bm A else if x = 5 then sA_ck A else -1
theorem countF_out {A : St} {x : Int32} (h : x.toInt < 0 ∨ 5 < x.toInt) : -1 = countF A x := by
  have key : ∀ k : Int32, 0 ≤ k.toInt ∧ k.toInt ≤ 5 → ¬ x = k := by
    rintro k hk rfl
    omega
  unfold countF
  rw [if_neg (key 0 (by decide)), if_neg (key 1 (by decide)), if_neg (key 2 (by decide)), if_neg (key 3 (by decide)), if_neg (key 4 (by decide)), if_neg (key 5 (by decide))]
/-- the state with other times -/
def mk4 (A : St) (f1 : Nat → Nat) (f2 : Nat → Nat) (f3 : Nat → Nat → Int32) (f4 : Nat → Bool) (k : Int32) : St := (A.1, A.2.1, A.2.2.1, A.2.2.2.1, A.2.2.2.2.1, A.2.2.2.2.2.1, A.2.2.2.2.2.2.1, A.2.2.2.2.2.2.2.1, f1, f2, f4, A.2.2.2.2.2.2.2.2.2.2.2.1, A.2.2.2.2.2.2.2.2.2.2.2.2.1, f3, A.2.2.2.2.2.2.2.2.2.2.2.2.2.2.1, k, A.2.2.2.2.2.2.2.2.2.2.2.2.2.2.2.2.1, A.2.2.2.2.2.2.2.2.2.2.2.2.2.2.2.2.2.1, A.2.2.2.2.2.2.2.2.2.2.2.2.2.2.2.2.2.2.1, A.2.2.2.2.2.2.2.2.2.2.2.2.2.2.2.2.2.2.2)
theorem mk4_lf {A : St} {f1 f2 g : Nat → Nat} {f3 : Nat → Nat → Int32} {f4 : Nat → Bool} {k : Int32} : sU_lf (mk4 A f1 f2 f3 f4 k) g = mk4 A g f2 f3 f4 k := rfl
theorem mk4_en {A : St} {f1 f2 : Nat → Nat} {f3 g : Nat → Nat → Int32} {f4 : Nat → Bool} {k : Int32} : sU_en (mk4 A f1 f2 f3 f4 k) g = mk4 A f1 f2 g f4 k := rfl
theorem mk4_la {A : St} {f1 f2 : Nat → Nat} {f3 : Nat → Nat → Int32} {f4 g : Nat → Bool} {k : Int32} : sU_la (mk4 A f1 f2 f3 f4 k) g = mk4 A f1 f2 f3 g k := rfl
theorem mk4_ck {A : St} {f1 f2 : Nat → Nat} {f3 : Nat → Nat → Int32} {f4 : Nat → Bool} {k j : Int32} : sU_ck (mk4 A f1 f2 f3 f4 k) j = mk4 A f1 f2 f3 f4 j := rfl
theorem mk4_sn {A : St} {f1 f2 g : Nat → Nat} {f3 : Nat → Nat → Int32} {f4 : Nat → Bool} {k : Int32} : sU_sn (mk4 A f1 f2 f3 f4 k) g = mk4 A f1 g f3 f4 k := rfl
theorem mk4_id {A : St} : mk4 A (sA_lf A) (sA_sn A) (sA_en A) (sA_la A) (sA_ck A) = A := rfl
theorem cw_mk4 {X : Xt} {G : Gc} {A : St} {f1 f2 g2 : Nat → Nat} {f3 : Nat → Nat → Int32} {f4 : Nat → Bool} {k : Int32} : cw X G (mk4 A f1 f2 f3 f4 k) = cw X G (mk4 A f1 g2 f3 f4 k) := (cw_sn (A := mk4 A f1 f2 f3 f4 k) (f := g2)).symm
def F1 (A : St) (a h i : Nat) : Nat := if sA_pl A i < h then tkLf A a i else sA_lf A i
def F3 (A : St) (a h i : Nat) : Nat → Int32 := if sA_pl A i < h then tkEn A a i else sA_en A i
def F4 (A : St) (a h i : Nat) : Bool := if sA_pl A i < h then tkLa A a i else sA_la A i
def Fw (G : Gc) (A : St) (a h i : Nat) : Int32 := if sA_pl A i < h ∧ act A i = true then gA_wt G i + nI (a - sA_lf A i) else gA_wt G i
theorem F_0 {A : St} {a : Nat} : F1 A a 0 = sA_lf A ∧ F3 A a 0 = sA_en A ∧ F4 A a 0 = sA_la A := ⟨by funext i; simp [F1], by funext i; simp [F3], by funext i; simp [F4]⟩
theorem Fw_0 {G : Gc} {A : St} {a : Nat} : Fw G A a 0 = gA_wt G := by funext i; simp [Fw]
theorem tk_no {A : St} {a i : Nat} (h : act A i = false) : tkLf A a i = sA_lf A i ∧ tkSn A a i = sA_sn A i ∧ tkEn A a i = sA_en A i ∧ tkLa A a i = sA_la A i := by
  refine ⟨?_, ?_, ?_, ?_⟩
  · unfold tkLf; rw [if_neg (by rw [h]; decide)]
  · unfold tkSn; rw [if_neg (by rw [h]; decide)]
  · unfold tkEn; rw [if_neg (by rw [h]; simp)]
  · unfold tkLa; rw [h]; simp
theorem act_iff {A : St} {i : Nat} : act A i = true ↔ i < sA_n A ∧ sA_pl A i < 4 ∧ (sA_dn A).testBit (sA_pl A i) = false := by
  unfold act
  simp [and_assoc]
theorem F_same {G : Gc} {A : St} {a h : Nat} (hno : ∀ i, sA_pl A i = h → act A i = false) : F1 A a (h + 1) = F1 A a h ∧ F3 A a (h + 1) = F3 A a h ∧ F4 A a (h + 1) = F4 A a h ∧ Fw G A a (h + 1) = Fw G A a h := by
  have key : ∀ i, ¬ sA_pl A i < h → sA_pl A i < h + 1 → act A i = false := fun i h1 h2 => hno i (by omega)
  refine ⟨?_, ?_, ?_, ?_⟩
  · funext i
    unfold F1
    by_cases h1 : sA_pl A i < h
    · rw [if_pos h1, if_pos (by omega)]
    · rw [if_neg h1]
      by_cases h2 : sA_pl A i < h + 1
      · rw [if_pos h2, (tk_no (key i h1 h2)).1]
      · rw [if_neg h2]
  · funext i
    unfold F3
    by_cases h1 : sA_pl A i < h
    · rw [if_pos h1, if_pos (by omega)]
    · rw [if_neg h1]
      by_cases h2 : sA_pl A i < h + 1
      · rw [if_pos h2, (tk_no (key i h1 h2)).2.2.1]
      · rw [if_neg h2]
  · funext i
    unfold F4
    by_cases h1 : sA_pl A i < h
    · rw [if_pos h1, if_pos (by omega)]
    · rw [if_neg h1]
      by_cases h2 : sA_pl A i < h + 1
      · rw [if_pos h2, (tk_no (key i h1 h2)).2.2.2]
      · rw [if_neg h2]
  · funext i
    unfold Fw
    by_cases h1 : sA_pl A i < h
    · by_cases ha : act A i = true
      · rw [if_pos (show sA_pl A i < h + 1 ∧ act A i = true from ⟨by omega, ha⟩), if_pos (show sA_pl A i < h ∧ act A i = true from ⟨h1, ha⟩)]
      · rw [if_neg (fun z => ha z.2), if_neg (fun z => ha z.2)]
    · rw [if_neg (show ¬ (sA_pl A i < h ∧ act A i = true) from fun z => h1 z.1), if_neg]
      rintro ⟨h2, h3⟩
      rw [key i h1 h2] at h3
      cases h3
theorem other {A : St} {i j h : Nat} (hI : Inv A) (hi : i < sA_n A) (hp : sA_pl A i = h) (h4 : h < 4) (hne : j ≠ i) (h1 : ¬ sA_pl A j < h) (h2 : sA_pl A j < h + 1) : act A j = false := by
  cases ha : act A j with
  | false => rfl
  | true =>
    obtain ⟨a1, a2, -⟩ := act_iff.mp ha
    exact absurd (hI.2.2.2.1 j i a1 hi (by omega) (by omega)) hne
theorem F_step {G : Gc} {A : St} {a h i : Nat} (hI : Inv A) (ha : act A i = true) (hp : sA_pl A i = h) :
    F1 A a (h + 1) = va_up (F1 A a h) i (sA_lf A i - min (sA_lf A i) a) ∧ F3 A a (h + 1) = va_up (F3 A a h) i (tkEn A a i) ∧ F4 A a (h + 1) = va_up (F4 A a h) i (tkLa A a i) ∧ Fw G A a (h + 1) = va_up (Fw G A a h) i (gA_wt G i + nI (a - min (sA_lf A i) a)) := by
  obtain ⟨hi, h4, -⟩ := act_iff.mp ha
  rw [hp] at h4
  refine ⟨?_, ?_, ?_, ?_⟩
  · funext j
    by_cases e : j = i
    · subst e
      rw [va_up_self]
      unfold F1 tkLf
      rw [if_pos (by omega), if_pos ha]
      omega
    · rw [va_up_ne _ _ e]
      unfold F1
      by_cases h1 : sA_pl A j < h
      · rw [if_pos h1, if_pos (by omega)]
      · rw [if_neg h1]
        by_cases h2 : sA_pl A j < h + 1
        · rw [if_pos h2, (tk_no (other hI hi hp h4 e h1 h2)).1]
        · rw [if_neg h2]
  · funext j
    by_cases e : j = i
    · subst e
      rw [va_up_self]
      unfold F3
      rw [if_pos (by omega)]
    · rw [va_up_ne _ _ e]
      unfold F3
      by_cases h1 : sA_pl A j < h
      · rw [if_pos h1, if_pos (by omega)]
      · rw [if_neg h1]
        by_cases h2 : sA_pl A j < h + 1
        · rw [if_pos h2, (tk_no (other hI hi hp h4 e h1 h2)).2.2.1]
        · rw [if_neg h2]
  · funext j
    by_cases e : j = i
    · subst e
      rw [va_up_self]
      unfold F4
      rw [if_pos (by omega)]
    · rw [va_up_ne _ _ e]
      unfold F4
      by_cases h1 : sA_pl A j < h
      · rw [if_pos h1, if_pos (by omega)]
      · rw [if_neg h1]
        by_cases h2 : sA_pl A j < h + 1
        · rw [if_pos h2, (tk_no (other hI hi hp h4 e h1 h2)).2.2.2]
        · rw [if_neg h2]
  · funext j
    by_cases e : j = i
    · subst e
      rw [va_up_self]
      unfold Fw
      rw [if_pos ⟨by omega, ha⟩]
      congr 2
      omega
    · rw [va_up_ne _ _ e]
      unfold Fw
      by_cases h1 : sA_pl A j < h
      · by_cases hb : act A j = true
        · rw [if_pos (show sA_pl A j < h + 1 ∧ act A j = true from ⟨by omega, hb⟩), if_pos (show sA_pl A j < h ∧ act A j = true from ⟨h1, hb⟩)]
        · rw [if_neg (fun z => hb z.2), if_neg (fun z => hb z.2)]
      · rw [if_neg (show ¬ (sA_pl A j < h ∧ act A j = true) from fun z => h1 z.1), if_neg]
        rintro ⟨h2, h3⟩
        rw [other hI hi hp h4 e h1 h2] at h3
        cases h3
/-- becomes late in these ticks -/
def frA (A : St) (a i : Nat) : Bool := tkLa A a i && !(sA_la A i)
theorem spend_eq {G : Gc} {A : St} {a h i : Nat} (hI : Inv A) (ha : act A i = true) (hp : sA_pl A i = h) (ha2 : a ≤ 200) :
    g_W_spend (gU_wt G (Fw G A a h)) (mk4 A (F1 A a h) (sA_sn A) (F3 A a h) (F4 A a h) (sA_ck A)) i a (sA_ck A) = (gU_wt G (Fw G A a (h + 1)), mk4 A (F1 A a (h + 1)) (sA_sn A) (F3 A a (h + 1)) (F4 A a h) (sA_ck A)) := by
  obtain ⟨e1, e3, -, ew⟩ := F_step (G := G) (a := a) hI ha hp
  obtain ⟨hi, h4, -⟩ := act_iff.mp ha
  obtain ⟨w1, w2, w3, w4, w5, w6, -⟩ := hI.2.2.1 i hi
  have hg := w5 h4
  have l1 : F1 A a h i = sA_lf A i := by unfold F1; rw [if_neg (by omega)]
  have l3 : F3 A a h i = sA_en A i := by unfold F3; rw [if_neg (by omega)]
  have lw : Fw G A a h i = gA_wt G i := by unfold Fw; rw [if_neg (by omega)]
  have hG : gU_wt (gU_wt G (Fw G A a h)) (va_up (Fw G A a h) i (Fw G A a h i + nI (a - min (F1 A a h i) a))) = gU_wt G (Fw G A a (h + 1)) := by
    rw [ew, l1, lw]
  have hA0 : tkEn A a i = F3 A a h i → sU_lf (mk4 A (F1 A a h) (sA_sn A) (F3 A a h) (F4 A a h) (sA_ck A)) (va_up (F1 A a h) i (F1 A a h i - min (F1 A a h i) a)) = mk4 A (F1 A a (h + 1)) (sA_sn A) (F3 A a (h + 1)) (F4 A a h) (sA_ck A) := by
    intro hen
    have : va_up (F3 A a h) i (tkEn A a i) = F3 A a h := by
      rw [hen]
      funext j
      unfold va_up
      split
      · next e => rw [e]
      · rfl
    rw [mk4_lf, e1, e3, this, l1]
  unfold g_W_spend
  have L1 : sA_lf (mk4 A (F1 A a h) (sA_sn A) (F3 A a h) (F4 A a h) (sA_ck A)) i = F1 A a h i := rfl
  have LS : sA_sg (mk4 A (F1 A a h) (sA_sn A) (F3 A a h) (F4 A a h) (sA_ck A)) i = sA_sg A i := rfl
  rw [L1, LS]
  by_cases c1 : nI (min (F1 A a h i) a) ≤ 0
  · rw [if_pos c1]
    have z := lf_0 c1 (by omega)
    refine Prod.ext hG (hA0 ?_)
    rw [l3]
    unfold tkEn
    rw [if_neg]
    rintro ⟨-, p1, p2⟩
    rw [l1] at z
    omega
  · rw [if_neg c1]
    have z := lf_pos c1
    by_cases c2 : nI (min (F1 A a h i) a) = nI (F1 A a h i)
    · rw [if_pos c2, if_neg (show ¬ nI (sA_sg A i) ≤ (0 : Int32) from nI_nle hg (by have := hI.2.1.1 (sA_rt A i); omega))]
      have c3 := (nI_eq (by omega) (by rw [l1]; omega)).mp c2
      refine Prod.ext hG ?_
      have hen : tkEn A a i = upd (sA_en A i) (sA_sg A i - 1) (sA_ck A + nI (min (F1 A a h i) a)) := by
        unfold tkEn
        rw [l1] at c3 z
        rw [if_pos ⟨ha, by omega, by omega⟩, l1, c3]
      show sU_lf (sU_en (mk4 A (F1 A a h) (sA_sn A) (F3 A a h) (F4 A a h) (sA_ck A)) (va_up (F3 A a h) i (upd (F3 A a h i) (sA_sg A i - 1) (sA_ck A + nI (min (F1 A a h i) a))))) (va_up (F1 A a h) i (F1 A a h i - min (F1 A a h i) a)) = _
      rw [mk4_en, mk4_lf, l3, ← hen, ← e3, l1, ← e1]
    · rw [if_neg c2]
      refine Prod.ext hG (hA0 ?_)
      rw [l3]
      unfold tkEn
      rw [if_neg]
      rintro ⟨-, p1, p2⟩
      apply c2
      rw [l1]
      congr 1
      omega
theorem turn_eq {G : Gc} {A : St} {a h i : Nat} (hI : Inv A) (hC : RC G A) (hB : snB A) (ha : act A i = true) (hp : sA_pl A i = h) (ha2 : a ≤ 200) :
    f_W_turnsLate (gU_wt G (Fw G A a (h + 1))) (mk4 A (F1 A a (h + 1)) (sA_sn A) (F3 A a (h + 1)) (F4 A a h) (sA_ck A)) i (nI (lmt A i)) = frA A a i ∧
    g_W_turnsLate (gU_wt G (Fw G A a (h + 1))) (mk4 A (F1 A a (h + 1)) (sA_sn A) (F3 A a (h + 1)) (F4 A a h) (sA_ck A)) i (nI (lmt A i)) = (gU_wt G (Fw G A a (h + 1)), mk4 A (F1 A a (h + 1)) (sA_sn A) (F3 A a (h + 1)) (F4 A a (h + 1)) (sA_ck A)) := by
  obtain ⟨-, -, e4, ew⟩ := F_step (G := G) (a := a) hI ha hp
  obtain ⟨hi, h4, -⟩ := act_iff.mp ha
  obtain ⟨w1, w2, w3, w4, -⟩ := hI.2.2.1 i hi
  have hlm := lmt_le hI hi h4
  have hb := hB i hi
  have l4 : F4 A a h i = sA_la A i := by unfold F4; rw [if_neg (by omega)]
  have lw : Fw G A a (h + 1) i = nI (tkSn A a i) := by
    rw [ew, va_up_self, hC.2.2.1 i hi h4, nI_add]
    unfold tkSn
    rw [if_pos ha]
    congr 1
    omega
  have hsn : tkSn A a i < 2 ^ 21 := by
    unfold tkSn
    split <;> omega
  have hsame : frA A a i = false → va_up (F4 A a h) i (tkLa A a i) = F4 A a h := by
    intro hf
    have : tkLa A a i = F4 A a h i := by
      rw [l4]
      unfold frA at hf
      unfold tkLa at hf ⊢
      revert hf
      cases sA_la A i <;> simp
    rw [this]
    funext j
    unfold va_up
    split
    · next e => rw [e]
    · rfl
  have hset : frA A a i = true → va_up (F4 A a h) i true = va_up (F4 A a h) i (tkLa A a i) := by
    intro hf
    unfold frA at hf
    simp at hf
    rw [hf.1]
  have FR : frA A a i = (!(sA_la A i) && (decide (0 < lmt A i) && decide (lmt A i < tkSn A a i))) := by
    unfold frA tkLa
    rw [ha]
    cases sA_la A i <;> simp
  rw [e4]
  unfold f_W_turnsLate g_W_turnsLate
  have L4 : sA_la (mk4 A (F1 A a (h + 1)) (sA_sn A) (F3 A a (h + 1)) (F4 A a h) (sA_ck A)) i = sA_la A i := l4
  have LW : gA_wt (gU_wt G (Fw G A a (h + 1))) i = nI (tkSn A a i) := lw
  have LA : sA_la (mk4 A (F1 A a (h + 1)) (sA_sn A) (F3 A a (h + 1)) (F4 A a h) (sA_ck A)) = F4 A a h := rfl
  rw [L4, LW, mk4_la, LA]
  cases hla : sA_la A i with
  | true =>
    have hf : frA A a i = false := by rw [FR, hla]; rfl
    rw [if_pos rfl, if_pos rfl, hf, hsame hf]
    exact ⟨rfl, rfl⟩
  | false =>
    simp only [Bool.false_eq_true, if_false]
    by_cases c1 : lmt A i = 0
    · have hf : frA A a i = false := by rw [FR, c1]; simp
      rw [if_pos (show nI (lmt A i) = (0 : Int32) by rw [c1]; rfl), if_pos (show nI (lmt A i) = (0 : Int32) by rw [c1]; rfl), hf, hsame hf]
      exact ⟨rfl, rfl⟩
    · rw [if_neg (show ¬ nI (lmt A i) = (0 : Int32) from nI_ne (b := 0) c1 (by omega) (by omega)), if_neg (show ¬ nI (lmt A i) = (0 : Int32) from nI_ne (b := 0) c1 (by omega) (by omega))]
      by_cases c2 : lmt A i < tkSn A a i
      · have hf : frA A a i = true := by rw [FR, hla]; simp; omega
        rw [if_pos (nI_lt c2 (by omega)), if_pos (nI_lt c2 (by omega)), hf, ← hset hf]
        exact ⟨rfl, rfl⟩
      · have hf : frA A a i = false := by rw [FR, hla]; simp; omega
        rw [if_neg (nI_nlt (by omega) (by omega)), if_neg (nI_nlt (by omega) (by omega)), hf, hsame hf]
        exact ⟨rfl, rfl⟩
/-- how many became late in the chambers below h -/
def cntT (A : St) (a h : Nat) : Nat := cnt (fun i => F4 A a h i && !(sA_la A i)) (sA_n A)
theorem cntT_same {G : Gc} {A : St} {a h : Nat} (hno : ∀ i, sA_pl A i = h → act A i = false) : cntT A a (h + 1) = cntT A a h := by
  unfold cntT
  rw [(F_same (G := G) (a := a) hno).2.2.1]
theorem cntT_step {G : Gc} {A : St} {a h i : Nat} (hI : Inv A) (ha : act A i = true) (hp : sA_pl A i = h) : cntT A a (h + 1) = cntT A a h + (if frA A a i = true then 1 else 0) := by
  obtain ⟨-, -, e4, -⟩ := F_step (G := G) (a := a) hI ha hp
  obtain ⟨hi, -⟩ := act_iff.mp ha
  have l4 : F4 A a h i = sA_la A i := by unfold F4; rw [if_neg (by omega)]
  unfold cntT
  rw [e4, cnt_up (f := fun i => F4 A a h i && !(sA_la A i)) (g := fun j => va_up (F4 A a h) i (tkLa A a i) j && !(sA_la A j)) hi (fun j hj hne => by rw [va_up_ne _ _ hne]) (by rw [l4]; cases sA_la A i <;> rfl)]
  rw [va_up_self]
  rfl
theorem F_4 {G : Gc} {A : St} {a : Nat} : F1 A a 4 = tkLf A a ∧ F3 A a 4 = tkEn A a ∧ F4 A a 4 = tkLa A a := by
  have key : ∀ i, ¬ sA_pl A i < 4 → act A i = false := by
    intro i h
    cases ha : act A i with
    | false => rfl
    | true => exact absurd (act_iff.mp ha).2.1 h
  refine ⟨?_, ?_, ?_⟩
  · funext i
    unfold F1
    by_cases h : sA_pl A i < 4
    · rw [if_pos h]
    · rw [if_neg h, (tk_no (key i h)).1]
  · funext i
    unfold F3
    by_cases h : sA_pl A i < 4
    · rw [if_pos h]
    · rw [if_neg h, (tk_no (key i h)).2.2.1]
  · funext i
    unfold F4
    by_cases h : sA_pl A i < 4
    · rw [if_pos h]
    · rw [if_neg h, (tk_no (key i h)).2.2.2]
def tickT (A : St) (a : Nat) : St := mk4 A (tkLf A a) (tkSn A a) (tkEn A a) (tkLa A a) (sA_ck A + nI a)
def tickF (A : St) (a : Nat) : St := if 0 < a then sU_bb (sU_fb (tickT A a) false) false else tickT A a
def tickI (A : St) (x : Int32) : Int32 := if 0 ≤ x ∧ x ≤ 200 then nI (becF A x.toNatClampNeg) else -1
def tickS (A : St) (x : Int32) : St := if 0 ≤ x ∧ x ≤ 200 then tickF A x.toNatClampNeg else A
theorem tick_at {A : St} {a : Nat} (h : a ≤ 200) : tickI A (nI a) = nI (becF A a) ∧ tickS A (nI a) = tickF A a := by
  unfold tickI tickS
  have hc : (0 : Int32) ≤ nI a ∧ nI a ≤ 200 := ⟨nI_pos' (by omega), nI_le (b := 200) h (by omega)⟩
  rw [if_pos hc, if_pos hc, nI_clamp (by omega)]
  exact ⟨rfl, rfl⟩
theorem tick_bad {A : St} {x : Int32} (h : f_T_isWithin x 0 200 = false) : tickI A x = -1 ∧ tickS A x = A := by
  unfold tickI tickS
  rw [if_neg (not_within h), if_neg (not_within h)]
  exact ⟨rfl, rfl⟩
theorem RC_tick {G : Gc} {A B : St} {a : Nat} (hC : RC G A) (hs : sA_n B = sA_n A ∧ sA_pl B = sA_pl A ∧ sA_sg B = sA_sg A ∧ sA_rt B = sA_rt A ∧ envA B = envA A ∧ sA_sn B = tkSn A a) : RC (gU_wt G (Fw G A a 4)) B := by
  obtain ⟨s1, s2, s3, s4, s5, s6⟩ := hs
  have s7 : sA_len B = sA_len A := congrArg (fun z => z.1) s5
  refine ⟨fun q hq => ?_, fun i hi => ?_, fun i hi h4 => ?_, ?_, fun z => hC.2.2.2.2 (by omega)⟩
  · rw [show gA_ins (gU_wt G (Fw G A a 4)) q = gA_ins G q from rfl, hC.1 q hq]
    unfold inP
    rw [if_pos hq, if_pos hq, s1]
    exact (occ_congr (fun j hj => by rw [s2])).symm
  · rw [s1] at hi
    rw [show gA_fi (gU_wt G (Fw G A a 4)) i = gA_fi G i from rfl, hC.2.1 i hi]
    unfold fin
    rw [s2, s3, s4, s7]
  · rw [s1] at hi
    rw [s2] at h4
    show Fw G A a 4 i = nI (sA_sn B i)
    rw [s6]
    unfold Fw tkSn
    by_cases ha : act A i = true
    · rw [if_pos ⟨h4, ha⟩, if_pos ha, hC.2.2.1 i hi h4, nI_add]
    · rw [if_neg (fun z => ha z.2), if_neg ha, hC.2.2.1 i hi h4]
  · rw [s5]
    exact hC.2.2.2.1
theorem bec_4 {A : St} {a : Nat} : cntT A a 4 = becF A a := by
  unfold cntT becF
  rw [(F_4 (G := (fun _ => 0, fun _ => 0, fun _ => false, fun _ => 0, fun _ => 0, fun _ => 0)) (A := A) (a := a)).2.2]
end
section
/-! visit: the answer. Own work. -/
noncomputable def visitF (A : St) (x y z k : Int32) : Int32 := oc (ridx x) (-1) (fun r => @ite _ (visitOk A r y z k) (Classical.propDecidable _) (nI (sA_len A r + 1)) (-1))
noncomputable def visitA (A : St) (x y z k : Int32) : St := oc (ridx x) A (fun r => @ite _ (visitOk A r y z k) (Classical.propDecidable _) (appA A r y.toNatClampNeg z.toNatClampNeg k.toNatClampNeg) A)
theorem visit_none {A : St} {x y z k : Int32} (h : f_Y_routeOf x = none) : -1 = visitF A x y z k ∧ visitA A x y z k = A := by
  rw [routeOf_eq] at h
  unfold visitF visitA
  rw [oc_none h, oc_none h]
  exact ⟨rfl, rfl⟩
theorem visit_bad {A : St} {x y z k : Int32} {r : Nat} (h : f_Y_routeOf x = some r) (hb : ¬ visitOk A r y z k) : -1 = visitF A x y z k ∧ visitA A x y z k = A := by
  rw [routeOf_eq] at h
  unfold visitF visitA
  rw [oc_some h, oc_some h, if_neg hb, if_neg hb]
  exact ⟨rfl, rfl⟩
theorem visit_ok {A : St} {x : Int32} {r a b d : Nat} (h : f_Y_routeOf x = some r) (h0 : sA_n A = 0) (h3 : sA_len A r ≠ 3) (ha : 1 ≤ a ∧ a ≤ 15) (hb : 1 ≤ b ∧ b ≤ 100) (hd : d ≤ 100) : nI (sA_len A r + 1) = visitF A x (nI a) (nI b) (nI d) ∧ visitA A x (nI a) (nI b) (nI d) = appA A r a b d := by
  have hok : visitOk A r (nI a) (nI b) (nI d) := ⟨h0, h3, ⟨nI_le (a := 1) ha.1 (by omega), nI_le (b := 15) ha.2 (by omega)⟩, ⟨nI_le (a := 1) hb.1 (by omega), nI_le (b := 100) hb.2 (by omega)⟩, ⟨nI_pos' (by omega), nI_le (b := 100) hd (by omega)⟩⟩
  rw [routeOf_eq] at h
  unfold visitF visitA
  rw [oc_some h, oc_some h, if_pos hok, if_pos hok, nI_clamp (by omega), nI_clamp (by omega), nI_clamp (by omega)]
  exact ⟨rfl, rfl⟩
theorem len_app {A : St} {r a b d : Nat} : sA_len (appA A r a b d) r = sA_len A r + 1 := va_up_self _ _ _
theorem pl3 {n : Nat} (hn : n < 100) (h : nI n = 3) : n = 3 := (nI_eq (b := 3) (by omega) (by omega)).mp h
theorem cnt_none {f : Nat → Bool} : ∀ {k : Nat}, (∀ i, i < k → f i = false) → cnt f k = 0
  | 0, _ => rfl
  | k + 1, h => by
    unfold cnt
    rw [h k (by omega), cnt_none (fun i hi => h i (by omega))]
    rfl
end
section
abbrev rm_T_visit : Room := { frames := 2, cells := 0, slots := 0, locals := 43 }
set_option maxRecDepth 20000 in
set_option maxHeartbeats 4000000 in
theorem c_T_visit (l : Launch) (X : Xt) (G : Gc) (A : St) (Af : Nat → Prop) (x : Int32) (y : Int32) (z : Int32) (k : Int32) (hI : Inv A) (hC : RC G A) : Met l y_T_visit (Cond.code y_T_visit b_T_visit 6 (some .int) :: WA) rm_T_visit (va_Pc [.ref (gA_ad G 0), .int x, .int y, .int z, .int k] (fun U => PW X Af G A U.heap ∧ KK X U)) (va_Qi (AP G (visitF A x y z k) (visitA A x y z k)) (atC X Af) Af) 0 0 Af := by
  refine vx_met (cc := b_T_visit) (maxL := 6) (ret := (some .int)) (by decide) rfl (Nat.le_of_ble_eq_true rfl) ?_
  intro p e s m below meth c ls hx hb hrt hts hown hlocks hname hml hB hl
  obtain ⟨hP, hK⟩ := hB
  have hown : s.vm.findClass R_ClusterTool = some m.cls := hown
  have hl : lv_has ls 6 [(0, .ref (gA_ad G 0)), (1, .int x), (2, .int y), (3, .int z), (4, .int k)] := hl
  have hD : va_D Af (cw X G A) := hP.2
  have hP : va_P X.1 classes (cw X G A) s.heap := hP.1
  have hS : va_S Af s.heap s.heap [] := va_S.rf
  have hn := hI.1
  have hR := hI.2.1
  refine lv_aload_n hx hb d_T_visit_0 rfl (lv_at hl 0 rfl) ?_
  refine va_get (D := X.1) (ci := 0) (C := R_ClusterTool) (T := F_ClusterTool) (N := 8) hx hb hts hin_ClusterTool hown hK.1 hP 0 cw_0 rfl 0 (by decide) (hts _ (wd_1 85 rfl rfl)) (fun _ h9 => h9) rfl d_T_visit_1 ?_
  refine lv_iload_n hx hb d_T_visit_4 rfl (lv_at hl 1 rfl) ?_
  refine va_csq (W.runV (As := [.int x]) (rest := []) ⟨hx, hb, hml, hown, hts⟩ (c_Y_routeOf l X G A x) (cwV 1 hts (gV (wd_1 114 rfl rfl) (wd_1 115 rfl rfl) (wd_1 116 rfl rfl) (wd_1 2 rfl rfl) (wd_1 117 rfl rfl)) rfl rfl rfl ⟨rfl, hd_Y_routeOf⟩ ⟨Nat.le_of_ble_eq_true rfl, Nat.le_of_ble_eq_true rfl⟩) (vx_preV (P := PR X G A) hP hK (va_recv hK.1 hP (ci := 1) rfl cw_1)) rfl rfl hl.1 rfl (lv_room (Nat.le_of_ble_eq_true rfl)) d_T_visit_5 ⟨Nat.zero_le _, Nat.zero_le _⟩) (fun r5 e5 => ?_)
  cases q5 : f_Y_routeOf x with
  | none =>
    have e5 : r5 = none := by rw [e5, q5]; rfl
    subst e5
    refine lv_astoreN (lv' := [(5, .null), (0, .ref (gA_ad G 0)), (1, .int x), (2, .int y), (3, .int z), (4, .int k)]) hx hb d_T_visit_8 hl (by decide) rfl (fun ls hl => ?_)
    refine lv_aloadN hx hb d_T_visit_10 (lv_at hl 0 rfl) ?_
    refine lv_ifnullN (tgt := 31) hx hb d_T_visit_12 rfl ?_
    refine lv_iconst (v := (-1)) hx hb d_T_visit_31 rfl ?_
    have hvo := visit_none (A := A) (x := x) (y := y) (z := z) (k := k) q5
    exact W.iret (v := (-1)) hx hb hrt (fun t ht hW => ⟨⟨_, (G, A), rfl, ⟨hvo.1, hvo.2.symm, (by rw [hvo.2]; exact hC), rfl⟩, ⟨by rw [ht]; exact hP, hD⟩⟩, hS.F ht⟩) hS.2.2 d_T_visit_32
  | some i5 =>
    have e5 : r5 = some (gA_ad G (8 + 4 * i5)) := by rw [e5, q5]; rfl
    subst e5
    have hli5 := routeOf_lt q5
    refine lv_astore (lv' := [(5, .ref (gA_ad G (8 + 4 * i5))), (0, .ref (gA_ad G 0)), (1, .int x), (2, .int y), (3, .int z), (4, .int k)]) hx hb d_T_visit_8 hl (by decide) rfl (fun ls hl => ?_)
    refine lv_aload hx hb d_T_visit_10 (lv_at hl 0 rfl) ?_
    refine lv_ifnull hx hb d_T_visit_12 ?_
    refine lv_aload_n hx hb d_T_visit_15 rfl (lv_at hl 1 rfl) ?_
    refine va_get (D := X.1) (ci := 0) (C := R_ClusterTool) (T := F_ClusterTool) (N := 8) hx hb hts hin_ClusterTool hown hK.1 hP 0 cw_0 rfl 6 (by decide) (hts _ (wd_1 91 rfl rfl)) (fun _ h9 => h9) rfl d_T_visit_16 ?_
    refine lv_if_gt (tgt := 31) hx hb d_T_visit_19 rfl (fun h19 => ?_) (fun h19 => ?_)
    ·
      refine lv_iconst (v := (-1)) hx hb d_T_visit_31 rfl ?_
      have hvo := visit_bad (A := A) (x := x) (y := y) (z := z) (k := k) q5 (fun z => n_pos h19 z.1)
      exact W.iret (v := (-1)) hx hb hrt (fun t ht hW => ⟨⟨_, (G, A), rfl, ⟨hvo.1, hvo.2.symm, (by rw [hvo.2]; exact hC), rfl⟩, ⟨by rw [ht]; exact hP, hD⟩⟩, hS.F ht⟩) hS.2.2 d_T_visit_32
    ·
      refine lv_aload hx hb d_T_visit_22 (lv_at hl 0 rfl) ?_
      refine va_getN (D := X.1) (ci := 4) (C := R_Route) (T := F_Route) (N := 4) hx hb hts hin_Route hown hK.1 hP (8 + 4 * i5) (cw_r hli5) rfl 3 (by decide) (va_Nw.use rfl (hK.2.1 _ (List.mem_of_getElem? (i := 2) rfl))) (fun _ h9 => h9) rfl d_T_visit_24 ?_
      refine lv_iconst (v := 3) hx hb d_T_visit_27 rfl ?_
      refine lv_icmp_ne (tgt := 33) hx hb d_T_visit_28 rfl (fun h28 => ?_) (fun h28 => ?_)
      ·
        refine lv_iload_n hx hb d_T_visit_33 rfl (lv_at hl 3 rfl) ?_
        refine lv_iconst (v := 1) hx hb d_T_visit_34 rfl ?_
        refine lv_bipush (v := 15) hx hb d_T_visit_35 rfl ?_
        refine vp_callSi (W.runS (As := [.int y, .int 1, .int 15]) (rest := []) ⟨hx, hb, hml, hown, hts⟩ (c_T_isWithin l X y 1 15) (va_cwS 3 hts (gT (wd_1 121 rfl rfl) (wd_1 119 rfl rfl) (wd_1 1 rfl rfl) (wd_1 120 rfl rfl)) rfl rfl rfl hd_T_isWithin ⟨Nat.le_of_ble_eq_true rfl, Nat.le_of_ble_eq_true rfl⟩) (vx_preS (P := fun _ => True) trivial hK) rfl rfl hl.1 rfl (lv_room (Nat.le_of_ble_eq_true rfl)) d_T_visit_37 ⟨Nat.zero_le _, Nat.zero_le _⟩) (fun r37 e37 => ?_)
        subst e37
        refine lv_if_eq (tgt := 64) hx hb d_T_visit_40 rfl (fun h40 => ?_) (fun h40 => ?_)
        ·
          have h40 := b2i_f h40
          refine lv_iconst (v := (-1)) hx hb d_T_visit_64 rfl ?_
          have hvo := visit_bad (A := A) (x := x) (y := y) (z := z) (k := k) q5 (fun z => not_within h40 z.2.2.1)
          exact W.iret (v := (-1)) hx hb hrt (fun t ht hW => ⟨⟨_, (G, A), rfl, ⟨hvo.1, hvo.2.symm, (by rw [hvo.2]; exact hC), rfl⟩, ⟨by rw [ht]; exact hP, hD⟩⟩, hS.F ht⟩) hS.2.2 d_T_visit_65
        ·
          have h40 := b2i_t h40
          refine lv_iload_n hx hb d_T_visit_43 rfl (lv_at hl 4 rfl) ?_
          refine lv_iconst (v := 1) hx hb d_T_visit_44 rfl ?_
          refine lv_bipush (v := 100) hx hb d_T_visit_45 rfl ?_
          refine vp_callSi (W.runS (As := [.int z, .int 1, .int 100]) (rest := []) ⟨hx, hb, hml, hown, hts⟩ (c_T_isWithin l X z 1 100) (va_cwS 3 hts (gT (wd_1 121 rfl rfl) (wd_1 119 rfl rfl) (wd_1 1 rfl rfl) (wd_1 120 rfl rfl)) rfl rfl rfl hd_T_isWithin ⟨Nat.le_of_ble_eq_true rfl, Nat.le_of_ble_eq_true rfl⟩) (vx_preS (P := fun _ => True) trivial hK) rfl rfl hl.1 rfl (lv_room (Nat.le_of_ble_eq_true rfl)) d_T_visit_47 ⟨Nat.zero_le _, Nat.zero_le _⟩) (fun r47 e47 => ?_)
          subst e47
          refine lv_if_eq (tgt := 64) hx hb d_T_visit_50 rfl (fun h50 => ?_) (fun h50 => ?_)
          ·
            have h50 := b2i_f h50
            refine lv_iconst (v := (-1)) hx hb d_T_visit_64 rfl ?_
            have hvo := visit_bad (A := A) (x := x) (y := y) (z := z) (k := k) q5 (fun z => not_within h50 z.2.2.2.1)
            exact W.iret (v := (-1)) hx hb hrt (fun t ht hW => ⟨⟨_, (G, A), rfl, ⟨hvo.1, hvo.2.symm, (by rw [hvo.2]; exact hC), rfl⟩, ⟨by rw [ht]; exact hP, hD⟩⟩, hS.F ht⟩) hS.2.2 d_T_visit_65
          ·
            have h50 := b2i_t h50
            refine lv_iload hx hb d_T_visit_53 (lv_at hl 5 rfl) ?_
            refine lv_iconst (v := 0) hx hb d_T_visit_55 rfl ?_
            refine lv_bipush (v := 100) hx hb d_T_visit_56 rfl ?_
            refine vp_callSi (W.runS (As := [.int k, .int 0, .int 100]) (rest := []) ⟨hx, hb, hml, hown, hts⟩ (c_T_isWithin l X k 0 100) (va_cwS 3 hts (gT (wd_1 121 rfl rfl) (wd_1 119 rfl rfl) (wd_1 1 rfl rfl) (wd_1 120 rfl rfl)) rfl rfl rfl hd_T_isWithin ⟨Nat.le_of_ble_eq_true rfl, Nat.le_of_ble_eq_true rfl⟩) (vx_preS (P := fun _ => True) trivial hK) rfl rfl hl.1 rfl (lv_room (Nat.le_of_ble_eq_true rfl)) d_T_visit_58 ⟨Nat.zero_le _, Nat.zero_le _⟩) (fun r58 e58 => ?_)
            subst e58
            refine lv_if_ne (tgt := 66) hx hb d_T_visit_61 rfl (fun h61 => ?_) (fun h61 => ?_)
            ·
              have h61 := b2i_t h61
              have h0 := n_zero h19 (by omega)
              have h3 : sA_len A i5 ≠ 3 := fun z => h28 (by rw [z]; rfl)
              obtain ⟨a, ha1, ha2, rfl⟩ := within_n (m := 1) (n := 15) h40 rfl rfl
              obtain ⟨b, hb1, hb2, rfl⟩ := within_n (m := 1) (n := 100) h50 rfl rfl
              obtain ⟨d, hd1, hd2, rfl⟩ := within_n (m := 0) (n := 100) h61 rfl rfl
              refine lv_aload hx hb d_T_visit_66 (lv_at hl 0 rfl) ?_
              refine lv_iload_n hx hb d_T_visit_68 rfl (lv_at hl 3 rfl) ?_
              refine lv_iload_n hx hb d_T_visit_69 rfl (lv_at hl 4 rfl) ?_
              refine lv_iload hx hb d_T_visit_70 (lv_at hl 5 rfl) ?_
              refine va_callv (va_runV (As := [.int (nI a), .int (nI b), .int (nI d)]) (rest := []) ⟨hx, hb, hml, hown, hts⟩ (c_U_append l X G A Af i5 hli5 a b d hR) (cwV 3 hts (gV (wd_1 122 rfl rfl) (wd_1 123 rfl rfl) (wd_1 124 rfl rfl) (wd_1 3 rfl rfl) (wd_1 125 rfl rfl)) rfl rfl rfl ⟨rfl, hd_U_append⟩ ⟨Nat.le_of_ble_eq_true rfl, Nat.le_of_ble_eq_true rfl⟩) (vx_preV (P := PW X Af G A) ⟨hP, hD⟩ hK (va_recv hK.1 hP (ci := 4) rfl (cw_r hli5))) rfl rfl hl.1 rfl (lv_room (Nat.le_of_ble_eq_true rfl)) d_T_visit_72 ⟨Nat.zero_le _, Nat.zero_le _⟩) hS (fun q _ h => h) (fun q h => h) (fun u72 t72 H locs ht hvm hu72 hB hz hk hS => ?_)
              obtain ⟨hP, hD⟩ := hB
              rw [ht] at hP
              rw [append_eq (by have := hR.1 i5; omega)] at hu72
              subst hu72
              have hP : va_P X.1 classes (cw X G (appA A i5 a b d)) H := hP
              have hD : va_D Af (cw X G (appA A i5 a b d)) := hD
              refine lv_aload hx hb d_T_visit_75 (lv_at hl 0 rfl) ?_
              refine va_getN (D := X.1) (ci := 4) (C := R_Route) (T := F_Route) (N := 4) hx hb hts hin_Route hown hK.1 hP (8 + 4 * i5) (cw_r hli5) rfl 3 (by decide) (va_Nw.use rfl (hK.2.1 _ (List.mem_of_getElem? (i := 2) rfl))) (fun _ h9 => h9) rfl d_T_visit_77 ?_
              have hvo := visit_ok (A := A) q5 h0 h3 ⟨ha1, ha2⟩ ⟨hb1, hb2⟩ hd2
              exact W.iret (v := nI (sA_len (appA A i5 a b d) i5)) hx hb hrt (fun t ht hW => ⟨⟨_, (G, (appA A i5 a b d)), rfl, ⟨(by rw [← hvo.1, len_app]), hvo.2.symm, (by rw [hvo.2]; exact RC_app hC h0), rfl⟩, ⟨by rw [ht]; exact hP, hD⟩⟩, hS.F ht⟩) hS.2.2 d_T_visit_80
            ·
              have h61 := b2i_f h61
              refine lv_iconst (v := (-1)) hx hb d_T_visit_64 rfl ?_
              have hvo := visit_bad (A := A) (x := x) (y := y) (z := z) (k := k) q5 (fun z => not_within h61 z.2.2.2.2)
              exact W.iret (v := (-1)) hx hb hrt (fun t ht hW => ⟨⟨_, (G, A), rfl, ⟨hvo.1, hvo.2.symm, (by rw [hvo.2]; exact hC), rfl⟩, ⟨by rw [ht]; exact hP, hD⟩⟩, hS.F ht⟩) hS.2.2 d_T_visit_65
      ·
        refine lv_iconst (v := (-1)) hx hb d_T_visit_31 rfl ?_
        have hvo := visit_bad (A := A) (x := x) (y := y) (z := z) (k := k) q5 (fun z => z.2.1 (pl3 (by have := hR.1 i5; omega) h28))
        exact W.iret (v := (-1)) hx hb hrt (fun t ht hW => ⟨⟨_, (G, A), rfl, ⟨hvo.1, hvo.2.symm, (by rw [hvo.2]; exact hC), rfl⟩, ⟨by rw [ht]; exact hP, hD⟩⟩, hS.F ht⟩) hS.2.2 d_T_visit_32
abbrev rm_T_count : Room := { frames := 3, cells := 0, slots := 0, locals := 66 }
set_option maxRecDepth 20000 in
set_option maxHeartbeats 4000000 in
theorem c_T_count (l : Launch) (X : Xt) (G : Gc) (A : St) (x : Int32) (hI : Inv A) (hC : RC G A) : Met l y_T_count (Cond.code y_T_count b_T_count 2 (some .int) :: WA) rm_T_count (va_Pc [.ref (gA_ad G 0), .int x] (fun U => PR X G A U.heap ∧ KK X U)) (vp_Si (fun ans => ans = countF A x)) 0 0 (fun _ => False) := by
  refine vx_met (cc := b_T_count) (maxL := 2) (ret := (some .int)) (by decide) rfl (Nat.le_of_ble_eq_true rfl) ?_
  intro p e s m below meth c ls hx hb hrt hts hown hlocks hname hml hB hl
  obtain ⟨hP, hK⟩ := hB
  have hown : s.vm.findClass R_ClusterTool = some m.cls := hown
  have hl : lv_has ls 2 [(0, .ref (gA_ad G 0)), (1, .int x)] := hl
  have hP : va_P X.1 classes (cw X G A) s.heap := hP
  have hn := hI.1
  have hR := hI.2.1
  refine lv_iload_n hx hb d_T_count_0 rfl (lv_at hl 1 rfl) ?_
  rcases sw6 x with rfl | rfl | rfl | rfl | rfl | rfl | hsw
  ·
    refine lv_tableIn (tgt := 40) hx hb d_T_count_1 (by decide) (by decide) rfl rfl ?_
    refine lv_aload_n hx hb d_T_count_40 rfl (lv_at hl 0 rfl) ?_
    refine va_get (D := X.1) (ci := 0) (C := R_ClusterTool) (T := F_ClusterTool) (N := 8) hx hb hts hin_ClusterTool hown hK.1 hP 0 cw_0 rfl 6 (by decide) (hts _ (wd_1 91 rfl rfl)) (fun _ h9 => h9) rfl d_T_count_41 ?_
    exact W.iret (v := nI (sA_n A)) hx hb hrt (fun t ht hW => ⟨_, rfl, rfl, ht⟩) (fun q h => by cases h) d_T_count_44
  ·
    refine lv_tableIn (tgt := 45) hx hb d_T_count_1 (by decide) (by decide) rfl rfl ?_
    refine lv_aload_n hx hb d_T_count_45 rfl (lv_at hl 0 rfl) ?_
    refine vp_callSi (W.runV (As := []) (rest := []) ⟨hx, hb, hml, hown, hts⟩ (c_T_countFinished l X G A hn) (cwV 0 hts (gV (wd_2 140 rfl rfl) (wd_2 142 rfl rfl) (wd_s 11 rfl) (wd_1 1 rfl rfl) (wd_2 143 rfl rfl)) rfl rfl rfl ⟨rfl, hd_T_countFinished⟩ ⟨Nat.le_of_ble_eq_true rfl, Nat.le_of_ble_eq_true rfl⟩) (vx_preV (P := PR X G A) hP hK (va_recv hK.1 hP (ci := 0) rfl cw_0)) rfl rfl hl.1 rfl (lv_room (Nat.le_of_ble_eq_true rfl)) d_T_count_46 ⟨Nat.zero_le _, Nat.zero_le _⟩) (fun r46 e46 => ?_)
    subst e46
    exact W.iret (v := f_T_countFinished G A) hx hb hrt (fun t ht hW => ⟨_, rfl, (congrArg nI (cnt_congr (fun i hi => hC.2.1 i hi))), ht⟩) (fun q h => by cases h) d_T_count_49
  ·
    refine lv_tableIn (tgt := 50) hx hb d_T_count_1 (by decide) (by decide) rfl rfl ?_
    refine lv_aload_n hx hb d_T_count_50 rfl (lv_at hl 0 rfl) ?_
    refine vp_callSi (W.runV (As := []) (rest := []) ⟨hx, hb, hml, hown, hts⟩ (c_T_countLate l X G A hn) (cwV 0 hts (gV (wd_2 144 rfl rfl) (wd_2 146 rfl rfl) (wd_s 12 rfl) (wd_1 1 rfl rfl) (wd_2 147 rfl rfl)) rfl rfl rfl ⟨rfl, hd_T_countLate⟩ ⟨Nat.le_of_ble_eq_true rfl, Nat.le_of_ble_eq_true rfl⟩) (vx_preV (P := PR X G A) hP hK (va_recv hK.1 hP (ci := 0) rfl cw_0)) rfl rfl hl.1 rfl (lv_room (Nat.le_of_ble_eq_true rfl)) d_T_count_51 ⟨Nat.zero_le _, Nat.zero_le _⟩) (fun r51 e51 => ?_)
    subst e51
    exact W.iret (v := f_T_countLate A) hx hb hrt (fun t ht hW => ⟨_, rfl, rfl, ht⟩) (fun q h => by cases h) d_T_count_54
  ·
    refine lv_tableIn (tgt := 55) hx hb d_T_count_1 (by decide) (by decide) rfl rfl ?_
    refine lv_aload_n hx hb d_T_count_55 rfl (lv_at hl 0 rfl) ?_
    refine va_get (D := X.1) (ci := 0) (C := R_ClusterTool) (T := F_ClusterTool) (N := 8) hx hb hts hin_ClusterTool hown hK.1 hP 0 cw_0 rfl 2 (by decide) (hts _ (wd_1 87 rfl rfl)) (fun _ h9 => h9) rfl d_T_count_56 ?_
    refine va_getN (D := X.1) (ci := 3) (C := R_Robot) (T := F_Robot) (N := 2) hx hb hts hin_Robot hown hK.1 hP 3 cw_3 rfl 1 (by decide) (va_Nw.use rfl (hK.2.1 _ (List.mem_of_getElem? (i := 6) rfl))) (fun _ h9 => h9) rfl d_T_count_59 ?_
    exact W.iret (v := sA_fm A) hx hb hrt (fun t ht hW => ⟨_, rfl, rfl, ht⟩) (fun q h => by cases h) d_T_count_62
  ·
    refine lv_tableIn (tgt := 63) hx hb d_T_count_1 (by decide) (by decide) rfl rfl ?_
    refine lv_aload_n hx hb d_T_count_63 rfl (lv_at hl 0 rfl) ?_
    refine va_get (D := X.1) (ci := 0) (C := R_ClusterTool) (T := F_ClusterTool) (N := 8) hx hb hts hin_ClusterTool hown hK.1 hP 0 cw_0 rfl 3 (by decide) (hts _ (wd_1 88 rfl rfl)) (fun _ h9 => h9) rfl d_T_count_64 ?_
    refine va_getN (D := X.1) (ci := 3) (C := R_Robot) (T := F_Robot) (N := 2) hx hb hts hin_Robot hown hK.1 hP 4 cw_4 rfl 1 (by decide) (va_Nw.use rfl (hK.2.1 _ (List.mem_of_getElem? (i := 6) rfl))) (fun _ h9 => h9) rfl d_T_count_67 ?_
    exact W.iret (v := sA_bm A) hx hb hrt (fun t ht hW => ⟨_, rfl, rfl, ht⟩) (fun q h => by cases h) d_T_count_70
  ·
    refine lv_tableIn (tgt := 71) hx hb d_T_count_1 (by decide) (by decide) rfl rfl ?_
    refine lv_aload_n hx hb d_T_count_71 rfl (lv_at hl 0 rfl) ?_
    refine va_get (D := X.1) (ci := 0) (C := R_ClusterTool) (T := F_ClusterTool) (N := 8) hx hb hts hin_ClusterTool hown hK.1 hP 0 cw_0 rfl 7 (by decide) (hts _ (wd_1 92 rfl rfl)) (fun _ h9 => h9) rfl d_T_count_72 ?_
    exact W.iret (v := sA_ck A) hx hb hrt (fun t ht hW => ⟨_, rfl, rfl, ht⟩) (fun q h => by cases h) d_T_count_75
  ·
    refine lv_tableOut (tgt := 76) hx hb d_T_count_1 hsw rfl ?_
    refine lv_iconst (v := (-1)) hx hb d_T_count_76 rfl ?_
    exact W.iret (v := (-1)) hx hb hrt (fun t ht hW => ⟨_, rfl, (countF_out hsw), ht⟩) (fun q h => by cases h) d_T_count_77
end
section
abbrev rm_T_tick : Room := { frames := 3, cells := 0, slots := 0, locals := 65 }
set_option maxRecDepth 20000 in
set_option maxHeartbeats 4000000 in
theorem lp_T_tick {p : Program} {l : Launch} {e : Env} {s : State} {m : MethodId} {args : Array Value} {below : List Frame} {meth : Method} {c : Code} {Q : State → Prop} {X : Xt} {G : Gc} {A : St} {Af : Nat → Prop} {a : Nat} (hx : p.tables.exec = Jvm.exec) (hb : c.code = b_T_tick) (hts : ∀ w ∈ Cond.code y_T_tick b_T_tick 5 (some .int) :: WA, w.before args s = true) (hown : s.vm.findClass R_ClusterTool = some m.cls) (hml : c.maxLocals = 5) (hK : KK X s) (hI : Inv A) (hC : RC G A) (hBd : snB A) (ha2 : a ≤ 200)
    (kont : ∀ (H : Heap) (locs : List Loc) (ls : Array Slot), va_P X.1 classes (cw X (gU_wt G (Fw G A a 4)) (mk4 A (tkLf A a) (sA_sn A) (tkEn A a) (tkLa A a) (sA_ck A))) H → va_D Af (cw X (gU_wt G (Fw G A a 4)) (mk4 A (tkLf A a) (sA_sn A) (tkEn A a) (tkLa A a) (sA_ck A))) → va_S Af s.heap H locs → lv_has ls 5 [(2, .int (nI (becF A a))), (1, .int (nI a)), (0, .ref (gA_ad G 0))] → W p l e rm_T_tick s m args below meth c H locs 0 0 Q (F0 m 88 ls [])) :
    ∀ (r h : Nat) (H : Heap) (locs : List Loc) (ls : Array Slot), h + r = 4 → va_P X.1 classes (cw X (gU_wt G (Fw G A a h)) (mk4 A (F1 A a h) (sA_sn A) (F3 A a h) (F4 A a h) (sA_ck A))) H → va_D Af (cw X (gU_wt G (Fw G A a h)) (mk4 A (F1 A a h) (sA_sn A) (F3 A a h) (F4 A a h) (sA_ck A))) → va_S Af s.heap H locs → lv_has ls 5 [(3, .int (nI h)), (2, .int (nI (cntT A a h))), (1, .int (nI a)), (0, .ref (gA_ad G 0))] → W p l e rm_T_tick s m args below meth c H locs 0 0 Q (F0 m 17 ls []) := by
  have hn := hI.1
  have hR := hI.2.1
  intro r
  induction r with
  | zero =>
    intro h H locs ls hh hP hD hS hl
    have hh : h = 4 := by omega
    subst hh
    refine lv_iload_n hx hb d_T_tick_17 rfl (lv_at hl 0 rfl) ?_
    refine lv_iconst (v := 4) hx hb d_T_tick_18 rfl ?_
    refine lv_icmp_ge (tgt := 88) hx hb d_T_tick_19 rfl (fun h19 => ?_) (fun h19 => ?_)
    ·
      obtain ⟨e1, e3, e4⟩ := F_4 (G := G) (A := A) (a := a)
      rw [e1, e3, e4] at hP hD
      rw [bec_4] at hl
      exact kont H locs ls hP hD hS (lv_sub hl [1, 2, 3] rfl)
    ·
      exact absurd (by decide) h19
  | succ r ih =>
    intro h H locs ls hh hP hD hS hl
    have hh4 : h < 4 := by omega
    refine lv_iload_n hx hb d_T_tick_17 rfl (lv_at hl 0 rfl) ?_
    refine lv_iconst (v := 4) hx hb d_T_tick_18 rfl ?_
    refine lv_icmp_ge (tgt := 88) hx hb d_T_tick_19 rfl (fun h19 => ?_) (fun h19 => ?_)
    ·
      exact absurd h19 (nI_ge (a := h) (b := 4) hh4 (by omega))
    ·
      refine lv_aload_n hx hb d_T_tick_22 rfl (lv_at hl 3 rfl) ?_
      refine lv_aload_n hx hb d_T_tick_23 rfl (lv_at hl 3 rfl) ?_
      refine va_get (D := X.1) (ci := 0) (C := R_ClusterTool) (T := F_ClusterTool) (N := 8) hx hb hts hin_ClusterTool hown hK.1 hP 0 cw_0 rfl 5 (by decide) (hts _ (wd_1 90 rfl rfl)) (fun _ h9 => h9) rfl d_T_tick_24 ?_
      refine lv_iload_n hx hb d_T_tick_27 rfl (lv_at hl 0 rfl) ?_
      refine va_iald hx hb hK.1 hP 6 0 cw_6 rfl (vp_in_nI (n := h) (by omega) (by omega)) d_T_tick_28 ?_
      rw [nI_clamp (n := h) (by omega)]
      refine va_csq (W.runV (As := [.int (gA_ins G h)]) (rest := []) ⟨hx, hb, hml, hown, hts⟩ (c_T_waferOf l X (gU_wt G (Fw G A a h)) (mk4 A (F1 A a h) (sA_sn A) (F3 A a h) (F4 A a h) (sA_ck A)) (gA_ins G h) (show sA_n A ≤ 25 from hn)) (cwV 1 hts (gV (wd_1 180 rfl rfl) (wd_1 182 rfl rfl) (wd_s 0 rfl) (wd_1 1 rfl rfl) (wd_1 183 rfl rfl)) rfl rfl rfl ⟨rfl, hd_T_waferOf⟩ ⟨Nat.le_of_ble_eq_true rfl, Nat.le_of_ble_eq_true rfl⟩) (vx_preV (P := PR X (gU_wt G (Fw G A a h)) (mk4 A (F1 A a h) (sA_sn A) (F3 A a h) (F4 A a h) (sA_ck A))) hP hK (va_recv hK.1 hP (ci := 0) rfl cw_0)) rfl rfl hl.1 rfl (lv_room (Nat.le_of_ble_eq_true rfl)) d_T_tick_29 ⟨Nat.zero_le _, Nat.zero_le _⟩) (fun r29 e29 => ?_)
      cases q29 : f_T_waferOf (mk4 A (F1 A a h) (sA_sn A) (F3 A a h) (F4 A a h) (sA_ck A)) (gA_ins G h) with
      | none =>
        have e29 : r29 = none := by rw [e29, q29]; rfl
        subst e29
        have hq0 : f_T_waferOf A (gA_ins G h) = none := q29
        refine lv_astoreN (lv' := [(4, .null), (3, .int (nI h)), (2, .int (nI (cntT A a h))), (1, .int (nI a)), (0, .ref (gA_ad G 0))]) hx hb d_T_tick_32 hl (by decide) rfl (fun ls hl => ?_)
        refine lv_aloadN hx hb d_T_tick_34 (lv_at hl 0 rfl) ?_
        refine lv_ifnullN (tgt := 82) hx hb d_T_tick_36 rfl ?_
        refine lv_iinc (k := 1) (v := (nI h + 1)) (lv' := [(3, .int (nI h + 1)), (4, .null), (2, .int (nI (cntT A a h))), (1, .int (nI a)), (0, .ref (gA_ad G 0))]) hx hb d_T_tick_82 hl rfl rfl (by decide) rfl (fun ls hl => ?_)
        refine lv_goto (tgt := 17) hx hb d_T_tick_85 rfl ?_
        have hno : ∀ j, sA_pl A j = h → act A j = false := by
          intro j hj
          cases hb : act A j with
          | false => rfl
          | true =>
            have h3 := act_iff.mp hb
            have h4 := inP_at hI.2.2.2.1 h3.1 (by omega)
            rw [hj, ← hC.1 h (by omega)] at h4
            rw [h4, waferOf_nI hn h3.1] at hq0
            cases hq0
        obtain ⟨e1, e3, e4, ew⟩ := F_same (G := G) (a := a) hno
        rw [← e1, ← e3, ← e4, ← ew] at hP hD
        exact ih (h + 1) H locs ls (by omega) hP hD hS (by rw [cntT_same (G := G) hno, ← nI_1]; exact lv_sub hl [0, 2, 3, 4] rfl)
      | some i29 =>
        have e29 : r29 = some (gA_ad G (18 + 4 * i29)) := by rw [e29, q29]; rfl
        subst e29
        have hli29 := waferOf_lt hn q29
        obtain ⟨hj1, hj2, hj3, hj4⟩ := SA_some hI hC (by omega) (show f_T_waferOf A (gA_ins G h) = some i29 from q29)
        have hwk := hI.2.2.1 i29 hj1
        refine lv_astore (lv' := [(4, .ref (gA_ad G (18 + 4 * i29))), (3, .int (nI h)), (2, .int (nI (cntT A a h))), (1, .int (nI a)), (0, .ref (gA_ad G 0))]) hx hb d_T_tick_32 hl (by decide) rfl (fun ls hl => ?_)
        refine lv_aload hx hb d_T_tick_34 (lv_at hl 0 rfl) ?_
        refine lv_ifnull hx hb d_T_tick_36 ?_
        refine lv_aload_n hx hb d_T_tick_39 rfl (lv_at hl 4 rfl) ?_
        refine va_get (D := X.1) (ci := 0) (C := R_ClusterTool) (T := F_ClusterTool) (N := 8) hx hb hts hin_ClusterTool hown hK.1 hP 0 cw_0 rfl 0 (by decide) (hts _ (wd_1 85 rfl rfl)) (fun _ h9 => h9) rfl d_T_tick_40 ?_
        refine lv_iload_n hx hb d_T_tick_43 rfl (lv_at hl 1 rfl) ?_
        refine vp_callSi (W.runV (As := [.int (nI h)]) (rest := []) ⟨hx, hb, hml, hown, hts⟩ (c_Y_isDown l X (gU_wt G (Fw G A a h)) (mk4 A (F1 A a h) (sA_sn A) (F3 A a h) (F4 A a h) (sA_ck A)) (nI h)) (cwV 1 hts (gV (wd_1 225 rfl rfl) (wd_1 190 rfl rfl) (wd_1 191 rfl rfl) (wd_1 2 rfl rfl) (wd_1 192 rfl rfl)) rfl rfl rfl ⟨rfl, hd_Y_isDown⟩ ⟨Nat.le_of_ble_eq_true rfl, Nat.le_of_ble_eq_true rfl⟩) (vx_preV (P := PR X (gU_wt G (Fw G A a h)) (mk4 A (F1 A a h) (sA_sn A) (F3 A a h) (F4 A a h) (sA_ck A))) hP hK (va_recv hK.1 hP (ci := 1) rfl cw_1)) rfl rfl hl.1 rfl (lv_room (Nat.le_of_ble_eq_true rfl)) d_T_tick_44 ⟨Nat.zero_le _, Nat.zero_le _⟩) (fun r44 e44 => ?_)
        subst e44
        refine lv_if_ne (tgt := 82) hx hb d_T_tick_47 rfl (fun h47 => ?_) (fun h47 => ?_)
        ·
          have h47 := b2i_t h47
          refine lv_iinc (k := 1) (v := (nI h + 1)) (lv' := [(3, .int (nI h + 1)), (4, .ref (gA_ad G (18 + 4 * i29))), (2, .int (nI (cntT A a h))), (1, .int (nI a)), (0, .ref (gA_ad G 0))]) hx hb d_T_tick_82 hl rfl rfl (by decide) rfl (fun ls hl => ?_)
          refine lv_goto (tgt := 17) hx hb d_T_tick_85 rfl ?_
          have hno : ∀ j, sA_pl A j = h → act A j = false := by
            intro j hj
            cases hb : act A j with
            | false => rfl
            | true =>
              have h3 := (act_iff.mp hb).2.2
              rw [hj, ← down_nI hR.2.2 (show h < 6 by omega)] at h3
              have h47 : f_Y_isDown A (nI h) = true := h47
              rw [h47] at h3
              cases h3
          obtain ⟨e1, e3, e4, ew⟩ := F_same (G := G) (a := a) hno
          rw [← e1, ← e3, ← e4, ← ew] at hP hD
          exact ih (h + 1) H locs ls (by omega) hP hD hS (by rw [cntT_same (G := G) hno, ← nI_1]; exact lv_sub hl [0, 2, 3, 4] rfl)
        ·
          have h47 := b2i_f h47
          have hact : act A i29 = true := act_iff.mpr ⟨hj1, by omega, by rw [hj2, ← down_nI hR.2.2 (show h < 6 by omega)]; exact h47⟩
          refine lv_aload hx hb d_T_tick_50 (lv_at hl 0 rfl) ?_
          refine lv_iload_n hx hb d_T_tick_52 rfl (lv_at hl 3 rfl) ?_
          refine lv_aload_n hx hb d_T_tick_53 rfl (lv_at hl 4 rfl) ?_
          refine va_get (D := X.1) (ci := 0) (C := R_ClusterTool) (T := F_ClusterTool) (N := 8) hx hb hts hin_ClusterTool hown hK.1 hP 0 cw_0 rfl 7 (by decide) (hts _ (wd_1 92 rfl rfl)) (fun _ h9 => h9) rfl d_T_tick_54 ?_
          refine va_callv (va_runV (As := [.int (nI a), .int (sA_ck A)]) (rest := []) ⟨hx, hb, hml, hown, hts⟩ (c_W_spend l X (gU_wt G (Fw G A a h)) (mk4 A (F1 A a h) (sA_sn A) (F3 A a h) (F4 A a h) (sA_ck A)) Af i29 hli29 a (sA_ck A) (show sA_sg A i29 ≤ 3 by have := hR.1 (sA_rt A i29); have := hwk.2.1; omega) (show F1 A a h i29 ≤ 100 by unfold F1; rw [if_neg (by omega)]; exact hwk.2.2.2.1) ha2) (cwV 2 hts (gV (wd_2 79 rfl rfl) (wd_2 80 rfl rfl) (wd_2 81 rfl rfl) (wd_1 7 rfl rfl) (wd_2 82 rfl rfl)) rfl rfl rfl ⟨rfl, hd_W_spend⟩ ⟨Nat.le_of_ble_eq_true rfl, Nat.le_of_ble_eq_true rfl⟩) (vx_preV (P := PW X Af (gU_wt G (Fw G A a h)) (mk4 A (F1 A a h) (sA_sn A) (F3 A a h) (F4 A a h) (sA_ck A))) ⟨hP, hD⟩ hK (va_recv hK.1 hP (ci := 5) rfl (cw_w hli29))) rfl rfl hl.1 rfl (lv_room (Nat.le_of_ble_eq_true rfl)) d_T_tick_57 ⟨Nat.zero_le _, Nat.zero_le _⟩) hS (fun q _ h => h) (fun q h => h) (fun u57 t57 H locs ht hvm hu57 hB hz hk hS => ?_)
          obtain ⟨hP, hD⟩ := hB
          rw [ht] at hP
          replace hu57 := hu57.trans (spend_eq (G := G) hI hact hj2 ha2)
          subst hu57
          have hP : va_P X.1 classes (cw X (gU_wt G (Fw G A a (h + 1))) (mk4 A (F1 A a (h + 1)) (sA_sn A) (F3 A a (h + 1)) (F4 A a h) (sA_ck A))) H := hP
          have hD : va_D Af (cw X (gU_wt G (Fw G A a (h + 1))) (mk4 A (F1 A a (h + 1)) (sA_sn A) (F3 A a (h + 1)) (F4 A a h) (sA_ck A))) := hD
          refine lv_iload_n hx hb d_T_tick_60 rfl (lv_at hl 2 rfl) ?_
          refine lv_aload hx hb d_T_tick_61 (lv_at hl 0 rfl) ?_
          refine lv_aload_n hx hb d_T_tick_63 rfl (lv_at hl 4 rfl) ?_
          refine lv_aload hx hb d_T_tick_64 (lv_at hl 0 rfl) ?_
          refine vp_callSi (W.runV (As := [.ref (gA_ad G (18 + 4 * i29))]) (rest := [.ref (gA_ad G (18 + 4 * i29)), .int (nI (cntT A a h))]) ⟨hx, hb, hml, hown, hts⟩ (c_T_limitOf l X (gU_wt G (Fw G A a (h + 1))) (mk4 A (F1 A a (h + 1)) (sA_sn A) (F3 A a (h + 1)) (F4 A a h) (sA_ck A)) i29 hli29 (show rOk A from hR)) (cwV 1 hts (gV (wd_2 59 rfl rfl) (wd_2 61 rfl rfl) (wd_s 10 rfl) (wd_1 1 rfl rfl) (wd_2 62 rfl rfl)) rfl rfl rfl ⟨rfl, hd_T_limitOf⟩ ⟨Nat.le_of_ble_eq_true rfl, Nat.le_of_ble_eq_true rfl⟩) (vx_preV (P := PR X (gU_wt G (Fw G A a (h + 1))) (mk4 A (F1 A a (h + 1)) (sA_sn A) (F3 A a (h + 1)) (F4 A a h) (sA_ck A))) hP hK (va_recv hK.1 hP (ci := 0) rfl cw_0)) rfl rfl hl.1 rfl (lv_room (Nat.le_of_ble_eq_true rfl)) d_T_tick_66 ⟨Nat.zero_le _, Nat.zero_le _⟩) (fun r66 e66 => ?_)
          subst e66
          refine lv_topi (fun z66 ez => ?_)
          have ez : z66 = nI (lmt A i29) := ez.trans (limitOf_nI (A := A) hI hj1 (by omega))
          subst ez
          refine va_calli (va_runV (As := [.int (nI (lmt A i29))]) (rest := [.int (nI (cntT A a h))]) ⟨hx, hb, hml, hown, hts⟩ (c_W_turnsLate l X (gU_wt G (Fw G A a (h + 1))) (mk4 A (F1 A a (h + 1)) (sA_sn A) (F3 A a (h + 1)) (F4 A a h) (sA_ck A)) Af i29 hli29 (nI (lmt A i29))) (cwV 1 hts (gV (wd_2 86 rfl rfl) (wd_2 87 rfl rfl) (wd_2 88 rfl rfl) (wd_1 7 rfl rfl) (wd_2 89 rfl rfl)) rfl rfl rfl ⟨rfl, hd_W_turnsLate⟩ ⟨Nat.le_of_ble_eq_true rfl, Nat.le_of_ble_eq_true rfl⟩) (vx_preV (P := PW X Af (gU_wt G (Fw G A a (h + 1))) (mk4 A (F1 A a (h + 1)) (sA_sn A) (F3 A a (h + 1)) (F4 A a h) (sA_ck A))) ⟨hP, hD⟩ hK (va_recv hK.1 hP (ci := 5) rfl (cw_w hli29))) rfl rfl hl.1 rfl (lv_room (Nat.le_of_ble_eq_true rfl)) d_T_tick_69 ⟨Nat.zero_le _, Nat.zero_le _⟩) hS (fun q _ h => h) (fun q h => h) (fun r69 u69 t69 H locs ht hvm hu69 hB hz hk hS => ?_)
          obtain ⟨hP, hD⟩ := hB
          rw [ht] at hP
          obtain ⟨t1, t2⟩ := turn_eq (G := G) (a := a) hI hC hBd hact hj2 ha2
          obtain ⟨e69, hu69⟩ := hu69
          replace e69 := e69.trans (congrArg b2i t1)
          replace hu69 := hu69.trans t2
          subst e69
          subst hu69
          have hP : va_P X.1 classes (cw X (gU_wt G (Fw G A a (h + 1))) (mk4 A (F1 A a (h + 1)) (sA_sn A) (F3 A a (h + 1)) (F4 A a (h + 1)) (sA_ck A))) H := hP
          have hD : va_D Af (cw X (gU_wt G (Fw G A a (h + 1))) (mk4 A (F1 A a (h + 1)) (sA_sn A) (F3 A a (h + 1)) (F4 A a (h + 1)) (sA_ck A))) := hD
          refine lv_if_eq (tgt := 79) hx hb d_T_tick_72 rfl (fun h72 => ?_) (fun h72 => ?_)
          ·
            have h72 := b2i_f h72
            refine lv_iconst (v := 0) hx hb d_T_tick_79 rfl ?_
            refine lv_iadd hx hb d_T_tick_80 ?_
            refine lv_istore_n (lv' := [(2, .int ((nI (cntT A a h)) + 0)), (4, .ref (gA_ad G (18 + 4 * i29))), (3, .int (nI h)), (1, .int (nI a)), (0, .ref (gA_ad G 0))]) hx hb d_T_tick_81 rfl hl (by decide) rfl (fun ls hl => ?_)
            refine lv_iinc (k := 2) (v := (nI h + 1)) (lv' := [(3, .int (nI h + 1)), (2, .int ((nI (cntT A a h)) + 0)), (4, .ref (gA_ad G (18 + 4 * i29))), (1, .int (nI a)), (0, .ref (gA_ad G 0))]) hx hb d_T_tick_82 hl rfl rfl (by decide) rfl (fun ls hl => ?_)
            refine lv_goto (tgt := 17) hx hb d_T_tick_85 rfl ?_
            exact ih (h + 1) H locs ls (by omega) hP hD hS (by rw [(show nI (cntT A a (h + 1)) = nI (cntT A a h) + 0 by rw [cntT_step (G := G) hI hact hj2, if_neg (nt_of h72)]; rw [Int32.add_zero, Nat.add_zero]), ← nI_1]; exact lv_sub hl [0, 1, 3, 4] rfl)
          ·
            have h72 := b2i_t h72
            refine lv_iconst (v := 1) hx hb d_T_tick_75 rfl ?_
            refine lv_goto (tgt := 80) hx hb d_T_tick_76 rfl ?_
            refine lv_iadd hx hb d_T_tick_80 ?_
            refine lv_istore_n (lv' := [(2, .int ((nI (cntT A a h)) + 1)), (4, .ref (gA_ad G (18 + 4 * i29))), (3, .int (nI h)), (1, .int (nI a)), (0, .ref (gA_ad G 0))]) hx hb d_T_tick_81 rfl hl (by decide) rfl (fun ls hl => ?_)
            refine lv_iinc (k := 2) (v := (nI h + 1)) (lv' := [(3, .int (nI h + 1)), (2, .int ((nI (cntT A a h)) + 1)), (4, .ref (gA_ad G (18 + 4 * i29))), (1, .int (nI a)), (0, .ref (gA_ad G 0))]) hx hb d_T_tick_82 hl rfl rfl (by decide) rfl (fun ls hl => ?_)
            refine lv_goto (tgt := 17) hx hb d_T_tick_85 rfl ?_
            exact ih (h + 1) H locs ls (by omega) hP hD hS (by rw [(show nI (cntT A a (h + 1)) = nI (cntT A a h) + 1 by rw [cntT_step (G := G) hI hact hj2, if_pos h72]; rw [nI_1]), ← nI_1]; exact lv_sub hl [0, 1, 3, 4] rfl)
set_option maxRecDepth 20000 in
set_option maxHeartbeats 4000000 in
theorem c_T_tick (l : Launch) (X : Xt) (G : Gc) (A : St) (Af : Nat → Prop) (x : Int32) (hI : Inv A) (hC : RC G A) (hBd : snB A) : Met l y_T_tick (Cond.code y_T_tick b_T_tick 5 (some .int) :: WA) rm_T_tick (va_Pc [.ref (gA_ad G 0), .int x] (fun U => PW X Af G A U.heap ∧ KK X U)) (va_Qi (AP G (tickI A x) (tickS A x)) (atC X Af) Af) 0 0 Af := by
  refine vx_met (cc := b_T_tick) (maxL := 5) (ret := (some .int)) (by decide) rfl (Nat.le_of_ble_eq_true rfl) ?_
  intro p e s m below meth c ls hx hb hrt hts hown hlocks hname hml hB hl
  obtain ⟨hP, hK⟩ := hB
  have hown : s.vm.findClass R_ClusterTool = some m.cls := hown
  have hl : lv_has ls 5 [(0, .ref (gA_ad G 0)), (1, .int x)] := hl
  have hD : va_D Af (cw X G A) := hP.2
  have hP : va_P X.1 classes (cw X G A) s.heap := hP.1
  have hS : va_S Af s.heap s.heap [] := va_S.rf
  have hn := hI.1
  have hR := hI.2.1
  refine lv_iload_n hx hb d_T_tick_0 rfl (lv_at hl 1 rfl) ?_
  refine lv_iconst (v := 0) hx hb d_T_tick_1 rfl ?_
  refine lv_sipush (v := 200) hx hb d_T_tick_2 rfl ?_
  refine vp_callSi (W.runS (As := [.int x, .int 0, .int 200]) (rest := []) ⟨hx, hb, hml, hown, hts⟩ (c_T_isWithin l X x 0 200) (va_cwS 3 hts (gT (wd_1 121 rfl rfl) (wd_1 119 rfl rfl) (wd_1 1 rfl rfl) (wd_1 120 rfl rfl)) rfl rfl rfl hd_T_isWithin ⟨Nat.le_of_ble_eq_true rfl, Nat.le_of_ble_eq_true rfl⟩) (vx_preS (P := fun _ => True) trivial hK) rfl rfl hl.1 rfl (lv_room (Nat.le_of_ble_eq_true rfl)) d_T_tick_5 ⟨Nat.zero_le _, Nat.zero_le _⟩) (fun r5 e5 => ?_)
  subst e5
  refine lv_if_ne (tgt := 13) hx hb d_T_tick_8 rfl (fun h8 => ?_) (fun h8 => ?_)
  ·
    have h8 := b2i_t h8
    obtain ⟨a, -, ha2, rfl⟩ := within_n (m := 0) (n := 200) h8 rfl rfl
    refine lv_iconst (v := 0) hx hb d_T_tick_13 rfl ?_
    refine lv_istore_n (lv' := [(2, .int 0), (0, .ref (gA_ad G 0)), (1, .int (nI a))]) hx hb d_T_tick_14 rfl hl (by decide) rfl (fun ls hl => ?_)
    refine lv_iconst (v := 0) hx hb d_T_tick_15 rfl ?_
    refine lv_istore_n (lv' := [(3, .int 0), (2, .int 0), (0, .ref (gA_ad G 0)), (1, .int (nI a))]) hx hb d_T_tick_16 rfl hl (by decide) rfl (fun ls hl => ?_)
    have c0 : cntT A a 0 = 0 := by
      unfold cntT
      rw [F_0.2.2]
      exact cnt_none (fun i hi => by cases sA_la A i <;> rfl)
    replace hP := vx_P (show cw X G A = cw X (gU_wt G (Fw G A a 0)) (mk4 A (F1 A a 0) (sA_sn A) (F3 A a 0) (F4 A a 0) (sA_ck A)) by rw [F_0.1, F_0.2.1, F_0.2.2, Fw_0, mk4_id]) hP
    replace hD := vx_D (show cw X G A = cw X (gU_wt G (Fw G A a 0)) (mk4 A (F1 A a 0) (sA_sn A) (F3 A a 0) (F4 A a 0) (sA_ck A)) by rw [F_0.1, F_0.2.1, F_0.2.2, Fw_0, mk4_id]) hD
    refine lp_T_tick (G := G) (A := A) (a := a) hx hb hts hown hml hK hI hC hBd ha2 (fun H locs ls hP hD hS hl => ?_) 4 0 _ _ ls (by omega) hP hD hS (by rw [c0]; exact lv_sub hl [0, 1, 3, 2] rfl)
    replace hP := vx_P (cw_mk4 (g2 := tkSn A a)) hP
    replace hD := vx_D (cw_mk4 (g2 := tkSn A a)) hD
    refine lv_aload_n hx hb d_T_tick_88 rfl (lv_at hl 2 rfl) ?_
    refine lv_dup hx hb d_T_tick_89 rfl ?_
    refine va_get (D := X.1) (ci := 0) (C := R_ClusterTool) (T := F_ClusterTool) (N := 8) hx hb hts hin_ClusterTool hown hK.1 hP 0 cw_0 rfl 7 (by decide) (hts _ (wd_1 92 rfl rfl)) (fun _ h9 => h9) rfl d_T_tick_90 ?_
    refine lv_iload_n hx hb d_T_tick_93 rfl (lv_at hl 1 rfl) ?_
    refine lv_iadd hx hb d_T_tick_94 ?_
    refine va_put (D := X.1) (ci := 0) (v := .int (sA_ck A + nI a)) (ty := .int) (C := R_ClusterTool) (T := F_ClusterTool) (N := 8) hx hb hts hin_ClusterTool t_ClusterTool t_ClusterTool_ok n_ClusterTool hown hK.1 hP hD hS 0 cw_0 rfl 7 (by decide) (hts _ (wd_1 92 rfl rfl)) (fun _ h9 => h9) rfl (by decide +kernel) rfl rfl (Nat.le_of_ble_eq_true rfl) d_T_tick_95 (fun H locs hP hD hS => ?_)
    replace hP := vx_P (cw_s_ck (X := X) (G := (gU_wt G (Fw G A a 4))) (A := (mk4 A (tkLf A a) (tkSn A a) (tkEn A a) (tkLa A a) (sA_ck A))) (v := (sA_ck A + nI a))) hP
    replace hD := vx_D (cw_s_ck (X := X) (G := (gU_wt G (Fw G A a 4))) (A := (mk4 A (tkLf A a) (tkSn A a) (tkEn A a) (tkLa A a) (sA_ck A))) (v := (sA_ck A + nI a))) hD
    have hP : va_P X.1 classes (cw X (gU_wt G (Fw G A a 4)) (tickT A a)) H := hP
    have hD : va_D Af (cw X (gU_wt G (Fw G A a 4)) (tickT A a)) := hD
    refine lv_iload_n hx hb d_T_tick_98 rfl (lv_at hl 1 rfl) ?_
    refine lv_if_le (tgt := 118) hx hb d_T_tick_99 rfl (fun h99 => ?_) (fun h99 => ?_)
    ·
      refine lv_iload_n hx hb d_T_tick_118 rfl (lv_at hl 0 rfl) ?_
      have eT : tickS A (nI a) = (tickT A a) := by rw [(tick_at ha2).2, tickF, if_neg (show ¬ 0 < a from fun z => nI_nle z (by omega) h99)]
      exact W.iret (v := nI (becF A a)) hx hb hrt (fun t ht hW => ⟨⟨_, ((gU_wt G (Fw G A a 4)), (tickT A a)), rfl, ⟨(tick_at ha2).1.symm, eT.symm, (by rw [eT]; exact RC_tick hC ⟨rfl, rfl, rfl, rfl, rfl, rfl⟩), rfl⟩, ⟨by rw [ht]; exact hP, hD⟩⟩, hS.F ht⟩) hS.2.2 d_T_tick_119
    ·
      refine lv_aload_n hx hb d_T_tick_102 rfl (lv_at hl 2 rfl) ?_
      refine va_get (D := X.1) (ci := 0) (C := R_ClusterTool) (T := F_ClusterTool) (N := 8) hx hb hts hin_ClusterTool hown hK.1 hP 0 cw_0 rfl 2 (by decide) (hts _ (wd_1 87 rfl rfl)) (fun _ h9 => h9) rfl d_T_tick_103 ?_
      refine lv_iconst (v := 0) hx hb d_T_tick_106 rfl ?_
      refine va_putN (D := X.1) (ci := 3) (v := .int (b2i false)) (ty := .boolean) (C := R_Robot) (T := F_Robot) (N := 2) hx hb hts hin_Robot t_Robot t_Robot_ok n_Robot hown hK.1 hP hD hS 3 cw_3 rfl 0 (by decide) (va_Nw.use rfl (hK.2.1 _ (List.mem_of_getElem? (i := 5) rfl))) (fun _ h9 => h9) rfl (by decide +kernel) (b2i_nar _) (b2i_fit _) (Nat.le_of_ble_eq_true rfl) d_T_tick_107 (fun H locs hP hD hS => ?_)
      replace hP := vx_P (cw_s_fb (X := X) (G := (gU_wt G (Fw G A a 4))) (A := (tickT A a)) (v := false)) hP
      replace hD := vx_D (cw_s_fb (X := X) (G := (gU_wt G (Fw G A a 4))) (A := (tickT A a)) (v := false)) hD
      refine lv_aload_n hx hb d_T_tick_110 rfl (lv_at hl 2 rfl) ?_
      refine va_get (D := X.1) (ci := 0) (C := R_ClusterTool) (T := F_ClusterTool) (N := 8) hx hb hts hin_ClusterTool hown hK.1 hP 0 cw_0 rfl 3 (by decide) (hts _ (wd_1 88 rfl rfl)) (fun _ h9 => h9) rfl d_T_tick_111 ?_
      refine lv_iconst (v := 0) hx hb d_T_tick_114 rfl ?_
      refine va_putN (D := X.1) (ci := 3) (v := .int (b2i false)) (ty := .boolean) (C := R_Robot) (T := F_Robot) (N := 2) hx hb hts hin_Robot t_Robot t_Robot_ok n_Robot hown hK.1 hP hD hS 4 cw_4 rfl 0 (by decide) (va_Nw.use rfl (hK.2.1 _ (List.mem_of_getElem? (i := 5) rfl))) (fun _ h9 => h9) rfl (by decide +kernel) (b2i_nar _) (b2i_fit _) (Nat.le_of_ble_eq_true rfl) d_T_tick_115 (fun H locs hP hD hS => ?_)
      replace hP := vx_P (cw_s_bb (X := X) (G := (gU_wt G (Fw G A a 4))) (A := (sU_fb (tickT A a) false)) (v := false)) hP
      replace hD := vx_D (cw_s_bb (X := X) (G := (gU_wt G (Fw G A a 4))) (A := (sU_fb (tickT A a) false)) (v := false)) hD
      refine lv_iload_n hx hb d_T_tick_118 rfl (lv_at hl 0 rfl) ?_
      have eT : tickS A (nI a) = (sU_bb (sU_fb (tickT A a) false) false) := by rw [(tick_at ha2).2, tickF, if_pos (lf_pos h99)]
      exact W.iret (v := nI (becF A a)) hx hb hrt (fun t ht hW => ⟨⟨_, ((gU_wt G (Fw G A a 4)), (sU_bb (sU_fb (tickT A a) false) false)), rfl, ⟨(tick_at ha2).1.symm, eT.symm, (by rw [eT]; exact RC_tick hC ⟨rfl, rfl, rfl, rfl, rfl, rfl⟩), rfl⟩, ⟨by rw [ht]; exact hP, hD⟩⟩, hS.F ht⟩) hS.2.2 d_T_tick_119
  ·
    have h8 := b2i_f h8
    refine lv_iconst (v := (-1)) hx hb d_T_tick_11 rfl ?_
    exact W.iret (v := (-1)) hx hb hrt (fun t ht hW => ⟨⟨_, (G, A), rfl, ⟨(tick_bad h8).1.symm, (tick_bad h8).2.symm, (by rw [(tick_bad h8).2]; exact hC), rfl⟩, ⟨by rw [ht]; exact hP, hD⟩⟩, hS.F ht⟩) hS.2.2 d_T_tick_12
end
section
/-! Worlds that grow: a list behind a list. Own work. -/
theorem lwa {ws L : va_W} {c : Nat × va_E} (j : Nat) (h : L[j]? = some c) : (ws ++ L)[ws.length + j]? = some c := by
  rw [List.getElem?_append_right (by omega), Nat.add_sub_cancel_left]
  exact h
theorem lws {ws L : va_W} {c : Nat × va_E} {j : Nat} : (ws ++ L).set (ws.length + j) c = ws ++ L.set j c := by
  rw [List.set_append_right _ _ (by omega), Nat.add_sub_cancel_left]
theorem lwp {ws L : va_W} {c : Nat × va_E} {j : Nat} (h : ws[j]? = some c) : (ws ++ L)[j]? = some c := by
  rw [List.getElem?_append_left (List.getElem?_eq_some_iff.mp h).1]
  exact h
theorem lwq {ws L : va_W} {c d : Nat × va_E} {j : Nat} (h : ws[j]? = some d) : (ws ++ L).set j c = ws.set j c ++ L := List.set_append_left _ _ (List.getElem?_eq_some_iff.mp h).1
def PL (X : Xt) (Af : Nat → Prop) (ws : va_W) (h : Heap) : Prop := va_P X.1 classes ws h ∧ va_D Af ws ∧ ∀ q, h.size ≤ q → Af q
theorem K_int {X : Xt} {s : State} {cA : ClassId} {ty : FieldType} (h : va_K X.1 classes (tysX X ++ [(cA, ty)]) s) (hK : KK X s) (t : Nat) {c : ClassId} (ht : (tysX X)[t]? = some (c, ty)) : cA = c := by
  have h1 := (h.2 5 _ rfl).2
  have h2 := (hK.1.2 t _ ht).2
  cases ty with
  | object C =>
    obtain ⟨-, -, -, -, -, a⟩ := h1
    obtain ⟨-, -, -, -, -, b⟩ := h2
    exact Option.some.inj (a.symm.trans b)
  | _ => exact Option.some.inj (h1.symm.trans h2)
end
section
abbrev rm_B_init : Room := { frames := 1, cells := 0, slots := 0, locals := 40 }
set_option maxRecDepth 20000 in
set_option maxHeartbeats 4000000 in
theorem c_B_init (l : Launch) (X : Xt) (ws : va_W) (Af : Nat → Prop) (h0 : Nat) : Met l y_B_init (Cond.code y_B_init b_B_init 1 none :: WA) rm_B_init (va_Pc [.ref h0] (fun U => PL X Af (ws ++ [(h0, .inr (3, [.int 0, .int 0]))]) U.heap ∧ KK X U)) (va_Qv (fun u : Unit => True) (fun u t => va_P X.1 classes (ws ++ [(h0, .inr (3, [.int 0, .int 0]))]) t.heap ∧ va_D Af (ws ++ [(h0, .inr (3, [.int 0, .int 0]))])) Af) 0 0 Af := by
  refine vx_met (cc := b_B_init) (maxL := 1) (ret := none) (by decide) rfl (Nat.le_of_ble_eq_true rfl) ?_
  intro p e s m below meth c ls hx hb hrt hts hown hlocks hname hml hB hl
  obtain ⟨⟨hP, hD, hA⟩, hK⟩ := hB
  have hown : s.vm.findClass R_Robot = some m.cls := hown
  have hin : meth.name = "<init>" := hname
  have hl : lv_has ls 1 [(0, .ref h0)] := hl
  have hS : va_S Af s.heap s.heap [] := va_S.rf
  refine lv_aload_n hx hb d_B_init_0 rfl (lv_at hl 0 rfl) ?_
  refine W.objInit hx hb hown (hts _ (wd_1 73 rfl rfl)) (hts _ (wd_1 17 rfl rfl)) (hts _ (wd_1 18 rfl rfl)) rfl (by rw [hml]; exact hl.1) rfl d_B_init_1 (Nat.le_of_ble_eq_true rfl) (Nat.le_of_ble_eq_true rfl) ?_
  refine W.eq (g2 := F0 m 4 ls []) rfl ?_
  refine lv_aload_n hx hb d_B_init_4 rfl (lv_at hl 0 rfl) ?_
  refine lv_iconst (v := 0) hx hb d_B_init_5 rfl ?_
  refine va_put (D := X.1) (ci := 3) (v := .int 0) (ty := .boolean) (C := R_Robot) (T := F_Robot) (N := 2) hx hb hts hin_Robot t_Robot t_Robot_ok n_Robot hown hK.1 hP hD hS (ws.length + 0) (lwa 0 rfl) rfl 0 (by decide) (hts _ (wd_1 74 rfl rfl)) (fun _ h9 => h9) rfl (by decide +kernel) rfl rfl (Nat.le_of_ble_eq_true rfl) d_B_init_6 (fun H locs hP hD hS => ?_)
  replace hP := vx_P lws hP
  replace hD := vx_D lws hD
  have hP : va_P X.1 classes (ws ++ [(h0, .inr (3, [.int 0, .int 0]))]) H := hP
  have hD : va_D Af (ws ++ [(h0, .inr (3, [.int 0, .int 0]))]) := hD
  refine lv_aload_n hx hb d_B_init_9 rfl (lv_at hl 0 rfl) ?_
  refine lv_iconst (v := 0) hx hb d_B_init_10 rfl ?_
  refine va_put (D := X.1) (ci := 3) (v := .int 0) (ty := .int) (C := R_Robot) (T := F_Robot) (N := 2) hx hb hts hin_Robot t_Robot t_Robot_ok n_Robot hown hK.1 hP hD hS (ws.length + 0) (lwa 0 rfl) rfl 1 (by decide) (hts _ (wd_1 76 rfl rfl)) (fun _ h9 => h9) rfl (by decide +kernel) rfl rfl (Nat.le_of_ble_eq_true rfl) d_B_init_11 (fun H locs hP hD hS => ?_)
  replace hP := vx_P lws hP
  replace hD := vx_D lws hD
  have hP : va_P X.1 classes (ws ++ [(h0, .inr (3, [.int 0, .int 0]))]) H := hP
  have hD : va_D Af (ws ++ [(h0, .inr (3, [.int 0, .int 0]))]) := hD
  exact W.vret hx hb hrt (fun t ht hW => ⟨⟨(), rfl, trivial, ⟨by rw [ht]; exact hP, hD⟩⟩, hS.F ht⟩) hS.2.2 d_B_init_14
abbrev rm_U_init : Room := { frames := 1, cells := 3, slots := 9, locals := 40 }
set_option maxRecDepth 20000 in
set_option maxHeartbeats 4000000 in
theorem c_U_init (l : Launch) (X : Xt) (ws : va_W) (Af : Nat → Prop) (h0 : Nat) : Met l y_U_init (Cond.code y_U_init b_U_init 1 none :: WA) rm_U_init (va_Pc [.ref h0] (fun U => PL X Af (ws ++ [(h0, .inr (4, [.null, .null, .null, .int 0]))]) U.heap ∧ KK X U)) (va_Qv (fun u : Nat × Nat × Nat => True) (fun u t => va_P X.1 classes (ws ++ [(h0, .inr (4, [.ref u.1, .ref u.2.1, .ref u.2.2, .int 0])), (u.1, .inl (x_I X, aI 3 (fun _ => 0))), (u.2.1, .inl (x_I X, aI 3 (fun _ => 0))), (u.2.2, .inl (x_I X, aI 3 (fun _ => 0)))]) t.heap ∧ va_D Af (ws ++ [(h0, .inr (4, [.ref u.1, .ref u.2.1, .ref u.2.2, .int 0])), (u.1, .inl (x_I X, aI 3 (fun _ => 0))), (u.2.1, .inl (x_I X, aI 3 (fun _ => 0))), (u.2.2, .inl (x_I X, aI 3 (fun _ => 0)))])) Af) 3 9 Af := by
  refine vx_met (cc := b_U_init) (maxL := 1) (ret := none) (by decide) rfl (Nat.le_of_ble_eq_true rfl) ?_
  intro p e s m below meth c ls hx hb hrt hts hown hlocks hname hml hB hl
  obtain ⟨⟨hP, hD, hA⟩, hK⟩ := hB
  have hown : s.vm.findClass R_Route = some m.cls := hown
  have hin : meth.name = "<init>" := hname
  have hl : lv_has ls 1 [(0, .ref h0)] := hl
  have hS : va_S Af s.heap s.heap [] := va_S.rf
  refine lv_aload_n hx hb d_U_init_0 rfl (lv_at hl 0 rfl) ?_
  refine W.objInit hx hb hown (hts _ (wd_1 31 rfl rfl)) (hts _ (wd_1 17 rfl rfl)) (hts _ (wd_1 18 rfl rfl)) rfl (by rw [hml]; exact hl.1) rfl d_U_init_1 (Nat.le_of_ble_eq_true rfl) (Nat.le_of_ble_eq_true rfl) ?_
  refine W.eq (g2 := F0 m 4 ls []) rfl ?_
  refine lv_aload_n hx hb d_U_init_4 rfl (lv_at hl 0 rfl) ?_
  refine lv_iconst (v := 3) hx hb d_U_init_5 rfl ?_
  refine va_newa (ty := .int) (N' := 3) (a0 := aI 3 (fun _ => 0)) hx hb (hts _ (wd_1 46 rfl rfl)) rfl hK.1 hP hD hS hA (fun _ => rfl) (by decide) (by decide) (by decide) (by decide) (by decide) d_U_init_6 (fun q6 cA H hK9 hP hD hS => ?_)
  have eA := K_int hK9 hK 0 rfl
  subst eA
  replace hP := vx_P (List.append_assoc _ _ _) hP
  replace hD := vx_D (List.append_assoc _ _ _) hD
  have hP : va_P X.1 classes (ws ++ [(h0, .inr (4, [.null, .null, .null, .int 0])), (q6, .inl (x_I X, aI 3 (fun _ => 0)))]) H := hP
  have hD : va_D Af (ws ++ [(h0, .inr (4, [.null, .null, .null, .int 0])), (q6, .inl (x_I X, aI 3 (fun _ => 0)))]) := hD
  refine W.widen (k := 1) (n := 3) (by decide) (by decide) ?_
  refine va_putF (D := X.1) (ci := 4) (v := .ref q6) (ty := .array .int) (C := R_Route) (T := F_Route) (N := 4) hx hb hts hin_Route t_Route t_Route_ok n_Route hown hK.1 hP hD hS (ws.length + 0) (lwa 0 rfl) rfl 0 (by decide) (hts _ (wd_1 32 rfl rfl)) (fun _ h9 => h9) rfl hin rfl (by decide +kernel) rfl rfl (Nat.le_of_ble_eq_true rfl) d_U_init_8 (fun H locs hP hD hS => ?_)
  replace hP := vx_P lws hP
  replace hD := vx_D lws hD
  have hP : va_P X.1 classes (ws ++ [(h0, .inr (4, [.ref q6, .null, .null, .int 0])), (q6, .inl (x_I X, aI 3 (fun _ => 0)))]) H := hP
  have hD : va_D Af (ws ++ [(h0, .inr (4, [.ref q6, .null, .null, .int 0])), (q6, .inl (x_I X, aI 3 (fun _ => 0)))]) := hD
  refine lv_aload_n hx hb d_U_init_11 rfl (lv_at hl 0 rfl) ?_
  refine lv_iconst (v := 3) hx hb d_U_init_12 rfl ?_
  refine va_newa (ty := .int) (N' := 3) (a0 := aI 3 (fun _ => 0)) hx hb (hts _ (wd_1 46 rfl rfl)) rfl hK.1 hP hD hS hA (fun _ => rfl) (by decide) (by decide) (by decide) (by decide) (by decide) d_U_init_13 (fun q13 cA H hK9 hP hD hS => ?_)
  have eA := K_int hK9 hK 0 rfl
  subst eA
  replace hP := vx_P (List.append_assoc _ _ _) hP
  replace hD := vx_D (List.append_assoc _ _ _) hD
  have hP : va_P X.1 classes (ws ++ [(h0, .inr (4, [.ref q6, .null, .null, .int 0])), (q6, .inl (x_I X, aI 3 (fun _ => 0))), (q13, .inl (x_I X, aI 3 (fun _ => 0)))]) H := hP
  have hD : va_D Af (ws ++ [(h0, .inr (4, [.ref q6, .null, .null, .int 0])), (q6, .inl (x_I X, aI 3 (fun _ => 0))), (q13, .inl (x_I X, aI 3 (fun _ => 0)))]) := hD
  refine W.widen (k := 2) (n := 6) (by decide) (by decide) ?_
  refine va_putF (D := X.1) (ci := 4) (v := .ref q13) (ty := .array .int) (C := R_Route) (T := F_Route) (N := 4) hx hb hts hin_Route t_Route t_Route_ok n_Route hown hK.1 hP hD hS (ws.length + 0) (lwa 0 rfl) rfl 1 (by decide) (hts _ (wd_1 33 rfl rfl)) (fun _ h9 => h9) rfl hin rfl (by decide +kernel) rfl rfl (Nat.le_of_ble_eq_true rfl) d_U_init_15 (fun H locs hP hD hS => ?_)
  replace hP := vx_P lws hP
  replace hD := vx_D lws hD
  have hP : va_P X.1 classes (ws ++ [(h0, .inr (4, [.ref q6, .ref q13, .null, .int 0])), (q6, .inl (x_I X, aI 3 (fun _ => 0))), (q13, .inl (x_I X, aI 3 (fun _ => 0)))]) H := hP
  have hD : va_D Af (ws ++ [(h0, .inr (4, [.ref q6, .ref q13, .null, .int 0])), (q6, .inl (x_I X, aI 3 (fun _ => 0))), (q13, .inl (x_I X, aI 3 (fun _ => 0)))]) := hD
  refine lv_aload_n hx hb d_U_init_18 rfl (lv_at hl 0 rfl) ?_
  refine lv_iconst (v := 3) hx hb d_U_init_19 rfl ?_
  refine va_newa (ty := .int) (N' := 3) (a0 := aI 3 (fun _ => 0)) hx hb (hts _ (wd_1 46 rfl rfl)) rfl hK.1 hP hD hS hA (fun _ => rfl) (by decide) (by decide) (by decide) (by decide) (by decide) d_U_init_20 (fun q20 cA H hK9 hP hD hS => ?_)
  have eA := K_int hK9 hK 0 rfl
  subst eA
  replace hP := vx_P (List.append_assoc _ _ _) hP
  replace hD := vx_D (List.append_assoc _ _ _) hD
  have hP : va_P X.1 classes (ws ++ [(h0, .inr (4, [.ref q6, .ref q13, .null, .int 0])), (q6, .inl (x_I X, aI 3 (fun _ => 0))), (q13, .inl (x_I X, aI 3 (fun _ => 0))), (q20, .inl (x_I X, aI 3 (fun _ => 0)))]) H := hP
  have hD : va_D Af (ws ++ [(h0, .inr (4, [.ref q6, .ref q13, .null, .int 0])), (q6, .inl (x_I X, aI 3 (fun _ => 0))), (q13, .inl (x_I X, aI 3 (fun _ => 0))), (q20, .inl (x_I X, aI 3 (fun _ => 0)))]) := hD
  refine W.widen (k := 3) (n := 9) (by decide) (by decide) ?_
  refine va_putF (D := X.1) (ci := 4) (v := .ref q20) (ty := .array .int) (C := R_Route) (T := F_Route) (N := 4) hx hb hts hin_Route t_Route t_Route_ok n_Route hown hK.1 hP hD hS (ws.length + 0) (lwa 0 rfl) rfl 2 (by decide) (hts _ (wd_1 34 rfl rfl)) (fun _ h9 => h9) rfl hin rfl (by decide +kernel) rfl rfl (Nat.le_of_ble_eq_true rfl) d_U_init_22 (fun H locs hP hD hS => ?_)
  replace hP := vx_P lws hP
  replace hD := vx_D lws hD
  have hP : va_P X.1 classes (ws ++ [(h0, .inr (4, [.ref q6, .ref q13, .ref q20, .int 0])), (q6, .inl (x_I X, aI 3 (fun _ => 0))), (q13, .inl (x_I X, aI 3 (fun _ => 0))), (q20, .inl (x_I X, aI 3 (fun _ => 0)))]) H := hP
  have hD : va_D Af (ws ++ [(h0, .inr (4, [.ref q6, .ref q13, .ref q20, .int 0])), (q6, .inl (x_I X, aI 3 (fun _ => 0))), (q13, .inl (x_I X, aI 3 (fun _ => 0))), (q20, .inl (x_I X, aI 3 (fun _ => 0)))]) := hD
  refine lv_aload_n hx hb d_U_init_25 rfl (lv_at hl 0 rfl) ?_
  refine lv_iconst (v := 0) hx hb d_U_init_26 rfl ?_
  refine va_put (D := X.1) (ci := 4) (v := .int 0) (ty := .int) (C := R_Route) (T := F_Route) (N := 4) hx hb hts hin_Route t_Route t_Route_ok n_Route hown hK.1 hP hD hS (ws.length + 0) (lwa 0 rfl) rfl 3 (by decide) (hts _ (wd_1 35 rfl rfl)) (fun _ h9 => h9) rfl (by decide +kernel) rfl rfl (Nat.le_of_ble_eq_true rfl) d_U_init_27 (fun H locs hP hD hS => ?_)
  replace hP := vx_P lws hP
  replace hD := vx_D lws hD
  have hP : va_P X.1 classes (ws ++ [(h0, .inr (4, [.ref q6, .ref q13, .ref q20, .int 0])), (q6, .inl (x_I X, aI 3 (fun _ => 0))), (q13, .inl (x_I X, aI 3 (fun _ => 0))), (q20, .inl (x_I X, aI 3 (fun _ => 0)))]) H := hP
  have hD : va_D Af (ws ++ [(h0, .inr (4, [.ref q6, .ref q13, .ref q20, .int 0])), (q6, .inl (x_I X, aI 3 (fun _ => 0))), (q13, .inl (x_I X, aI 3 (fun _ => 0))), (q20, .inl (x_I X, aI 3 (fun _ => 0)))]) := hD
  exact W.vret hx hb hrt (fun t ht hW => ⟨⟨(q6, q13, q20), rfl, trivial, ⟨by rw [ht]; exact hP, hD⟩⟩, hS.F ht⟩) hS.2.2 d_U_init_30
abbrev rm_E_init : Room := { frames := 1, cells := 2, slots := 2048, locals := 40 }
set_option maxRecDepth 20000 in
set_option maxHeartbeats 4000000 in
theorem c_E_init (l : Launch) (X : Xt) (ws : va_W) (Af : Nat → Prop) (h0 : Nat) : Met l y_E_init (Cond.code y_E_init b_E_init 1 none :: WA) rm_E_init (va_Pc [.ref h0] (fun U => PL X Af (ws ++ [(h0, .inr (2, [.null, .null]))]) U.heap ∧ KK X U)) (va_Qv (fun u : Nat × Nat => True) (fun u t => va_P X.1 classes (ws ++ [(h0, .inr (2, [.ref u.1, .ref u.2])), (u.1, .inl (x_J X, aJ 1024 (fun _ => 0))), (u.2, .inl (x_J X, aJ 1024 (fun _ => 0)))]) t.heap ∧ va_D Af (ws ++ [(h0, .inr (2, [.ref u.1, .ref u.2])), (u.1, .inl (x_J X, aJ 1024 (fun _ => 0))), (u.2, .inl (x_J X, aJ 1024 (fun _ => 0)))])) Af) 2 2048 Af := by
  refine vx_met (cc := b_E_init) (maxL := 1) (ret := none) (by decide) rfl (Nat.le_of_ble_eq_true rfl) ?_
  intro p e s m below meth c ls hx hb hrt hts hown hlocks hname hml hB hl
  obtain ⟨⟨hP, hD, hA⟩, hK⟩ := hB
  have hown : s.vm.findClass R_Emptying = some m.cls := hown
  have hin : meth.name = "<init>" := hname
  have hl : lv_has ls 1 [(0, .ref h0)] := hl
  have hS : va_S Af s.heap s.heap [] := va_S.rf
  refine lv_aload_n hx hb d_E_init_0 rfl (lv_at hl 0 rfl) ?_
  refine W.objInit hx hb hown (hts _ (wd_1 59 rfl rfl)) (hts _ (wd_1 17 rfl rfl)) (hts _ (wd_1 18 rfl rfl)) rfl (by rw [hml]; exact hl.1) rfl d_E_init_1 (Nat.le_of_ble_eq_true rfl) (Nat.le_of_ble_eq_true rfl) ?_
  refine W.eq (g2 := F0 m 4 ls []) rfl ?_
  refine lv_aload_n hx hb d_E_init_4 rfl (lv_at hl 0 rfl) ?_
  refine lv_sipush (v := 1024) hx hb d_E_init_5 rfl ?_
  refine va_newa (ty := .long) (N' := 1024) (a0 := aJ 1024 (fun _ => 0)) hx hb (hts _ (wd_1 67 rfl rfl)) rfl hK.1 hP hD hS hA (fun _ => rfl) (by decide) (by decide) (by decide) (by decide) (by decide) d_E_init_8 (fun q8 cA H hK9 hP hD hS => ?_)
  have eA := K_int hK9 hK 1 rfl
  subst eA
  replace hP := vx_P (List.append_assoc _ _ _) hP
  replace hD := vx_D (List.append_assoc _ _ _) hD
  have hP : va_P X.1 classes (ws ++ [(h0, .inr (2, [.null, .null])), (q8, .inl (x_J X, aJ 1024 (fun _ => 0)))]) H := hP
  have hD : va_D Af (ws ++ [(h0, .inr (2, [.null, .null])), (q8, .inl (x_J X, aJ 1024 (fun _ => 0)))]) := hD
  refine W.widen (k := 1) (n := 1024) (by decide) (by decide) ?_
  refine va_putF (D := X.1) (ci := 2) (v := .ref q8) (ty := .array .long) (C := R_Emptying) (T := F_Emptying) (N := 2) hx hb hts hin_Emptying t_Emptying t_Emptying_ok n_Emptying hown hK.1 hP hD hS (ws.length + 0) (lwa 0 rfl) rfl 0 (by decide) (hts _ (wd_1 60 rfl rfl)) (fun _ h9 => h9) rfl hin rfl (by decide +kernel) rfl rfl (Nat.le_of_ble_eq_true rfl) d_E_init_10 (fun H locs hP hD hS => ?_)
  replace hP := vx_P lws hP
  replace hD := vx_D lws hD
  have hP : va_P X.1 classes (ws ++ [(h0, .inr (2, [.ref q8, .null])), (q8, .inl (x_J X, aJ 1024 (fun _ => 0)))]) H := hP
  have hD : va_D Af (ws ++ [(h0, .inr (2, [.ref q8, .null])), (q8, .inl (x_J X, aJ 1024 (fun _ => 0)))]) := hD
  refine lv_aload_n hx hb d_E_init_13 rfl (lv_at hl 0 rfl) ?_
  refine lv_sipush (v := 1024) hx hb d_E_init_14 rfl ?_
  refine va_newa (ty := .long) (N' := 1024) (a0 := aJ 1024 (fun _ => 0)) hx hb (hts _ (wd_1 67 rfl rfl)) rfl hK.1 hP hD hS hA (fun _ => rfl) (by decide) (by decide) (by decide) (by decide) (by decide) d_E_init_17 (fun q17 cA H hK9 hP hD hS => ?_)
  have eA := K_int hK9 hK 1 rfl
  subst eA
  replace hP := vx_P (List.append_assoc _ _ _) hP
  replace hD := vx_D (List.append_assoc _ _ _) hD
  have hP : va_P X.1 classes (ws ++ [(h0, .inr (2, [.ref q8, .null])), (q8, .inl (x_J X, aJ 1024 (fun _ => 0))), (q17, .inl (x_J X, aJ 1024 (fun _ => 0)))]) H := hP
  have hD : va_D Af (ws ++ [(h0, .inr (2, [.ref q8, .null])), (q8, .inl (x_J X, aJ 1024 (fun _ => 0))), (q17, .inl (x_J X, aJ 1024 (fun _ => 0)))]) := hD
  refine W.widen (k := 2) (n := 2048) (by decide) (by decide) ?_
  refine va_putF (D := X.1) (ci := 2) (v := .ref q17) (ty := .array .long) (C := R_Emptying) (T := F_Emptying) (N := 2) hx hb hts hin_Emptying t_Emptying t_Emptying_ok n_Emptying hown hK.1 hP hD hS (ws.length + 0) (lwa 0 rfl) rfl 1 (by decide) (hts _ (wd_1 61 rfl rfl)) (fun _ h9 => h9) rfl hin rfl (by decide +kernel) rfl rfl (Nat.le_of_ble_eq_true rfl) d_E_init_19 (fun H locs hP hD hS => ?_)
  replace hP := vx_P lws hP
  replace hD := vx_D lws hD
  have hP : va_P X.1 classes (ws ++ [(h0, .inr (2, [.ref q8, .ref q17])), (q8, .inl (x_J X, aJ 1024 (fun _ => 0))), (q17, .inl (x_J X, aJ 1024 (fun _ => 0)))]) H := hP
  have hD : va_D Af (ws ++ [(h0, .inr (2, [.ref q8, .ref q17])), (q8, .inl (x_J X, aJ 1024 (fun _ => 0))), (q17, .inl (x_J X, aJ 1024 (fun _ => 0)))]) := hD
  exact W.vret hx hb hrt (fun t ht hW => ⟨⟨(q8, q17), rfl, trivial, ⟨by rw [ht]; exact hP, hD⟩⟩, hS.F ht⟩) hS.2.2 d_E_init_22
abbrev rm_W_init : Room := { frames := 1, cells := 3, slots := 9, locals := 40 }
set_option maxRecDepth 20000 in
set_option maxHeartbeats 4000000 in
theorem c_W_init (l : Launch) (X : Xt) (ws : va_W) (Af : Nat → Prop) (h0 : Nat) (x : Int32) (b : Bool) : Met l y_W_init (Cond.code y_W_init b_W_init 3 none :: WA) rm_W_init (va_Pc [.ref h0, .int x, .int (b2i b)] (fun U => PL X Af (ws ++ [(h0, .inr (5, [.int 0, .null, .null, .null, .int 0, .int 0, .int 0, .int 0, .int 0, .int 0]))]) U.heap ∧ KK X U)) (va_Qv (fun u : Nat × Nat × Nat => True) (fun u t => va_P X.1 classes (ws ++ [(h0, .inr (5, [.int x, .ref u.1, .ref u.2.1, .ref u.2.2, .int 5, .int 0, .int 0, .int 0, .int (b2i b), .int 0])), (u.1, .inl (x_I X, aI 3 (fun _ => 0))), (u.2.1, .inl (x_I X, aI 3 (fun _ => 0))), (u.2.2, .inl (x_I X, aI 3 (fun _ => 0)))]) t.heap ∧ va_D Af (ws ++ [(h0, .inr (5, [.int x, .ref u.1, .ref u.2.1, .ref u.2.2, .int 5, .int 0, .int 0, .int 0, .int (b2i b), .int 0])), (u.1, .inl (x_I X, aI 3 (fun _ => 0))), (u.2.1, .inl (x_I X, aI 3 (fun _ => 0))), (u.2.2, .inl (x_I X, aI 3 (fun _ => 0)))])) Af) 3 9 Af := by
  refine vx_met (cc := b_W_init) (maxL := 3) (ret := none) (by decide) rfl (Nat.le_of_ble_eq_true rfl) ?_
  intro p e s m below meth c ls hx hb hrt hts hown hlocks hname hml hB hl
  obtain ⟨⟨hP, hD, hA⟩, hK⟩ := hB
  have hown : s.vm.findClass R_Wafer = some m.cls := hown
  have hin : meth.name = "<init>" := hname
  have hl : lv_has ls 3 [(0, .ref h0), (1, .int x), (2, .int (b2i b))] := hl
  have hS : va_S Af s.heap s.heap [] := va_S.rf
  refine lv_aload_n hx hb d_W_init_0 rfl (lv_at hl 0 rfl) ?_
  refine W.objInit hx hb hown (hts _ (wd_1 134 rfl rfl)) (hts _ (wd_1 17 rfl rfl)) (hts _ (wd_1 18 rfl rfl)) rfl (by rw [hml]; exact hl.1) rfl d_W_init_1 (Nat.le_of_ble_eq_true rfl) (Nat.le_of_ble_eq_true rfl) ?_
  refine W.eq (g2 := F0 m 4 ls []) rfl ?_
  refine lv_aload_n hx hb d_W_init_4 rfl (lv_at hl 0 rfl) ?_
  refine lv_iconst (v := 3) hx hb d_W_init_5 rfl ?_
  refine va_newa (ty := .int) (N' := 3) (a0 := aI 3 (fun _ => 0)) hx hb (hts _ (wd_1 46 rfl rfl)) rfl hK.1 hP hD hS hA (fun _ => rfl) (by decide) (by decide) (by decide) (by decide) (by decide) d_W_init_6 (fun q6 cA H hK9 hP hD hS => ?_)
  have eA := K_int hK9 hK 0 rfl
  subst eA
  replace hP := vx_P (List.append_assoc _ _ _) hP
  replace hD := vx_D (List.append_assoc _ _ _) hD
  have hP : va_P X.1 classes (ws ++ [(h0, .inr (5, [.int 0, .null, .null, .null, .int 0, .int 0, .int 0, .int 0, .int 0, .int 0])), (q6, .inl (x_I X, aI 3 (fun _ => 0)))]) H := hP
  have hD : va_D Af (ws ++ [(h0, .inr (5, [.int 0, .null, .null, .null, .int 0, .int 0, .int 0, .int 0, .int 0, .int 0])), (q6, .inl (x_I X, aI 3 (fun _ => 0)))]) := hD
  refine W.widen (k := 1) (n := 3) (by decide) (by decide) ?_
  refine va_putF (D := X.1) (ci := 5) (v := .ref q6) (ty := .array .int) (C := R_Wafer) (T := F_Wafer) (N := 10) hx hb hts hin_Wafer t_Wafer t_Wafer_ok n_Wafer hown hK.1 hP hD hS (ws.length + 0) (lwa 0 rfl) rfl 1 (by decide) (hts _ (wd_1 137 rfl rfl)) (fun _ h9 => h9) rfl hin rfl (by decide +kernel) rfl rfl (Nat.le_of_ble_eq_true rfl) d_W_init_8 (fun H locs hP hD hS => ?_)
  replace hP := vx_P lws hP
  replace hD := vx_D lws hD
  have hP : va_P X.1 classes (ws ++ [(h0, .inr (5, [.int 0, .ref q6, .null, .null, .int 0, .int 0, .int 0, .int 0, .int 0, .int 0])), (q6, .inl (x_I X, aI 3 (fun _ => 0)))]) H := hP
  have hD : va_D Af (ws ++ [(h0, .inr (5, [.int 0, .ref q6, .null, .null, .int 0, .int 0, .int 0, .int 0, .int 0, .int 0])), (q6, .inl (x_I X, aI 3 (fun _ => 0)))]) := hD
  refine lv_aload_n hx hb d_W_init_11 rfl (lv_at hl 0 rfl) ?_
  refine lv_iconst (v := 3) hx hb d_W_init_12 rfl ?_
  refine va_newa (ty := .int) (N' := 3) (a0 := aI 3 (fun _ => 0)) hx hb (hts _ (wd_1 46 rfl rfl)) rfl hK.1 hP hD hS hA (fun _ => rfl) (by decide) (by decide) (by decide) (by decide) (by decide) d_W_init_13 (fun q13 cA H hK9 hP hD hS => ?_)
  have eA := K_int hK9 hK 0 rfl
  subst eA
  replace hP := vx_P (List.append_assoc _ _ _) hP
  replace hD := vx_D (List.append_assoc _ _ _) hD
  have hP : va_P X.1 classes (ws ++ [(h0, .inr (5, [.int 0, .ref q6, .null, .null, .int 0, .int 0, .int 0, .int 0, .int 0, .int 0])), (q6, .inl (x_I X, aI 3 (fun _ => 0))), (q13, .inl (x_I X, aI 3 (fun _ => 0)))]) H := hP
  have hD : va_D Af (ws ++ [(h0, .inr (5, [.int 0, .ref q6, .null, .null, .int 0, .int 0, .int 0, .int 0, .int 0, .int 0])), (q6, .inl (x_I X, aI 3 (fun _ => 0))), (q13, .inl (x_I X, aI 3 (fun _ => 0)))]) := hD
  refine W.widen (k := 2) (n := 6) (by decide) (by decide) ?_
  refine va_putF (D := X.1) (ci := 5) (v := .ref q13) (ty := .array .int) (C := R_Wafer) (T := F_Wafer) (N := 10) hx hb hts hin_Wafer t_Wafer t_Wafer_ok n_Wafer hown hK.1 hP hD hS (ws.length + 0) (lwa 0 rfl) rfl 2 (by decide) (hts _ (wd_1 139 rfl rfl)) (fun _ h9 => h9) rfl hin rfl (by decide +kernel) rfl rfl (Nat.le_of_ble_eq_true rfl) d_W_init_15 (fun H locs hP hD hS => ?_)
  replace hP := vx_P lws hP
  replace hD := vx_D lws hD
  have hP : va_P X.1 classes (ws ++ [(h0, .inr (5, [.int 0, .ref q6, .ref q13, .null, .int 0, .int 0, .int 0, .int 0, .int 0, .int 0])), (q6, .inl (x_I X, aI 3 (fun _ => 0))), (q13, .inl (x_I X, aI 3 (fun _ => 0)))]) H := hP
  have hD : va_D Af (ws ++ [(h0, .inr (5, [.int 0, .ref q6, .ref q13, .null, .int 0, .int 0, .int 0, .int 0, .int 0, .int 0])), (q6, .inl (x_I X, aI 3 (fun _ => 0))), (q13, .inl (x_I X, aI 3 (fun _ => 0)))]) := hD
  refine lv_aload_n hx hb d_W_init_18 rfl (lv_at hl 0 rfl) ?_
  refine lv_iconst (v := 3) hx hb d_W_init_19 rfl ?_
  refine va_newa (ty := .int) (N' := 3) (a0 := aI 3 (fun _ => 0)) hx hb (hts _ (wd_1 46 rfl rfl)) rfl hK.1 hP hD hS hA (fun _ => rfl) (by decide) (by decide) (by decide) (by decide) (by decide) d_W_init_20 (fun q20 cA H hK9 hP hD hS => ?_)
  have eA := K_int hK9 hK 0 rfl
  subst eA
  replace hP := vx_P (List.append_assoc _ _ _) hP
  replace hD := vx_D (List.append_assoc _ _ _) hD
  have hP : va_P X.1 classes (ws ++ [(h0, .inr (5, [.int 0, .ref q6, .ref q13, .null, .int 0, .int 0, .int 0, .int 0, .int 0, .int 0])), (q6, .inl (x_I X, aI 3 (fun _ => 0))), (q13, .inl (x_I X, aI 3 (fun _ => 0))), (q20, .inl (x_I X, aI 3 (fun _ => 0)))]) H := hP
  have hD : va_D Af (ws ++ [(h0, .inr (5, [.int 0, .ref q6, .ref q13, .null, .int 0, .int 0, .int 0, .int 0, .int 0, .int 0])), (q6, .inl (x_I X, aI 3 (fun _ => 0))), (q13, .inl (x_I X, aI 3 (fun _ => 0))), (q20, .inl (x_I X, aI 3 (fun _ => 0)))]) := hD
  refine W.widen (k := 3) (n := 9) (by decide) (by decide) ?_
  refine va_putF (D := X.1) (ci := 5) (v := .ref q20) (ty := .array .int) (C := R_Wafer) (T := F_Wafer) (N := 10) hx hb hts hin_Wafer t_Wafer t_Wafer_ok n_Wafer hown hK.1 hP hD hS (ws.length + 0) (lwa 0 rfl) rfl 3 (by decide) (hts _ (wd_1 141 rfl rfl)) (fun _ h9 => h9) rfl hin rfl (by decide +kernel) rfl rfl (Nat.le_of_ble_eq_true rfl) d_W_init_22 (fun H locs hP hD hS => ?_)
  replace hP := vx_P lws hP
  replace hD := vx_D lws hD
  have hP : va_P X.1 classes (ws ++ [(h0, .inr (5, [.int 0, .ref q6, .ref q13, .ref q20, .int 0, .int 0, .int 0, .int 0, .int 0, .int 0])), (q6, .inl (x_I X, aI 3 (fun _ => 0))), (q13, .inl (x_I X, aI 3 (fun _ => 0))), (q20, .inl (x_I X, aI 3 (fun _ => 0)))]) H := hP
  have hD : va_D Af (ws ++ [(h0, .inr (5, [.int 0, .ref q6, .ref q13, .ref q20, .int 0, .int 0, .int 0, .int 0, .int 0, .int 0])), (q6, .inl (x_I X, aI 3 (fun _ => 0))), (q13, .inl (x_I X, aI 3 (fun _ => 0))), (q20, .inl (x_I X, aI 3 (fun _ => 0)))]) := hD
  refine lv_aload_n hx hb d_W_init_25 rfl (lv_at hl 0 rfl) ?_
  refine lv_iconst (v := 5) hx hb d_W_init_26 rfl ?_
  refine va_put (D := X.1) (ci := 5) (v := .int 5) (ty := .int) (C := R_Wafer) (T := F_Wafer) (N := 10) hx hb hts hin_Wafer t_Wafer t_Wafer_ok n_Wafer hown hK.1 hP hD hS (ws.length + 0) (lwa 0 rfl) rfl 4 (by decide) (hts _ (wd_1 143 rfl rfl)) (fun _ h9 => h9) rfl (by decide +kernel) rfl rfl (Nat.le_of_ble_eq_true rfl) d_W_init_27 (fun H locs hP hD hS => ?_)
  replace hP := vx_P lws hP
  replace hD := vx_D lws hD
  have hP : va_P X.1 classes (ws ++ [(h0, .inr (5, [.int 0, .ref q6, .ref q13, .ref q20, .int 5, .int 0, .int 0, .int 0, .int 0, .int 0])), (q6, .inl (x_I X, aI 3 (fun _ => 0))), (q13, .inl (x_I X, aI 3 (fun _ => 0))), (q20, .inl (x_I X, aI 3 (fun _ => 0)))]) H := hP
  have hD : va_D Af (ws ++ [(h0, .inr (5, [.int 0, .ref q6, .ref q13, .ref q20, .int 5, .int 0, .int 0, .int 0, .int 0, .int 0])), (q6, .inl (x_I X, aI 3 (fun _ => 0))), (q13, .inl (x_I X, aI 3 (fun _ => 0))), (q20, .inl (x_I X, aI 3 (fun _ => 0)))]) := hD
  refine lv_aload_n hx hb d_W_init_30 rfl (lv_at hl 0 rfl) ?_
  refine lv_iconst (v := 0) hx hb d_W_init_31 rfl ?_
  refine va_put (D := X.1) (ci := 5) (v := .int 0) (ty := .int) (C := R_Wafer) (T := F_Wafer) (N := 10) hx hb hts hin_Wafer t_Wafer t_Wafer_ok n_Wafer hown hK.1 hP hD hS (ws.length + 0) (lwa 0 rfl) rfl 5 (by decide) (hts _ (wd_1 145 rfl rfl)) (fun _ h9 => h9) rfl (by decide +kernel) rfl rfl (Nat.le_of_ble_eq_true rfl) d_W_init_32 (fun H locs hP hD hS => ?_)
  replace hP := vx_P lws hP
  replace hD := vx_D lws hD
  have hP : va_P X.1 classes (ws ++ [(h0, .inr (5, [.int 0, .ref q6, .ref q13, .ref q20, .int 5, .int 0, .int 0, .int 0, .int 0, .int 0])), (q6, .inl (x_I X, aI 3 (fun _ => 0))), (q13, .inl (x_I X, aI 3 (fun _ => 0))), (q20, .inl (x_I X, aI 3 (fun _ => 0)))]) H := hP
  have hD : va_D Af (ws ++ [(h0, .inr (5, [.int 0, .ref q6, .ref q13, .ref q20, .int 5, .int 0, .int 0, .int 0, .int 0, .int 0])), (q6, .inl (x_I X, aI 3 (fun _ => 0))), (q13, .inl (x_I X, aI 3 (fun _ => 0))), (q20, .inl (x_I X, aI 3 (fun _ => 0)))]) := hD
  refine lv_aload_n hx hb d_W_init_35 rfl (lv_at hl 0 rfl) ?_
  refine lv_iconst (v := 0) hx hb d_W_init_36 rfl ?_
  refine va_put (D := X.1) (ci := 5) (v := .int 0) (ty := .int) (C := R_Wafer) (T := F_Wafer) (N := 10) hx hb hts hin_Wafer t_Wafer t_Wafer_ok n_Wafer hown hK.1 hP hD hS (ws.length + 0) (lwa 0 rfl) rfl 6 (by decide) (hts _ (wd_1 147 rfl rfl)) (fun _ h9 => h9) rfl (by decide +kernel) rfl rfl (Nat.le_of_ble_eq_true rfl) d_W_init_37 (fun H locs hP hD hS => ?_)
  replace hP := vx_P lws hP
  replace hD := vx_D lws hD
  have hP : va_P X.1 classes (ws ++ [(h0, .inr (5, [.int 0, .ref q6, .ref q13, .ref q20, .int 5, .int 0, .int 0, .int 0, .int 0, .int 0])), (q6, .inl (x_I X, aI 3 (fun _ => 0))), (q13, .inl (x_I X, aI 3 (fun _ => 0))), (q20, .inl (x_I X, aI 3 (fun _ => 0)))]) H := hP
  have hD : va_D Af (ws ++ [(h0, .inr (5, [.int 0, .ref q6, .ref q13, .ref q20, .int 5, .int 0, .int 0, .int 0, .int 0, .int 0])), (q6, .inl (x_I X, aI 3 (fun _ => 0))), (q13, .inl (x_I X, aI 3 (fun _ => 0))), (q20, .inl (x_I X, aI 3 (fun _ => 0)))]) := hD
  refine lv_aload_n hx hb d_W_init_40 rfl (lv_at hl 0 rfl) ?_
  refine lv_iconst (v := 0) hx hb d_W_init_41 rfl ?_
  refine va_put (D := X.1) (ci := 5) (v := .int 0) (ty := .int) (C := R_Wafer) (T := F_Wafer) (N := 10) hx hb hts hin_Wafer t_Wafer t_Wafer_ok n_Wafer hown hK.1 hP hD hS (ws.length + 0) (lwa 0 rfl) rfl 7 (by decide) (hts _ (wd_1 149 rfl rfl)) (fun _ h9 => h9) rfl (by decide +kernel) rfl rfl (Nat.le_of_ble_eq_true rfl) d_W_init_42 (fun H locs hP hD hS => ?_)
  replace hP := vx_P lws hP
  replace hD := vx_D lws hD
  have hP : va_P X.1 classes (ws ++ [(h0, .inr (5, [.int 0, .ref q6, .ref q13, .ref q20, .int 5, .int 0, .int 0, .int 0, .int 0, .int 0])), (q6, .inl (x_I X, aI 3 (fun _ => 0))), (q13, .inl (x_I X, aI 3 (fun _ => 0))), (q20, .inl (x_I X, aI 3 (fun _ => 0)))]) H := hP
  have hD : va_D Af (ws ++ [(h0, .inr (5, [.int 0, .ref q6, .ref q13, .ref q20, .int 5, .int 0, .int 0, .int 0, .int 0, .int 0])), (q6, .inl (x_I X, aI 3 (fun _ => 0))), (q13, .inl (x_I X, aI 3 (fun _ => 0))), (q20, .inl (x_I X, aI 3 (fun _ => 0)))]) := hD
  refine lv_aload_n hx hb d_W_init_45 rfl (lv_at hl 0 rfl) ?_
  refine lv_iconst (v := 0) hx hb d_W_init_46 rfl ?_
  refine va_put (D := X.1) (ci := 5) (v := .int 0) (ty := .boolean) (C := R_Wafer) (T := F_Wafer) (N := 10) hx hb hts hin_Wafer t_Wafer t_Wafer_ok n_Wafer hown hK.1 hP hD hS (ws.length + 0) (lwa 0 rfl) rfl 9 (by decide) (hts _ (wd_1 153 rfl rfl)) (fun _ h9 => h9) rfl (by decide +kernel) rfl rfl (Nat.le_of_ble_eq_true rfl) d_W_init_47 (fun H locs hP hD hS => ?_)
  replace hP := vx_P lws hP
  replace hD := vx_D lws hD
  have hP : va_P X.1 classes (ws ++ [(h0, .inr (5, [.int 0, .ref q6, .ref q13, .ref q20, .int 5, .int 0, .int 0, .int 0, .int 0, .int 0])), (q6, .inl (x_I X, aI 3 (fun _ => 0))), (q13, .inl (x_I X, aI 3 (fun _ => 0))), (q20, .inl (x_I X, aI 3 (fun _ => 0)))]) H := hP
  have hD : va_D Af (ws ++ [(h0, .inr (5, [.int 0, .ref q6, .ref q13, .ref q20, .int 5, .int 0, .int 0, .int 0, .int 0, .int 0])), (q6, .inl (x_I X, aI 3 (fun _ => 0))), (q13, .inl (x_I X, aI 3 (fun _ => 0))), (q20, .inl (x_I X, aI 3 (fun _ => 0)))]) := hD
  refine lv_aload_n hx hb d_W_init_50 rfl (lv_at hl 0 rfl) ?_
  refine lv_iload_n hx hb d_W_init_51 rfl (lv_at hl 1 rfl) ?_
  refine va_putF (D := X.1) (ci := 5) (v := .int x) (ty := .int) (C := R_Wafer) (T := F_Wafer) (N := 10) hx hb hts hin_Wafer t_Wafer t_Wafer_ok n_Wafer hown hK.1 hP hD hS (ws.length + 0) (lwa 0 rfl) rfl 0 (by decide) (hts _ (wd_1 135 rfl rfl)) (fun _ h9 => h9) rfl hin rfl (by decide +kernel) rfl rfl (Nat.le_of_ble_eq_true rfl) d_W_init_52 (fun H locs hP hD hS => ?_)
  replace hP := vx_P lws hP
  replace hD := vx_D lws hD
  have hP : va_P X.1 classes (ws ++ [(h0, .inr (5, [.int x, .ref q6, .ref q13, .ref q20, .int 5, .int 0, .int 0, .int 0, .int 0, .int 0])), (q6, .inl (x_I X, aI 3 (fun _ => 0))), (q13, .inl (x_I X, aI 3 (fun _ => 0))), (q20, .inl (x_I X, aI 3 (fun _ => 0)))]) H := hP
  have hD : va_D Af (ws ++ [(h0, .inr (5, [.int x, .ref q6, .ref q13, .ref q20, .int 5, .int 0, .int 0, .int 0, .int 0, .int 0])), (q6, .inl (x_I X, aI 3 (fun _ => 0))), (q13, .inl (x_I X, aI 3 (fun _ => 0))), (q20, .inl (x_I X, aI 3 (fun _ => 0)))]) := hD
  refine lv_aload_n hx hb d_W_init_55 rfl (lv_at hl 0 rfl) ?_
  refine lv_iload_n hx hb d_W_init_56 rfl (lv_at hl 2 rfl) ?_
  refine va_put (D := X.1) (ci := 5) (v := .int (b2i b)) (ty := .boolean) (C := R_Wafer) (T := F_Wafer) (N := 10) hx hb hts hin_Wafer t_Wafer t_Wafer_ok n_Wafer hown hK.1 hP hD hS (ws.length + 0) (lwa 0 rfl) rfl 8 (by decide) (hts _ (wd_1 151 rfl rfl)) (fun _ h9 => h9) rfl (by decide +kernel) (b2i_nar _) (b2i_fit _) (Nat.le_of_ble_eq_true rfl) d_W_init_57 (fun H locs hP hD hS => ?_)
  replace hP := vx_P lws hP
  replace hD := vx_D lws hD
  have hP : va_P X.1 classes (ws ++ [(h0, .inr (5, [.int x, .ref q6, .ref q13, .ref q20, .int 5, .int 0, .int 0, .int 0, .int (b2i b), .int 0])), (q6, .inl (x_I X, aI 3 (fun _ => 0))), (q13, .inl (x_I X, aI 3 (fun _ => 0))), (q20, .inl (x_I X, aI 3 (fun _ => 0)))]) H := hP
  have hD : va_D Af (ws ++ [(h0, .inr (5, [.int x, .ref q6, .ref q13, .ref q20, .int 5, .int 0, .int 0, .int 0, .int (b2i b), .int 0])), (q6, .inl (x_I X, aI 3 (fun _ => 0))), (q13, .inl (x_I X, aI 3 (fun _ => 0))), (q20, .inl (x_I X, aI 3 (fun _ => 0)))]) := hD
  exact W.vret hx hb hrt (fun t ht hW => ⟨⟨(q6, q13, q20), rfl, trivial, ⟨by rw [ht]; exact hP, hD⟩⟩, hS.F ht⟩) hS.2.2 d_W_init_60
abbrev rm_Y_init : Room := { frames := 2, cells := 9, slots := 28, locals := 60 }
set_option maxRecDepth 20000 in
set_option maxHeartbeats 4000000 in
theorem c_Y_init (l : Launch) (X : Xt) (ws : va_W) (Af : Nat → Prop) (h0 : Nat) : Met l y_Y_init (Cond.code y_Y_init b_Y_init 1 none :: WA) rm_Y_init (va_Pc [.ref h0] (fun U => PL X Af (ws ++ [(h0, .inr (1, [.null, .int 0]))]) U.heap ∧ KK X U)) (va_Qv (fun u : Nat × Nat × Nat × Nat × Nat × Nat × Nat × Nat × Nat => True) (fun u t => va_P X.1 classes (ws ++ [(h0, .inr (1, [.ref u.1, .int 0])), (u.1, .inl (x_R X, aQ 2 (va_up (va_up (fun _ => none) 0 (some u.2.1)) 1 (some u.2.2.2.2.2.1)))), (u.2.1, .inr (4, [.ref u.2.2.1, .ref u.2.2.2.1, .ref u.2.2.2.2.1, .int 0])), (u.2.2.1, .inl (x_I X, aI 3 (fun _ => 0))), (u.2.2.2.1, .inl (x_I X, aI 3 (fun _ => 0))), (u.2.2.2.2.1, .inl (x_I X, aI 3 (fun _ => 0))), (u.2.2.2.2.2.1, .inr (4, [.ref u.2.2.2.2.2.2.1, .ref u.2.2.2.2.2.2.2.1, .ref u.2.2.2.2.2.2.2.2, .int 0])), (u.2.2.2.2.2.2.1, .inl (x_I X, aI 3 (fun _ => 0))), (u.2.2.2.2.2.2.2.1, .inl (x_I X, aI 3 (fun _ => 0))), (u.2.2.2.2.2.2.2.2, .inl (x_I X, aI 3 (fun _ => 0)))]) t.heap ∧ va_D Af (ws ++ [(h0, .inr (1, [.ref u.1, .int 0])), (u.1, .inl (x_R X, aQ 2 (va_up (va_up (fun _ => none) 0 (some u.2.1)) 1 (some u.2.2.2.2.2.1)))), (u.2.1, .inr (4, [.ref u.2.2.1, .ref u.2.2.2.1, .ref u.2.2.2.2.1, .int 0])), (u.2.2.1, .inl (x_I X, aI 3 (fun _ => 0))), (u.2.2.2.1, .inl (x_I X, aI 3 (fun _ => 0))), (u.2.2.2.2.1, .inl (x_I X, aI 3 (fun _ => 0))), (u.2.2.2.2.2.1, .inr (4, [.ref u.2.2.2.2.2.2.1, .ref u.2.2.2.2.2.2.2.1, .ref u.2.2.2.2.2.2.2.2, .int 0])), (u.2.2.2.2.2.2.1, .inl (x_I X, aI 3 (fun _ => 0))), (u.2.2.2.2.2.2.2.1, .inl (x_I X, aI 3 (fun _ => 0))), (u.2.2.2.2.2.2.2.2, .inl (x_I X, aI 3 (fun _ => 0)))])) Af) 9 28 Af := by
  refine vx_met (cc := b_Y_init) (maxL := 1) (ret := none) (by decide) rfl (Nat.le_of_ble_eq_true rfl) ?_
  intro p e s m below meth c ls hx hb hrt hts hown hlocks hname hml hB hl
  obtain ⟨⟨hP, hD, hA⟩, hK⟩ := hB
  have hown : s.vm.findClass R_Ways = some m.cls := hown
  have hin : meth.name = "<init>" := hname
  have hl : lv_has ls 1 [(0, .ref h0)] := hl
  have hS : va_S Af s.heap s.heap [] := va_S.rf
  refine lv_aload_n hx hb d_Y_init_0 rfl (lv_at hl 0 rfl) ?_
  refine W.objInit hx hb hown (hts _ (wd_1 24 rfl rfl)) (hts _ (wd_1 17 rfl rfl)) (hts _ (wd_1 18 rfl rfl)) rfl (by rw [hml]; exact hl.1) rfl d_Y_init_1 (Nat.le_of_ble_eq_true rfl) (Nat.le_of_ble_eq_true rfl) ?_
  refine W.eq (g2 := F0 m 4 ls []) rfl ?_
  refine lv_aload_n hx hb d_Y_init_4 rfl (lv_at hl 0 rfl) ?_
  refine lv_iconst (v := 2) hx hb d_Y_init_5 rfl ?_
  refine va_newq (C := "ClusterTool$Route") (N' := 2) hx hb hown (hts _ (wd_1 25 rfl rfl)) hK.2.2.2 hK.1 hP hD hS hA (by decide) (by decide) (by decide) (by decide) (by decide) d_Y_init_6 (fun q6 cA H hK9 hP hD hS => ?_)
  have eA := K_int hK9 hK 4 rfl
  subst eA
  replace hP := vx_P (List.append_assoc _ _ _) hP
  replace hD := vx_D (List.append_assoc _ _ _) hD
  have hP : va_P X.1 classes (ws ++ [(h0, .inr (1, [.null, .int 0])), (q6, .inl (x_R X, aQ 2 (fun _ => none)))]) H := hP
  have hD : va_D Af (ws ++ [(h0, .inr (1, [.null, .int 0])), (q6, .inl (x_R X, aQ 2 (fun _ => none)))]) := hD
  refine W.widen (k := 1) (n := 2) (by decide) (by decide) ?_
  refine lv_dup hx hb d_Y_init_9 rfl ?_
  refine lv_iconst (v := 0) hx hb d_Y_init_10 rfl ?_
  refine va_new (ci := 4) (fs := [.null, .null, .null, .int 0]) (C := R_Route) (T := F_Route) (N := 4) hx hb hts hin_Route t_Route t_Route_ok hown (hts _ (wd_1 25 rfl rfl)) (hts _ (wd_1 27 rfl rfl)) (hts _ (wd_1 3 rfl rfl)) hK.1 hP hD hS hA rfl (fun j hj => by rcases (show j = 0 ∨ j = 1 ∨ j = 2 ∨ j = 3 by omega) with rfl | rfl | rfl | rfl <;> rfl) (by decide) (by decide) d_Y_init_11 (fun q11 H hP hD hS => ?_)
  replace hP := vx_P (List.append_assoc _ _ _) hP
  replace hD := vx_D (List.append_assoc _ _ _) hD
  have hP : va_P X.1 classes (ws ++ [(h0, .inr (1, [.null, .int 0])), (q6, .inl (x_R X, aQ 2 (fun _ => none))), (q11, .inr (4, [.null, .null, .null, .int 0]))]) H := hP
  have hD : va_D Af (ws ++ [(h0, .inr (1, [.null, .int 0])), (q6, .inl (x_R X, aQ 2 (fun _ => none))), (q11, .inr (4, [.null, .null, .null, .int 0]))]) := hD
  refine W.widen (k := 2) (n := 6) (by decide) (by decide) ?_
  refine lv_dup hx hb d_Y_init_14 rfl ?_
  replace hP : va_P X.1 classes ((ws ++ [(h0, .inr (1, [.null, .int 0])), (q6, .inl (x_R X, aQ 2 (fun _ => none)))]) ++ [(q11, .inr (4, [.null, .null, .null, .int 0]))]) H := by rw [List.append_assoc]; exact hP
  replace hD : va_D Af ((ws ++ [(h0, .inr (1, [.null, .int 0])), (q6, .inl (x_R X, aQ 2 (fun _ => none)))]) ++ [(q11, .inr (4, [.null, .null, .null, .int 0]))]) := by rw [List.append_assoc]; exact hD
  refine va_callv (va_runIN (As := []) (rest := [.ref q11, .int 0, .ref q6, .ref q6, .ref h0]) ⟨hx, hb, hml, hown, hts⟩ (c_U_init l X (ws ++ [(h0, .inr (1, [.null, .int 0])), (q6, .inl (x_R X, aQ 2 (fun _ => none)))]) Af q11) ⟨va_cnB 0 hts (gC (wd_1 30 rfl rfl) rfl) rfl rfl rfl (hK.2.1 _ (List.mem_of_getElem? (i := 1) rfl)) (hts _ (wd_1 3 rfl rfl)) hd_U_init ⟨Nat.le_of_ble_eq_true rfl, Nat.le_of_ble_eq_true rfl⟩, rfl, hts _ (wd_1 29 rfl rfl)⟩ (vx_preS (P := PL X Af ((ws ++ [(h0, .inr (1, [.null, .int 0])), (q6, .inl (x_R X, aQ 2 (fun _ => none)))]) ++ [(q11, .inr (4, [.null, .null, .null, .int 0]))])) ⟨hP, hD, fun q hq => hA q (Nat.le_trans hS.1 hq)⟩ hK) rfl rfl hl.1 rfl (lv_room (Nat.le_of_ble_eq_true rfl)) d_Y_init_15 ⟨by decide, by decide⟩) hS (fun q _ h => h) (fun q h => h) (fun u15 t15 H locs ht hvm hu15 hB hz hk hS => ?_)
  obtain ⟨hP, hD⟩ := hB
  rw [ht] at hP
  replace hP := vx_P (List.append_assoc _ _ _) hP
  replace hD := vx_D (List.append_assoc _ _ _) hD
  have hP : va_P X.1 classes (ws ++ [(h0, .inr (1, [.null, .int 0])), (q6, .inl (x_R X, aQ 2 (fun _ => none))), (q11, .inr (4, [.ref u15.1, .ref u15.2.1, .ref u15.2.2, .int 0])), (u15.1, .inl (x_I X, aI 3 (fun _ => 0))), (u15.2.1, .inl (x_I X, aI 3 (fun _ => 0))), (u15.2.2, .inl (x_I X, aI 3 (fun _ => 0)))]) H := hP
  have hD : va_D Af (ws ++ [(h0, .inr (1, [.null, .int 0])), (q6, .inl (x_R X, aQ 2 (fun _ => none))), (q11, .inr (4, [.ref u15.1, .ref u15.2.1, .ref u15.2.2, .int 0])), (u15.1, .inl (x_I X, aI 3 (fun _ => 0))), (u15.2.1, .inl (x_I X, aI 3 (fun _ => 0))), (u15.2.2, .inl (x_I X, aI 3 (fun _ => 0)))]) := hD
  refine W.widen (k := 5) (n := 15) (by decide) (by decide) ?_
  refine va_astq hx hb hK.1 hP hD hS (ws.length + 1) 4 (ws.length + 2) 4 (lwa 1 rfl) rfl (lwa 2 rfl) rfl (vp_in_nI (n := 0) (by decide) (by decide)) d_Y_init_18 (fun H locs hP hD hS => ?_)
  replace hP := vx_P lws hP
  replace hD := vx_D lws hD
  have hP : va_P X.1 classes (ws ++ [(h0, .inr (1, [.null, .int 0])), (q6, .inl (x_R X, aQ 2 (va_up (fun _ => none) 0 (some q11)))), (q11, .inr (4, [.ref u15.1, .ref u15.2.1, .ref u15.2.2, .int 0])), (u15.1, .inl (x_I X, aI 3 (fun _ => 0))), (u15.2.1, .inl (x_I X, aI 3 (fun _ => 0))), (u15.2.2, .inl (x_I X, aI 3 (fun _ => 0)))]) H := hP
  have hD : va_D Af (ws ++ [(h0, .inr (1, [.null, .int 0])), (q6, .inl (x_R X, aQ 2 (va_up (fun _ => none) 0 (some q11)))), (q11, .inr (4, [.ref u15.1, .ref u15.2.1, .ref u15.2.2, .int 0])), (u15.1, .inl (x_I X, aI 3 (fun _ => 0))), (u15.2.1, .inl (x_I X, aI 3 (fun _ => 0))), (u15.2.2, .inl (x_I X, aI 3 (fun _ => 0)))]) := hD
  refine lv_dup hx hb d_Y_init_19 rfl ?_
  refine lv_iconst (v := 1) hx hb d_Y_init_20 rfl ?_
  refine va_new (ci := 4) (fs := [.null, .null, .null, .int 0]) (C := R_Route) (T := F_Route) (N := 4) hx hb hts hin_Route t_Route t_Route_ok hown (hts _ (wd_1 25 rfl rfl)) (hts _ (wd_1 27 rfl rfl)) (hts _ (wd_1 3 rfl rfl)) hK.1 hP hD hS hA rfl (fun j hj => by rcases (show j = 0 ∨ j = 1 ∨ j = 2 ∨ j = 3 by omega) with rfl | rfl | rfl | rfl <;> rfl) (by decide) (by decide) d_Y_init_21 (fun q21 H hP hD hS => ?_)
  replace hP := vx_P (List.append_assoc _ _ _) hP
  replace hD := vx_D (List.append_assoc _ _ _) hD
  have hP : va_P X.1 classes (ws ++ [(h0, .inr (1, [.null, .int 0])), (q6, .inl (x_R X, aQ 2 (va_up (fun _ => none) 0 (some q11)))), (q11, .inr (4, [.ref u15.1, .ref u15.2.1, .ref u15.2.2, .int 0])), (u15.1, .inl (x_I X, aI 3 (fun _ => 0))), (u15.2.1, .inl (x_I X, aI 3 (fun _ => 0))), (u15.2.2, .inl (x_I X, aI 3 (fun _ => 0))), (q21, .inr (4, [.null, .null, .null, .int 0]))]) H := hP
  have hD : va_D Af (ws ++ [(h0, .inr (1, [.null, .int 0])), (q6, .inl (x_R X, aQ 2 (va_up (fun _ => none) 0 (some q11)))), (q11, .inr (4, [.ref u15.1, .ref u15.2.1, .ref u15.2.2, .int 0])), (u15.1, .inl (x_I X, aI 3 (fun _ => 0))), (u15.2.1, .inl (x_I X, aI 3 (fun _ => 0))), (u15.2.2, .inl (x_I X, aI 3 (fun _ => 0))), (q21, .inr (4, [.null, .null, .null, .int 0]))]) := hD
  refine W.widen (k := 6) (n := 19) (by decide) (by decide) ?_
  refine lv_dup hx hb d_Y_init_24 rfl ?_
  replace hP : va_P X.1 classes ((ws ++ [(h0, .inr (1, [.null, .int 0])), (q6, .inl (x_R X, aQ 2 (va_up (fun _ => none) 0 (some q11)))), (q11, .inr (4, [.ref u15.1, .ref u15.2.1, .ref u15.2.2, .int 0])), (u15.1, .inl (x_I X, aI 3 (fun _ => 0))), (u15.2.1, .inl (x_I X, aI 3 (fun _ => 0))), (u15.2.2, .inl (x_I X, aI 3 (fun _ => 0)))]) ++ [(q21, .inr (4, [.null, .null, .null, .int 0]))]) H := by rw [List.append_assoc]; exact hP
  replace hD : va_D Af ((ws ++ [(h0, .inr (1, [.null, .int 0])), (q6, .inl (x_R X, aQ 2 (va_up (fun _ => none) 0 (some q11)))), (q11, .inr (4, [.ref u15.1, .ref u15.2.1, .ref u15.2.2, .int 0])), (u15.1, .inl (x_I X, aI 3 (fun _ => 0))), (u15.2.1, .inl (x_I X, aI 3 (fun _ => 0))), (u15.2.2, .inl (x_I X, aI 3 (fun _ => 0)))]) ++ [(q21, .inr (4, [.null, .null, .null, .int 0]))]) := by rw [List.append_assoc]; exact hD
  refine va_callv (va_runIN (As := []) (rest := [.ref q21, .int 1, .ref q6, .ref q6, .ref h0]) ⟨hx, hb, hml, hown, hts⟩ (c_U_init l X (ws ++ [(h0, .inr (1, [.null, .int 0])), (q6, .inl (x_R X, aQ 2 (va_up (fun _ => none) 0 (some q11)))), (q11, .inr (4, [.ref u15.1, .ref u15.2.1, .ref u15.2.2, .int 0])), (u15.1, .inl (x_I X, aI 3 (fun _ => 0))), (u15.2.1, .inl (x_I X, aI 3 (fun _ => 0))), (u15.2.2, .inl (x_I X, aI 3 (fun _ => 0)))]) Af q21) ⟨va_cnB 0 hts (gC (wd_1 30 rfl rfl) rfl) rfl rfl rfl (hK.2.1 _ (List.mem_of_getElem? (i := 1) rfl)) (hts _ (wd_1 3 rfl rfl)) hd_U_init ⟨Nat.le_of_ble_eq_true rfl, Nat.le_of_ble_eq_true rfl⟩, rfl, hts _ (wd_1 29 rfl rfl)⟩ (vx_preS (P := PL X Af ((ws ++ [(h0, .inr (1, [.null, .int 0])), (q6, .inl (x_R X, aQ 2 (va_up (fun _ => none) 0 (some q11)))), (q11, .inr (4, [.ref u15.1, .ref u15.2.1, .ref u15.2.2, .int 0])), (u15.1, .inl (x_I X, aI 3 (fun _ => 0))), (u15.2.1, .inl (x_I X, aI 3 (fun _ => 0))), (u15.2.2, .inl (x_I X, aI 3 (fun _ => 0)))]) ++ [(q21, .inr (4, [.null, .null, .null, .int 0]))])) ⟨hP, hD, fun q hq => hA q (Nat.le_trans hS.1 hq)⟩ hK) rfl rfl hl.1 rfl (lv_room (Nat.le_of_ble_eq_true rfl)) d_Y_init_25 ⟨by decide, by decide⟩) hS (fun q _ h => h) (fun q h => h) (fun u25 t25 H locs ht hvm hu25 hB hz hk hS => ?_)
  obtain ⟨hP, hD⟩ := hB
  rw [ht] at hP
  replace hP := vx_P (List.append_assoc _ _ _) hP
  replace hD := vx_D (List.append_assoc _ _ _) hD
  have hP : va_P X.1 classes (ws ++ [(h0, .inr (1, [.null, .int 0])), (q6, .inl (x_R X, aQ 2 (va_up (fun _ => none) 0 (some q11)))), (q11, .inr (4, [.ref u15.1, .ref u15.2.1, .ref u15.2.2, .int 0])), (u15.1, .inl (x_I X, aI 3 (fun _ => 0))), (u15.2.1, .inl (x_I X, aI 3 (fun _ => 0))), (u15.2.2, .inl (x_I X, aI 3 (fun _ => 0))), (q21, .inr (4, [.ref u25.1, .ref u25.2.1, .ref u25.2.2, .int 0])), (u25.1, .inl (x_I X, aI 3 (fun _ => 0))), (u25.2.1, .inl (x_I X, aI 3 (fun _ => 0))), (u25.2.2, .inl (x_I X, aI 3 (fun _ => 0)))]) H := hP
  have hD : va_D Af (ws ++ [(h0, .inr (1, [.null, .int 0])), (q6, .inl (x_R X, aQ 2 (va_up (fun _ => none) 0 (some q11)))), (q11, .inr (4, [.ref u15.1, .ref u15.2.1, .ref u15.2.2, .int 0])), (u15.1, .inl (x_I X, aI 3 (fun _ => 0))), (u15.2.1, .inl (x_I X, aI 3 (fun _ => 0))), (u15.2.2, .inl (x_I X, aI 3 (fun _ => 0))), (q21, .inr (4, [.ref u25.1, .ref u25.2.1, .ref u25.2.2, .int 0])), (u25.1, .inl (x_I X, aI 3 (fun _ => 0))), (u25.2.1, .inl (x_I X, aI 3 (fun _ => 0))), (u25.2.2, .inl (x_I X, aI 3 (fun _ => 0)))]) := hD
  refine W.widen (k := 9) (n := 28) (by decide) (by decide) ?_
  refine va_astq hx hb hK.1 hP hD hS (ws.length + 1) 4 (ws.length + 6) 4 (lwa 1 rfl) rfl (lwa 6 rfl) rfl (vp_in_nI (n := 1) (by decide) (by decide)) d_Y_init_28 (fun H locs hP hD hS => ?_)
  replace hP := vx_P lws hP
  replace hD := vx_D lws hD
  have hP : va_P X.1 classes (ws ++ [(h0, .inr (1, [.null, .int 0])), (q6, .inl (x_R X, aQ 2 (va_up (va_up (fun _ => none) 0 (some q11)) 1 (some q21)))), (q11, .inr (4, [.ref u15.1, .ref u15.2.1, .ref u15.2.2, .int 0])), (u15.1, .inl (x_I X, aI 3 (fun _ => 0))), (u15.2.1, .inl (x_I X, aI 3 (fun _ => 0))), (u15.2.2, .inl (x_I X, aI 3 (fun _ => 0))), (q21, .inr (4, [.ref u25.1, .ref u25.2.1, .ref u25.2.2, .int 0])), (u25.1, .inl (x_I X, aI 3 (fun _ => 0))), (u25.2.1, .inl (x_I X, aI 3 (fun _ => 0))), (u25.2.2, .inl (x_I X, aI 3 (fun _ => 0)))]) H := hP
  have hD : va_D Af (ws ++ [(h0, .inr (1, [.null, .int 0])), (q6, .inl (x_R X, aQ 2 (va_up (va_up (fun _ => none) 0 (some q11)) 1 (some q21)))), (q11, .inr (4, [.ref u15.1, .ref u15.2.1, .ref u15.2.2, .int 0])), (u15.1, .inl (x_I X, aI 3 (fun _ => 0))), (u15.2.1, .inl (x_I X, aI 3 (fun _ => 0))), (u15.2.2, .inl (x_I X, aI 3 (fun _ => 0))), (q21, .inr (4, [.ref u25.1, .ref u25.2.1, .ref u25.2.2, .int 0])), (u25.1, .inl (x_I X, aI 3 (fun _ => 0))), (u25.2.1, .inl (x_I X, aI 3 (fun _ => 0))), (u25.2.2, .inl (x_I X, aI 3 (fun _ => 0)))]) := hD
  refine va_putF (D := X.1) (ci := 1) (v := .ref q6) (ty := .array (.object "ClusterTool$Route")) (C := R_Ways) (T := F_Ways) (N := 2) hx hb hts hin_Ways t_Ways t_Ways_ok n_Ways hown hK.1 hP hD hS (ws.length + 0) (lwa 0 rfl) rfl 0 (by decide) (hts _ (wd_1 47 rfl rfl)) (fun _ h9 => h9) rfl hin rfl (by decide +kernel) rfl rfl (Nat.le_of_ble_eq_true rfl) d_Y_init_29 (fun H locs hP hD hS => ?_)
  replace hP := vx_P lws hP
  replace hD := vx_D lws hD
  have hP : va_P X.1 classes (ws ++ [(h0, .inr (1, [.ref q6, .int 0])), (q6, .inl (x_R X, aQ 2 (va_up (va_up (fun _ => none) 0 (some q11)) 1 (some q21)))), (q11, .inr (4, [.ref u15.1, .ref u15.2.1, .ref u15.2.2, .int 0])), (u15.1, .inl (x_I X, aI 3 (fun _ => 0))), (u15.2.1, .inl (x_I X, aI 3 (fun _ => 0))), (u15.2.2, .inl (x_I X, aI 3 (fun _ => 0))), (q21, .inr (4, [.ref u25.1, .ref u25.2.1, .ref u25.2.2, .int 0])), (u25.1, .inl (x_I X, aI 3 (fun _ => 0))), (u25.2.1, .inl (x_I X, aI 3 (fun _ => 0))), (u25.2.2, .inl (x_I X, aI 3 (fun _ => 0)))]) H := hP
  have hD : va_D Af (ws ++ [(h0, .inr (1, [.ref q6, .int 0])), (q6, .inl (x_R X, aQ 2 (va_up (va_up (fun _ => none) 0 (some q11)) 1 (some q21)))), (q11, .inr (4, [.ref u15.1, .ref u15.2.1, .ref u15.2.2, .int 0])), (u15.1, .inl (x_I X, aI 3 (fun _ => 0))), (u15.2.1, .inl (x_I X, aI 3 (fun _ => 0))), (u15.2.2, .inl (x_I X, aI 3 (fun _ => 0))), (q21, .inr (4, [.ref u25.1, .ref u25.2.1, .ref u25.2.2, .int 0])), (u25.1, .inl (x_I X, aI 3 (fun _ => 0))), (u25.2.1, .inl (x_I X, aI 3 (fun _ => 0))), (u25.2.2, .inl (x_I X, aI 3 (fun _ => 0)))]) := hD
  refine lv_aload_n hx hb d_Y_init_32 rfl (lv_at hl 0 rfl) ?_
  refine lv_iconst (v := 0) hx hb d_Y_init_33 rfl ?_
  refine va_put (D := X.1) (ci := 1) (v := .int 0) (ty := .int) (C := R_Ways) (T := F_Ways) (N := 2) hx hb hts hin_Ways t_Ways t_Ways_ok n_Ways hown hK.1 hP hD hS (ws.length + 0) (lwa 0 rfl) rfl 1 (by decide) (hts _ (wd_1 48 rfl rfl)) (fun _ h9 => h9) rfl (by decide +kernel) rfl rfl (Nat.le_of_ble_eq_true rfl) d_Y_init_34 (fun H locs hP hD hS => ?_)
  replace hP := vx_P lws hP
  replace hD := vx_D lws hD
  have hP : va_P X.1 classes (ws ++ [(h0, .inr (1, [.ref q6, .int 0])), (q6, .inl (x_R X, aQ 2 (va_up (va_up (fun _ => none) 0 (some q11)) 1 (some q21)))), (q11, .inr (4, [.ref u15.1, .ref u15.2.1, .ref u15.2.2, .int 0])), (u15.1, .inl (x_I X, aI 3 (fun _ => 0))), (u15.2.1, .inl (x_I X, aI 3 (fun _ => 0))), (u15.2.2, .inl (x_I X, aI 3 (fun _ => 0))), (q21, .inr (4, [.ref u25.1, .ref u25.2.1, .ref u25.2.2, .int 0])), (u25.1, .inl (x_I X, aI 3 (fun _ => 0))), (u25.2.1, .inl (x_I X, aI 3 (fun _ => 0))), (u25.2.2, .inl (x_I X, aI 3 (fun _ => 0)))]) H := hP
  have hD : va_D Af (ws ++ [(h0, .inr (1, [.ref q6, .int 0])), (q6, .inl (x_R X, aQ 2 (va_up (va_up (fun _ => none) 0 (some q11)) 1 (some q21)))), (q11, .inr (4, [.ref u15.1, .ref u15.2.1, .ref u15.2.2, .int 0])), (u15.1, .inl (x_I X, aI 3 (fun _ => 0))), (u15.2.1, .inl (x_I X, aI 3 (fun _ => 0))), (u15.2.2, .inl (x_I X, aI 3 (fun _ => 0))), (q21, .inr (4, [.ref u25.1, .ref u25.2.1, .ref u25.2.2, .int 0])), (u25.1, .inl (x_I X, aI 3 (fun _ => 0))), (u25.2.1, .inl (x_I X, aI 3 (fun _ => 0))), (u25.2.2, .inl (x_I X, aI 3 (fun _ => 0)))]) := hD
  exact W.vret hx hb hrt (fun t ht hW => ⟨⟨(q6, q11, u15.1, u15.2.1, u15.2.2, q21, u25.1, u25.2.1, u25.2.2), rfl, trivial, ⟨by rw [ht]; exact hP, hD⟩⟩, hS.F ht⟩) hS.2.2 d_Y_init_37
end
section
/-! A new tool; a wafer that is loaded. Own work. -/
def A00 : St := (fun _ => 0, fun _ _ => 0, fun _ _ => 0, fun _ _ => 0, 0, fun _ => 0, fun _ => 0, fun _ => 0, fun _ => 0, fun _ => 0, fun _ => false, fun _ _ => 0, fun _ _ => 0, fun _ _ => 0, 0, 0, false, false, 0, 0)
def ins00 : Nat → Int32 := upd (upd (upd (upd (upd (fun _ => 0) 0 (-1)) 1 (-1)) 2 (-1)) 3 (-1)) 4 (-1)
def G00 (u : Nat → Nat) : Gc := (u, fun _ => 0, fun _ => false, ins00, fun _ => 0, fun _ => 0)
theorem wRefs_00 (u : Nat → Nat) : (fun _ => none) = wRefs (G00 u) A00 := by
  funext i
  unfold wRefs
  rw [if_neg (by show ¬ i < 0; omega)]
theorem rRefs_up {G : Gc} {a b : Nat} (ha : a = gA_ad G 8) (hb : b = gA_ad G 12) : va_up (va_up (fun _ => none) 0 (some a)) 1 (some b) = rRefs G := by
  subst ha; subst hb
  funext r
  unfold va_up rRefs
  by_cases h0 : r = 0
  · subst h0; rfl
  · by_cases h1 : r = 1
    · subst h1; rfl
    · rw [if_neg h1, if_neg h0, if_neg h0, if_neg h1]
theorem Inv_00 : Inv A00 := by
  refine ⟨by decide, ⟨fun r => Nat.zero_le _, fun r i hi => ?_, by decide⟩, fun i hi => ?_, fun i j hi => ?_, fun i _ => ⟨rfl, rfl, rfl, rfl, rfl, rfl, rfl, rfl, rfl⟩⟩
  · have hi : i < 0 := hi
    omega
  · have hi : i < 0 := hi
    omega
  · have hi : i < 0 := hi
    omega
theorem RC_00 (u : Nat → Nat) : RC (G00 u) A00 := by
  refine ⟨fun q hq => ?_, fun i hi => ?_, fun i hi => ?_, MI_zero (fun k _ => rfl) (fun k _ => rfl), fun _ k _ => ⟨rfl, rfl⟩⟩
  · rcases (show q = 0 ∨ q = 1 ∨ q = 2 ∨ q = 3 ∨ q = 4 by omega) with rfl | rfl | rfl | rfl | rfl <;> rfl
  · have hi : i < 0 := hi
    omega
  · have hi : i < 0 := hi
    omega
def ldA (A : St) (r : Nat) : St := sU_n (sU_pl (sU_rt A (va_up (sA_rt A) (sA_n A) r)) (va_up (sA_pl A) (sA_n A) 5)) (sA_n A + 1)
def ldAd (f : Nat → Nat) (n : Nat) (u : Nat × Nat × Nat × Nat) : Nat → Nat := fun k => if k = 18 + 4 * n then u.1 else if k = 18 + 4 * n + 1 then u.2.1 else if k = 18 + 4 * n + 2 then u.2.2.1 else if k = 18 + 4 * n + 3 then u.2.2.2 else f k
def ldG (G : Gc) (n : Nat) (u : Nat × Nat × Nat × Nat) (b : Bool) : Gc := gU_fi (gU_wt (gU_ad G (ldAd (gA_ad G) n u)) (va_up (gA_wt G) n 0)) (va_up (gA_fi G) n b)
theorem ldAd_lt {f : Nat → Nat} {n k : Nat} {u : Nat × Nat × Nat × Nat} (h : k < 18 + 4 * n) : ldAd f n u k = f k := by
  unfold ldAd
  rw [if_neg (by omega), if_neg (by omega), if_neg (by omega), if_neg (by omega)]
theorem ldAd_at {f : Nat → Nat} {n : Nat} {u : Nat × Nat × Nat × Nat} : ldAd f n u (18 + 4 * n) = u.1 ∧ ldAd f n u (18 + 4 * n + 1) = u.2.1 ∧ ldAd f n u (18 + 4 * n + 2) = u.2.2.1 ∧ ldAd f n u (18 + 4 * n + 3) = u.2.2.2 := by
  unfold ldAd
  refine ⟨by rw [if_pos rfl], by rw [if_neg (by omega), if_pos rfl], by rw [if_neg (by omega), if_neg (by omega), if_pos rfl], by rw [if_neg (by omega), if_neg (by omega), if_neg (by omega), if_pos rfl]⟩
theorem wRefs_ld {G : Gc} {A : St} {r : Nat} {u : Nat × Nat × Nat × Nat} {b : Bool} : va_up (wRefs G A) (sA_n A) (some u.1) = wRefs (ldG G (sA_n A) u b) (ldA A r) := by
  funext i
  unfold va_up wRefs
  by_cases h : i = sA_n A
  · subst h
    rw [if_pos rfl, if_pos (show sA_n A < sA_n (ldA A r) from Nat.lt_succ_self _)]
    exact congrArg some ldAd_at.1.symm
  · rw [if_neg h]
    by_cases h2 : i < sA_n A
    · rw [if_pos h2, if_pos (show i < sA_n (ldA A r) from Nat.lt_succ_of_lt h2)]
      exact congrArg some (ldAd_lt (by omega)).symm
    · rw [if_neg h2, if_neg (show ¬ i < sA_n (ldA A r) from fun z => by have z : i < sA_n A + 1 := z; omega)]
theorem rRefs_ld {G : Gc} {n : Nat} {u : Nat × Nat × Nat × Nat} {b : Bool} : rRefs (ldG G n u b) = rRefs G := by
  funext r
  unfold rRefs
  rw [show gA_ad (ldG G n u b) 8 = gA_ad G 8 from ldAd_lt (by omega), show gA_ad (ldG G n u b) 12 = gA_ad G 12 from ldAd_lt (by omega)]
theorem cw_load {X : Xt} {G : Gc} {A : St} {r : Nat} {u : Nat × Nat × Nat × Nat} {b : Bool} (hf : fresh A (sA_n A)) :
    ((cw X G A).set 5 (gA_ad G 5, .inl (x_W X, aQ 25 (va_up (wRefs G A) (sA_n A) (some u.1))))).set 0 (gA_ad G 0, .inr (0, (o_tool G A).set 6 (.int (nI (sA_n A + 1))))) ++
      [(u.1, .inr (5, [.int (nI r), .ref u.2.1, .ref u.2.2.1, .ref u.2.2.2, .int 5, .int 0, .int 0, .int 0, .int (b2i b), .int 0])), (u.2.1, .inl (x_I X, aI 3 (fun _ => 0))), (u.2.2.1, .inl (x_I X, aI 3 (fun _ => 0))), (u.2.2.2, .inl (x_I X, aI 3 (fun _ => 0)))] = cw X (ldG G (sA_n A) u b) (ldA A r) := by
  obtain ⟨f1, f2, f3, f4, f5, f6, f7, f8, f9⟩ := hf
  generalize hn : sA_n A = n at *
  have eF : (((cwF X G A).set 5 (gA_ad G 5, .inl (x_W X, aQ 25 (va_up (wRefs G A) n (some u.1))))).set 0 (gA_ad G 0, .inr (0, (o_tool G A).set 6 (.int (nI (n + 1)))))) = cwF X (ldG G n u b) (ldA A r) := by
    have hw : va_up (wRefs G A) n (some u.1) = wRefs (ldG G n u b) (ldA A r) := by rw [← hn]; exact wRefs_ld
    have ad : ∀ k, k < 18 → gA_ad (ldG G n u b) k = gA_ad G k := fun k hk => ldAd_lt (by omega)
    unfold cwF o_tool o_ways o_emp o_route
    rw [hw, rRefs_ld, ad 0 (by omega), ad 1 (by omega), ad 2 (by omega), ad 3 (by omega), ad 4 (by omega), ad 5 (by omega), ad 6 (by omega), ad 7 (by omega), ad 8 (by omega), ad 9 (by omega), ad 10 (by omega), ad 11 (by omega), ad 12 (by omega), ad 13 (by omega), ad 14 (by omega), ad 15 (by omega), ad 16 (by omega), ad 17 (by omega)]
    have hn2 : sA_n (ldA A r) = n + 1 := by unfold ldA; rw [hn]
    rw [hn2]
    rfl
  have eW : (List.range (4 * n)).map (wcell X G A) = (List.range (4 * n)).map (wcell X (ldG G n u b) (ldA A r)) := by
    apply List.map_congr_left
    intro k hk
    have hk := List.mem_range.mp hk
    unfold wcell
    have ea : gA_ad (ldG G n u b) (18 + k) = gA_ad G (18 + k) := ldAd_lt (by omega)
    have hj : k / 4 ≠ n := by omega
    have es : sA_rt (ldA A r) (k / 4) = sA_rt A (k / 4) ∧ sA_pl (ldA A r) (k / 4) = sA_pl A (k / 4) := by
      unfold ldA
      rw [hn]
      exact ⟨va_up_ne _ _ hj, va_up_ne _ _ hj⟩
    rw [ea]
    congr 1
    have e1 : gA_ad (ldG G n u b) (18 + 4 * (k / 4) + 1) = gA_ad G (18 + 4 * (k / 4) + 1) := ldAd_lt (by omega)
    have e2 : gA_ad (ldG G n u b) (18 + 4 * (k / 4) + 2) = gA_ad G (18 + 4 * (k / 4) + 2) := ldAd_lt (by omega)
    have e3 : gA_ad (ldG G n u b) (18 + 4 * (k / 4) + 3) = gA_ad G (18 + 4 * (k / 4) + 3) := ldAd_lt (by omega)
    have e4 : gA_wt (ldG G n u b) (k / 4) = gA_wt G (k / 4) := va_up_ne _ _ hj
    have e5 : gA_fi (ldG G n u b) (k / 4) = gA_fi G (k / 4) := va_up_ne _ _ hj
    rcases (show k % 4 = 0 ∨ k % 4 = 1 ∨ k % 4 = 2 ∨ k % 4 = 3 by omega) with h | h | h | h
    · rw [h]
      unfold wE o_waf
      rw [e1, e2, e3, e4, e5, es.1, es.2]
      rfl
    · rw [h]; rfl
    · rw [h]; rfl
    · rw [h]; rfl
  have eN : (List.range (4 * (n + 1))).map (wcell X (ldG G n u b) (ldA A r)) = (List.range (4 * n)).map (wcell X (ldG G n u b) (ldA A r)) ++ [(u.1, .inr (5, [.int (nI r), .ref u.2.1, .ref u.2.2.1, .ref u.2.2.2, .int 5, .int 0, .int 0, .int 0, .int (b2i b), .int 0])), (u.2.1, .inl (x_I X, aI 3 (fun _ => 0))), (u.2.2.1, .inl (x_I X, aI 3 (fun _ => 0))), (u.2.2.2, .inl (x_I X, aI 3 (fun _ => 0)))] := by
    rw [show 4 * (n + 1) = 4 * n + 1 + 1 + 1 + 1 by omega, List.range_succ, List.range_succ, List.range_succ, List.range_succ]
    simp only [List.map_append, List.map_cons, List.map_nil, List.append_assoc, List.cons_append, List.nil_append]
    have hA1 : gA_ad (ldG G n u b) (18 + 4 * n) = u.1 := ldAd_at.1
    have hA2 : gA_ad (ldG G n u b) (18 + 4 * n + 1) = u.2.1 := ldAd_at.2.1
    have hA3 : gA_ad (ldG G n u b) (18 + 4 * n + 2) = u.2.2.1 := ldAd_at.2.2.1
    have hA4 : gA_ad (ldG G n u b) (18 + 4 * n + 3) = u.2.2.2 := ldAd_at.2.2.2
    have hr : sA_rt (ldA A r) n = r := by unfold ldA; rw [hn]; exact va_up_self _ _ _
    have hp : sA_pl (ldA A r) n = 5 := by unfold ldA; rw [hn]; exact va_up_self _ _ _
    have hw : gA_wt (ldG G n u b) n = 0 := va_up_self _ _ _
    have hfi : gA_fi (ldG G n u b) n = b := va_up_self _ _ _
    have c0 : wcell X (ldG G n u b) (ldA A r) (4 * n) = (u.1, .inr (5, [.int (nI r), .ref u.2.1, .ref u.2.2.1, .ref u.2.2.2, .int 5, .int 0, .int 0, .int 0, .int (b2i b), .int 0])) := by
      have := wcell_at (X := X) (G := ldG G n u b) (A := ldA A r) (i := n) (t := 0) (by omega)
      rw [Nat.add_zero] at this
      rw [this, hA1]
      unfold wE o_waf
      rw [hr, hp, hw, hfi, hA2, hA3, hA4, show sA_sg (ldA A r) n = 0 from f3, show sA_lf (ldA A r) n = 0 from f4, show sA_la (ldA A r) n = false from f6]
      rfl
    have c1 : wcell X (ldG G n u b) (ldA A r) (4 * n + 1) = (u.2.1, .inl (x_I X, aI 3 (fun _ => 0))) := by
      rw [wcell_at (by omega), ← Nat.add_assoc, hA2]
      unfold wE
      rw [show sA_ch (ldA A r) n = fun _ => 0 from f7]
      rfl
    have c2 : wcell X (ldG G n u b) (ldA A r) (4 * n + 1 + 1) = (u.2.2.1, .inl (x_I X, aI 3 (fun _ => 0))) := by
      rw [show 4 * n + 1 + 1 = 4 * n + 2 by omega, wcell_at (by omega), ← Nat.add_assoc, hA3]
      unfold wE
      rw [show sA_be (ldA A r) n = fun _ => 0 from f8]
      rfl
    have c3 : wcell X (ldG G n u b) (ldA A r) (4 * n + 1 + 1 + 1) = (u.2.2.2, .inl (x_I X, aI 3 (fun _ => 0))) := by
      rw [show 4 * n + 1 + 1 + 1 = 4 * n + 3 by omega, wcell_at (by omega), ← Nat.add_assoc, hA4]
      unfold wE
      rw [show sA_en (ldA A r) n = fun _ => 0 from f9]
      rfl
    rw [c0, c1, c2, c3]
  have hn2 : sA_n (ldA A r) = n + 1 := by unfold ldA; rw [hn]
  unfold cw
  rw [hn2, hn, eN, ← eF, ← eW, ← List.append_assoc]
  rfl
end
section
/-! A wafer that is loaded: answer, relation, invariant. Own work. -/
theorem routeOf_x {x : Int32} {r : Nat} (h : f_Y_routeOf x = some r) : x = nI r := by
  rw [routeOf_eq] at h
  unfold ridx at h
  split at h
  · next e => cases h; exact e
  · split at h
    · next e => cases h; exact e
    · cases h
def loadF (A : St) (x : Int32) : Int32 := oc (ridx x) (-1) (fun _ => if 25 ≤ sA_n A then -1 else nI (sA_n A))
def loadS (A : St) (x : Int32) : St := oc (ridx x) A (fun r => if 25 ≤ sA_n A then A else ldA A r)
theorem load_none {A : St} {x : Int32} (h : f_Y_routeOf x = none) : -1 = loadF A x ∧ loadS A x = A := by
  rw [routeOf_eq] at h
  unfold loadF loadS
  rw [oc_none h, oc_none h]
  exact ⟨rfl, rfl⟩
theorem load_full {A : St} {x : Int32} {r : Nat} (h : f_Y_routeOf x = some r) (h2 : 25 ≤ sA_n A) : -1 = loadF A x ∧ loadS A x = A := by
  rw [routeOf_eq] at h
  unfold loadF loadS
  rw [oc_some h, oc_some h, if_pos h2, if_pos h2]
  exact ⟨rfl, rfl⟩
theorem load_ok {A : St} {x : Int32} {r : Nat} (h : f_Y_routeOf x = some r) (h2 : sA_n A < 25) : nI (sA_n A) = loadF A x ∧ loadS A x = ldA A r := by
  rw [routeOf_eq] at h
  unfold loadF loadS
  rw [oc_some h, oc_some h, if_neg (by omega), if_neg (by omega)]
  exact ⟨rfl, rfl⟩
theorem ldA_f {A : St} {r : Nat} : sA_n (ldA A r) = sA_n A + 1 ∧ sA_pl (ldA A r) = va_up (sA_pl A) (sA_n A) 5 ∧ sA_rt (ldA A r) = va_up (sA_rt A) (sA_n A) r := ⟨rfl, rfl, rfl⟩
theorem Inv_load {A : St} {r : Nat} (hI : Inv A) (hr : r < 2) (hn : sA_n A < 25) : Inv (ldA A r) := by
  obtain ⟨h1, hR, hW, hu, hf⟩ := hI
  obtain ⟨g1, g2, g3⟩ := ldA_f (A := A) (r := r)
  refine ⟨by rw [g1]; omega, hR, fun i hi => ?_, fun i j hi hj he h5 => ?_, fun i hi => ?_⟩
  · rw [g1] at hi
    unfold wOk
    rw [g2, g3]
    by_cases e : i = sA_n A
    · subst e
      obtain ⟨-, -, f3, f4, f5, f6, -⟩ := hf (sA_n A) (Nat.le_refl _)
      rw [va_up_self, va_up_self]
      have s3 : sA_sg (ldA A r) (sA_n A) = 0 := f3
      have s4 : sA_lf (ldA A r) (sA_n A) = 0 := f4
      rw [s3, s4]
      exact ⟨hr, by omega, by omega, by omega, fun z => by omega, fun z => by omega, fun z => by omega⟩
    · rw [va_up_ne _ _ e, va_up_ne _ _ e]
      exact hW i (by omega)
  · rw [g1] at hi hj
    rw [g2] at he h5
    by_cases e1 : i = sA_n A
    · subst e1
      rw [va_up_self] at h5
      omega
    · by_cases e2 : j = sA_n A
      · subst e2
        rw [va_up_self, va_up_ne _ _ e1] at he
        rw [va_up_ne _ _ e1] at h5
        omega
      · rw [va_up_ne _ _ e1, va_up_ne _ _ e2] at he
        rw [va_up_ne _ _ e1] at h5
        exact hu i j (by omega) (by omega) he h5
  · rw [g1] at hi
    obtain ⟨f1, f2, f3, f4, f5, f6, f7, f8, f9⟩ := hf i (by omega)
    have e : i ≠ sA_n A := by omega
    refine ⟨?_, ?_, f3, f4, f5, f6, f7, f8, f9⟩
    · rw [g3, va_up_ne _ _ e]; exact f1
    · rw [g2, va_up_ne _ _ e]; exact f2
theorem RC_load {G : Gc} {A : St} {r : Nat} {u : Nat × Nat × Nat × Nat} {b : Bool} (hI : Inv A) (hC : RC G A) (hb : b = decide (sA_len A r = 0)) : RC (ldG G (sA_n A) u b) (ldA A r) := by
  obtain ⟨g1, g2, g3⟩ := ldA_f (A := A) (r := r)
  refine ⟨fun q hq => ?_, fun i hi => ?_, fun i hi h4 => ?_, hC.2.2.2.1, fun z => ?_⟩
  · rw [show gA_ins (ldG G (sA_n A) u b) q = gA_ins G q from rfl, hC.1 q hq]
    unfold inP
    rw [if_pos hq, if_pos hq, g1, show occ (ldA A r) q (sA_n A + 1) = if sA_pl (ldA A r) (sA_n A) = q then nI (sA_n A) else occ (ldA A r) q (sA_n A) from rfl, g2, va_up_self, if_neg (by omega)]
    refine (occ_congr (fun j hj => ?_)).symm
    rw [g2, va_up_ne _ _ (by omega)]
  · rw [g1] at hi
    show va_up (gA_fi G) (sA_n A) b i = fin (ldA A r) i
    unfold fin
    rw [g2, g3]
    by_cases e : i = sA_n A
    · subst e
      obtain ⟨-, -, f3, -⟩ := hI.2.2.2.2 (sA_n A) (Nat.le_refl _)
      have s3 : sA_sg (ldA A r) (sA_n A) = 0 := f3
      rw [va_up_self, va_up_self, va_up_self, s3, hb]
      show decide (sA_len A r = 0) = (5 == 5 && 0 == sA_len A r)
      by_cases h : sA_len A r = 0
      · simp [h]
      · have : ¬ 0 = sA_len A r := fun z => h z.symm
        simp [h, this]
    · rw [va_up_ne _ _ e, va_up_ne _ _ e, va_up_ne _ _ e]
      exact hC.2.1 i (by omega)
  · rw [g1] at hi
    rw [g2] at h4
    show va_up (gA_wt G) (sA_n A) 0 i = nI (sA_sn (ldA A r) i)
    by_cases e : i = sA_n A
    · subst e
      rw [va_up_self] at h4
      omega
    · rw [va_up_ne _ _ e] at h4 ⊢
      exact hC.2.2.1 i (by omega) h4
  · rw [g1] at z
    omega
end
section
abbrev rm_T_load : Room := { frames := 2, cells := 4, slots := 19, locals := 62 }
set_option maxRecDepth 20000 in
set_option maxHeartbeats 4000000 in
theorem c_T_load (l : Launch) (X : Xt) (G : Gc) (A : St) (Af : Nat → Prop) (x : Int32) (hI : Inv A) (hC : RC G A) : Met l y_T_load (Cond.code y_T_load b_T_load 3 (some .int) :: WA) rm_T_load (va_Pc [.ref (gA_ad G 0), .int x] (fun U => PL X Af (cw X G A) U.heap ∧ KK X U)) (va_Qi (AP G (loadF A x) (loadS A x)) (atC X Af) Af) 4 19 Af := by
  refine vx_met (cc := b_T_load) (maxL := 3) (ret := (some .int)) (by decide) rfl (Nat.le_of_ble_eq_true rfl) ?_
  intro p e s m below meth c ls hx hb hrt hts hown hlocks hname hml hB hl
  obtain ⟨⟨hP, hD, hA⟩, hK⟩ := hB
  have hown : s.vm.findClass R_ClusterTool = some m.cls := hown
  have hl : lv_has ls 3 [(0, .ref (gA_ad G 0)), (1, .int x)] := hl
  have hS : va_S Af s.heap s.heap [] := va_S.rf
  have hn := hI.1
  have hR := hI.2.1
  refine lv_aload_n hx hb d_T_load_0 rfl (lv_at hl 0 rfl) ?_
  refine va_get (D := X.1) (ci := 0) (C := R_ClusterTool) (T := F_ClusterTool) (N := 8) hx hb hts hin_ClusterTool hown hK.1 hP 0 cw_0 rfl 0 (by decide) (hts _ (wd_1 85 rfl rfl)) (fun _ h9 => h9) rfl d_T_load_1 ?_
  refine lv_iload_n hx hb d_T_load_4 rfl (lv_at hl 1 rfl) ?_
  refine va_csq (W.runV (As := [.int x]) (rest := []) ⟨hx, hb, hml, hown, hts⟩ (c_Y_routeOf l X G A x) (cwV 1 hts (gV (wd_1 114 rfl rfl) (wd_1 115 rfl rfl) (wd_1 116 rfl rfl) (wd_1 2 rfl rfl) (wd_1 117 rfl rfl)) rfl rfl rfl ⟨rfl, hd_Y_routeOf⟩ ⟨Nat.le_of_ble_eq_true rfl, Nat.le_of_ble_eq_true rfl⟩) (vx_preV (P := PR X G A) hP hK (va_recv hK.1 hP (ci := 1) rfl cw_1)) rfl rfl hl.1 rfl (lv_room (Nat.le_of_ble_eq_true rfl)) d_T_load_5 ⟨Nat.zero_le _, Nat.zero_le _⟩) (fun r5 e5 => ?_)
  cases q5 : f_Y_routeOf x with
  | none =>
    have e5 : r5 = none := by rw [e5, q5]; rfl
    subst e5
    refine lv_astore_nN (lv' := [(2, .null), (0, .ref (gA_ad G 0)), (1, .int x)]) hx hb d_T_load_8 rfl hl (by decide) rfl (fun ls hl => ?_)
    refine lv_aload_nN hx hb d_T_load_9 rfl (lv_at hl 0 rfl) ?_
    refine lv_ifnullN (tgt := 22) hx hb d_T_load_10 rfl ?_
    refine lv_iconst (v := (-1)) hx hb d_T_load_22 rfl ?_
    have hvo := load_none (A := A) (x := x) q5
    refine W.widen (k := 4) (n := 19) (by decide) (by decide) ?_
    exact W.iret (v := (-1)) hx hb hrt (fun t ht hW => ⟨⟨_, (G, A), rfl, ⟨hvo.1, hvo.2.symm, (by rw [hvo.2]; exact hC), rfl⟩, ⟨by rw [ht]; exact hP, hD⟩⟩, hS.F ht⟩) hS.2.2 d_T_load_23
  | some i5 =>
    have e5 : r5 = some (gA_ad G (8 + 4 * i5)) := by rw [e5, q5]; rfl
    subst e5
    have hli5 := routeOf_lt q5
    refine lv_astore_n (lv' := [(2, .ref (gA_ad G (8 + 4 * i5))), (0, .ref (gA_ad G 0)), (1, .int x)]) hx hb d_T_load_8 rfl hl (by decide) rfl (fun ls hl => ?_)
    refine lv_aload_n hx hb d_T_load_9 rfl (lv_at hl 0 rfl) ?_
    refine lv_ifnull hx hb d_T_load_10 ?_
    refine lv_aload_n hx hb d_T_load_13 rfl (lv_at hl 1 rfl) ?_
    refine va_get (D := X.1) (ci := 0) (C := R_ClusterTool) (T := F_ClusterTool) (N := 8) hx hb hts hin_ClusterTool hown hK.1 hP 0 cw_0 rfl 6 (by decide) (hts _ (wd_1 91 rfl rfl)) (fun _ h9 => h9) rfl d_T_load_14 ?_
    refine lv_bipush (v := 25) hx hb d_T_load_17 rfl ?_
    refine lv_icmp_lt (tgt := 24) hx hb d_T_load_19 rfl (fun h19 => ?_) (fun h19 => ?_)
    ·
      obtain rfl : x = nI i5 := routeOf_x q5
      have hn25 : sA_n A < 25 := Nat.lt_of_not_le fun z => (nI_nlt (a := sA_n A) (b := 25) z (by omega)) h19
      replace hP : va_P X.1 classes (cw X G A ++ []) s.heap := by rw [List.append_nil]; exact hP
      replace hD : va_D Af (cw X G A ++ []) := by rw [List.append_nil]; exact hD
      refine lv_aload_n hx hb d_T_load_24 rfl (lv_at hl 1 rfl) ?_
      refine va_get (D := X.1) (ci := 0) (C := R_ClusterTool) (T := F_ClusterTool) (N := 8) hx hb hts hin_ClusterTool hown hK.1 hP 0 (lwp cw_0) rfl 4 (by decide) (hts _ (wd_1 89 rfl rfl)) (fun _ h9 => h9) rfl d_T_load_25 ?_
      refine lv_aload_n hx hb d_T_load_28 rfl (lv_at hl 1 rfl) ?_
      refine va_get (D := X.1) (ci := 0) (C := R_ClusterTool) (T := F_ClusterTool) (N := 8) hx hb hts hin_ClusterTool hown hK.1 hP 0 (lwp cw_0) rfl 6 (by decide) (hts _ (wd_1 91 rfl rfl)) (fun _ h9 => h9) rfl d_T_load_29 ?_
      refine va_new (ci := 5) (fs := [.int 0, .null, .null, .null, .int 0, .int 0, .int 0, .int 0, .int 0, .int 0]) (C := R_Wafer) (T := F_Wafer) (N := 10) hx hb hts hin_Wafer t_Wafer t_Wafer_ok hown (hts _ (wd_1 83 rfl rfl)) (hts _ (wd_1 130 rfl rfl)) (hts _ (wd_1 7 rfl rfl)) hK.1 hP hD hS hA rfl (fun j hj => by rcases (show j = 0 ∨ j = 1 ∨ j = 2 ∨ j = 3 ∨ j = 4 ∨ j = 5 ∨ j = 6 ∨ j = 7 ∨ j = 8 ∨ j = 9 by omega) with rfl | rfl | rfl | rfl | rfl | rfl | rfl | rfl | rfl | rfl <;> rfl) (by decide) (by decide) d_T_load_32 (fun q32 H hP hD hS => ?_)
      replace hP := vx_P (List.append_assoc _ _ _) hP
      replace hD := vx_D (List.append_assoc _ _ _) hD
      have hP : va_P X.1 classes ((cw X G A) ++ [(q32, .inr (5, [.int 0, .null, .null, .null, .int 0, .int 0, .int 0, .int 0, .int 0, .int 0]))]) H := hP
      have hD : va_D Af ((cw X G A) ++ [(q32, .inr (5, [.int 0, .null, .null, .null, .int 0, .int 0, .int 0, .int 0, .int 0, .int 0]))]) := hD
      refine W.widen (k := 1) (n := 10) (by decide) (by decide) ?_
      refine lv_dup hx hb d_T_load_35 rfl ?_
      refine lv_iload_n hx hb d_T_load_36 rfl (lv_at hl 2 rfl) ?_
      refine lv_aload_n hx hb d_T_load_37 rfl (lv_at hl 0 rfl) ?_
      refine va_getN (D := X.1) (ci := 4) (C := R_Route) (T := F_Route) (N := 4) hx hb hts hin_Route hown hK.1 hP (8 + 4 * i5) (lwp (cw_r hli5)) rfl 3 (by decide) (va_Nw.use rfl (hK.2.1 _ (List.mem_of_getElem? (i := 2) rfl))) (fun _ h9 => h9) rfl d_T_load_38 ?_
      refine lv_if_ne (tgt := 48) hx hb d_T_load_41 rfl (fun h41 => ?_) (fun h41 => ?_)
      ·
        refine lv_iconst (v := 0) hx hb d_T_load_48 rfl ?_
        refine va_callv (va_runI (As := [.int (nI i5), .int (b2i false)]) (rest := [.ref q32, .int (nI (sA_n A)), .ref (gA_ad G 5)]) ⟨hx, hb, hml, hown, hts⟩ (c_W_init l X (cw X G A) Af q32 (nI i5) false) (cwI 2 hts (gC (wd_1 133 rfl rfl) rfl) rfl rfl rfl (hts _ (wd_1 7 rfl rfl)) (hts _ (wd_1 131 rfl rfl)) (hts _ (wd_1 132 rfl rfl)) rfl hd_W_init ⟨Nat.le_of_ble_eq_true rfl, Nat.le_of_ble_eq_true rfl⟩) (vx_preS (P := PL X Af ((cw X G A) ++ [(q32, .inr (5, [.int 0, .null, .null, .null, .int 0, .int 0, .int 0, .int 0, .int 0, .int 0]))])) ⟨hP, hD, fun q hq => hA q (Nat.le_trans hS.1 hq)⟩ hK) rfl rfl hl.1 rfl (lv_room (Nat.le_of_ble_eq_true rfl)) d_T_load_49 ⟨by decide, by decide⟩) hS (fun q _ h => h) (fun q h => h) (fun u49 t49 H locs ht hvm hu49 hB hz hk hS => ?_)
        obtain ⟨hP, hD⟩ := hB
        rw [ht] at hP
        have hP : va_P X.1 classes ((cw X G A) ++ [(q32, .inr (5, [.int (nI i5), .ref u49.1, .ref u49.2.1, .ref u49.2.2, .int 5, .int 0, .int 0, .int 0, .int (b2i false), .int 0])), (u49.1, .inl (x_I X, aI 3 (fun _ => 0))), (u49.2.1, .inl (x_I X, aI 3 (fun _ => 0))), (u49.2.2, .inl (x_I X, aI 3 (fun _ => 0)))]) H := hP
        have hD : va_D Af ((cw X G A) ++ [(q32, .inr (5, [.int (nI i5), .ref u49.1, .ref u49.2.1, .ref u49.2.2, .int 5, .int 0, .int 0, .int 0, .int (b2i false), .int 0])), (u49.1, .inl (x_I X, aI 3 (fun _ => 0))), (u49.2.1, .inl (x_I X, aI 3 (fun _ => 0))), (u49.2.2, .inl (x_I X, aI 3 (fun _ => 0)))]) := hD
        refine W.widen (k := 4) (n := 19) (by decide) (by decide) ?_
        refine va_astq hx hb hK.1 hP hD hS 5 3 ((cw X G A).length + 0) 5 (lwp cw_5) rfl (lwa 0 rfl) rfl (vp_in_nI (n := sA_n A) (by omega) (by omega)) d_T_load_52 (fun H locs hP hD hS => ?_)
        rw [nI_clamp (n := sA_n A) (by omega)] at hP hD
        replace hP := vx_P (lwq cw_5) hP
        replace hD := vx_D (lwq cw_5) hD
        refine lv_aload_n hx hb d_T_load_53 rfl (lv_at hl 1 rfl) ?_
        refine lv_dup hx hb d_T_load_54 rfl ?_
        refine va_get (D := X.1) (ci := 0) (C := R_ClusterTool) (T := F_ClusterTool) (N := 8) hx hb hts hin_ClusterTool hown hK.1 hP 0 (lwp (show ((cw X G A).set 5 _)[0]? = some (gA_ad G 0, .inr (0, o_tool G A)) from rfl)) rfl 6 (by decide) (hts _ (wd_1 91 rfl rfl)) (fun _ h9 => h9) rfl d_T_load_55 ?_
        refine lv_iconst (v := 1) hx hb d_T_load_58 rfl ?_
        refine lv_iadd hx hb d_T_load_59 ?_
        rw [nI_1]
        refine va_put (D := X.1) (ci := 0) (v := .int (nI (sA_n A + 1))) (ty := .int) (C := R_ClusterTool) (T := F_ClusterTool) (N := 8) hx hb hts hin_ClusterTool t_ClusterTool t_ClusterTool_ok n_ClusterTool hown hK.1 hP hD hS 0 (lwp (show ((cw X G A).set 5 _)[0]? = some (gA_ad G 0, .inr (0, o_tool G A)) from rfl)) rfl 6 (by decide) (hts _ (wd_1 91 rfl rfl)) (fun _ h9 => h9) rfl (by decide +kernel) rfl rfl (Nat.le_of_ble_eq_true rfl) d_T_load_60 (fun H locs hP hD hS => ?_)
        replace hP := vx_P (lwq (show ((cw X G A).set 5 _)[0]? = some (gA_ad G 0, .inr (0, o_tool G A)) from rfl)) hP
        replace hD := vx_D (lwq (show ((cw X G A).set 5 _)[0]? = some (gA_ad G 0, .inr (0, o_tool G A)) from rfl)) hD
        have hfr := hI.2.2.2.2 (sA_n A) (Nat.le_refl _)
        replace hP := vx_P (cw_load (X := X) (G := G) (A := A) (r := i5) (u := (q32, u49)) (b := false) hfr) hP
        replace hD := vx_D (cw_load (X := X) (G := G) (A := A) (r := i5) (u := (q32, u49)) (b := false) hfr) hD
        refine lv_aload_n hx hb d_T_load_63 rfl (lv_at hl 1 rfl) ?_
        refine va_get (D := X.1) (ci := 0) (a := gA_ad G 0) (C := R_ClusterTool) (T := F_ClusterTool) (N := 8) hx hb hts hin_ClusterTool hown hK.1 hP 0 (show (cw X (ldG G (sA_n A) (q32, u49) false) (ldA A i5))[0]? = some (gA_ad G 0, .inr (0, o_tool (ldG G (sA_n A) (q32, u49) false) (ldA A i5))) by rw [cw_0, show gA_ad (ldG G (sA_n A) (q32, u49) false) 0 = gA_ad G 0 from ldAd_lt (by omega)]) rfl 6 (by decide) (hts _ (wd_1 91 rfl rfl)) (fun _ h9 => h9) rfl d_T_load_64 ?_
        refine lv_iconst (v := 1) hx hb d_T_load_67 rfl ?_
        refine lv_isub hx hb d_T_load_68 ?_
        have hvo := load_ok q5 hn25
        have hbb : false = decide (sA_len A i5 = 0) := by
          have hz : ¬ sA_len A i5 = 0 := fun z => h41 (by rw [z]; rfl)
          simp [hz]
        exact W.iret (v := nI (sA_n A + 1) - 1) hx hb hrt (fun t ht hW => ⟨⟨_, (ldG G (sA_n A) (q32, u49) false, ldA A i5), rfl, ⟨(nI_pred _).trans hvo.1, hvo.2.symm, (by rw [hvo.2]; exact RC_load hI hC hbb), ldAd_lt (by omega)⟩, ⟨by rw [ht]; exact hP, hD⟩⟩, hS.F ht⟩) hS.2.2 d_T_load_69
      ·
        refine lv_iconst (v := 1) hx hb d_T_load_44 rfl ?_
        refine lv_goto (tgt := 49) hx hb d_T_load_45 rfl ?_
        refine va_callv (va_runI (As := [.int (nI i5), .int (b2i true)]) (rest := [.ref q32, .int (nI (sA_n A)), .ref (gA_ad G 5)]) ⟨hx, hb, hml, hown, hts⟩ (c_W_init l X (cw X G A) Af q32 (nI i5) true) (cwI 2 hts (gC (wd_1 133 rfl rfl) rfl) rfl rfl rfl (hts _ (wd_1 7 rfl rfl)) (hts _ (wd_1 131 rfl rfl)) (hts _ (wd_1 132 rfl rfl)) rfl hd_W_init ⟨Nat.le_of_ble_eq_true rfl, Nat.le_of_ble_eq_true rfl⟩) (vx_preS (P := PL X Af ((cw X G A) ++ [(q32, .inr (5, [.int 0, .null, .null, .null, .int 0, .int 0, .int 0, .int 0, .int 0, .int 0]))])) ⟨hP, hD, fun q hq => hA q (Nat.le_trans hS.1 hq)⟩ hK) rfl rfl hl.1 rfl (lv_room (Nat.le_of_ble_eq_true rfl)) d_T_load_49 ⟨by decide, by decide⟩) hS (fun q _ h => h) (fun q h => h) (fun u49 t49 H locs ht hvm hu49 hB hz hk hS => ?_)
        obtain ⟨hP, hD⟩ := hB
        rw [ht] at hP
        have hP : va_P X.1 classes ((cw X G A) ++ [(q32, .inr (5, [.int (nI i5), .ref u49.1, .ref u49.2.1, .ref u49.2.2, .int 5, .int 0, .int 0, .int 0, .int (b2i true), .int 0])), (u49.1, .inl (x_I X, aI 3 (fun _ => 0))), (u49.2.1, .inl (x_I X, aI 3 (fun _ => 0))), (u49.2.2, .inl (x_I X, aI 3 (fun _ => 0)))]) H := hP
        have hD : va_D Af ((cw X G A) ++ [(q32, .inr (5, [.int (nI i5), .ref u49.1, .ref u49.2.1, .ref u49.2.2, .int 5, .int 0, .int 0, .int 0, .int (b2i true), .int 0])), (u49.1, .inl (x_I X, aI 3 (fun _ => 0))), (u49.2.1, .inl (x_I X, aI 3 (fun _ => 0))), (u49.2.2, .inl (x_I X, aI 3 (fun _ => 0)))]) := hD
        refine W.widen (k := 4) (n := 19) (by decide) (by decide) ?_
        refine va_astq hx hb hK.1 hP hD hS 5 3 ((cw X G A).length + 0) 5 (lwp cw_5) rfl (lwa 0 rfl) rfl (vp_in_nI (n := sA_n A) (by omega) (by omega)) d_T_load_52 (fun H locs hP hD hS => ?_)
        rw [nI_clamp (n := sA_n A) (by omega)] at hP hD
        replace hP := vx_P (lwq cw_5) hP
        replace hD := vx_D (lwq cw_5) hD
        refine lv_aload_n hx hb d_T_load_53 rfl (lv_at hl 1 rfl) ?_
        refine lv_dup hx hb d_T_load_54 rfl ?_
        refine va_get (D := X.1) (ci := 0) (C := R_ClusterTool) (T := F_ClusterTool) (N := 8) hx hb hts hin_ClusterTool hown hK.1 hP 0 (lwp (show ((cw X G A).set 5 _)[0]? = some (gA_ad G 0, .inr (0, o_tool G A)) from rfl)) rfl 6 (by decide) (hts _ (wd_1 91 rfl rfl)) (fun _ h9 => h9) rfl d_T_load_55 ?_
        refine lv_iconst (v := 1) hx hb d_T_load_58 rfl ?_
        refine lv_iadd hx hb d_T_load_59 ?_
        rw [nI_1]
        refine va_put (D := X.1) (ci := 0) (v := .int (nI (sA_n A + 1))) (ty := .int) (C := R_ClusterTool) (T := F_ClusterTool) (N := 8) hx hb hts hin_ClusterTool t_ClusterTool t_ClusterTool_ok n_ClusterTool hown hK.1 hP hD hS 0 (lwp (show ((cw X G A).set 5 _)[0]? = some (gA_ad G 0, .inr (0, o_tool G A)) from rfl)) rfl 6 (by decide) (hts _ (wd_1 91 rfl rfl)) (fun _ h9 => h9) rfl (by decide +kernel) rfl rfl (Nat.le_of_ble_eq_true rfl) d_T_load_60 (fun H locs hP hD hS => ?_)
        replace hP := vx_P (lwq (show ((cw X G A).set 5 _)[0]? = some (gA_ad G 0, .inr (0, o_tool G A)) from rfl)) hP
        replace hD := vx_D (lwq (show ((cw X G A).set 5 _)[0]? = some (gA_ad G 0, .inr (0, o_tool G A)) from rfl)) hD
        have hfr := hI.2.2.2.2 (sA_n A) (Nat.le_refl _)
        replace hP := vx_P (cw_load (X := X) (G := G) (A := A) (r := i5) (u := (q32, u49)) (b := true) hfr) hP
        replace hD := vx_D (cw_load (X := X) (G := G) (A := A) (r := i5) (u := (q32, u49)) (b := true) hfr) hD
        refine lv_aload_n hx hb d_T_load_63 rfl (lv_at hl 1 rfl) ?_
        refine va_get (D := X.1) (ci := 0) (a := gA_ad G 0) (C := R_ClusterTool) (T := F_ClusterTool) (N := 8) hx hb hts hin_ClusterTool hown hK.1 hP 0 (show (cw X (ldG G (sA_n A) (q32, u49) true) (ldA A i5))[0]? = some (gA_ad G 0, .inr (0, o_tool (ldG G (sA_n A) (q32, u49) true) (ldA A i5))) by rw [cw_0, show gA_ad (ldG G (sA_n A) (q32, u49) true) 0 = gA_ad G 0 from ldAd_lt (by omega)]) rfl 6 (by decide) (hts _ (wd_1 91 rfl rfl)) (fun _ h9 => h9) rfl d_T_load_64 ?_
        refine lv_iconst (v := 1) hx hb d_T_load_67 rfl ?_
        refine lv_isub hx hb d_T_load_68 ?_
        have hvo := load_ok q5 hn25
        have hbb : true = decide (sA_len A i5 = 0) := by
          have hz : sA_len A i5 = 0 := (nI_eq (b := 0) (by have := hR.1 i5; omega) (by omega)).mp h41
          simp [hz]
        exact W.iret (v := nI (sA_n A + 1) - 1) hx hb hrt (fun t ht hW => ⟨⟨_, (ldG G (sA_n A) (q32, u49) true, ldA A i5), rfl, ⟨(nI_pred _).trans hvo.1, hvo.2.symm, (by rw [hvo.2]; exact RC_load hI hC hbb), ldAd_lt (by omega)⟩, ⟨by rw [ht]; exact hP, hD⟩⟩, hS.F ht⟩) hS.2.2 d_T_load_69
    ·
      refine lv_iconst (v := (-1)) hx hb d_T_load_22 rfl ?_
      have hvo := load_full (A := A) (x := x) q5 (Nat.le_of_not_lt fun z => h19 (nI_lt (b := 25) z (by omega)))
      refine W.widen (k := 4) (n := 19) (by decide) (by decide) ?_
      exact W.iret (v := (-1)) hx hb hrt (fun t ht hW => ⟨⟨_, (G, A), rfl, ⟨hvo.1, hvo.2.symm, (by rw [hvo.2]; exact hC), rfl⟩, ⟨by rw [ht]; exact hP, hD⟩⟩, hS.F ht⟩) hS.2.2 d_T_load_23
end
