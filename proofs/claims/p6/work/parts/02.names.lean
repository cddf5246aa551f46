def R_law : String := "WordGraphLaw"
def R_X : String := "WordGraph"
def F_X : u_T := fun k => match k with
  | 0 => ("WordGraph", "words", "[J", true)
  | 1 => ("WordGraph", "lengths", "[I", true)
  | 2 => ("WordGraph", "firstNew", "[I", true)
  | 3 => ("WordGraph", "wordCount", "I", false)
  | 4 => ("WordGraph", "sealed", "Z", false)
  | 5 => ("WordGraph", "nodeOf", "[I", true)
  | 6 => ("WordGraph", "nodeWord", "[I", true)
  | 7 => ("WordGraph", "nodeLetters", "[I", true)
  | 8 => ("WordGraph", "nodeCount", "I", false)
  | 9 => ("WordGraph", "resultWord", "[I", true)
  | 10 => ("WordGraph", "resultFar", "[I", true)
  | 11 => ("WordGraph", "resultCount", "I", false)
  | 12 => ("WordGraph", "table", "[I", true)
  | _ => ("WordGraph", "wordFar", "[I", true)
def t_X : Nat → FieldType := fun k => match k with
  | 0 => .array .long
  | 1 => .array .int
  | 2 => .array .int
  | 3 => .int
  | 4 => .boolean
  | 5 => .array .int
  | 6 => .array .int
  | 7 => .array .int
  | 8 => .int
  | 9 => .array .int
  | 10 => .array .int
  | 11 => .int
  | 12 => .array .int
  | _ => .array .int
theorem n_X : ∀ a, a < 14 → ∀ b, b < 14 → a ≠ b → (F_X a).2.1 ≠ (F_X b).2.1 := by decide +kernel
theorem t_X_ok : ∀ k, k < 14 → parseFieldDescriptor (F_X k).2.2.1 = some (t_X k) := by decide +kernel
theorem wg_inX : ∀ w ∈ u_ws R_X F_X 14, w ∈ wg_tbl := by
  intro w hw
  obtain ⟨j, hj, rfl⟩ := List.mem_map.mp hw
  have hj : j < 14 := List.mem_range.mp hj
  rcases (show j = 0 ∨ j = 1 ∨ j = 2 ∨ j = 3 ∨ j = 4 ∨ j = 5 ∨ j = 6 ∨ j = 7 ∨ j = 8 ∨ j = 9 ∨ j = 10 ∨ j = 11 ∨ j = 12 ∨ j = 13 by omega) with rfl | rfl | rfl | rfl | rfl | rfl | rfl | rfl | rfl | rfl | rfl | rfl | rfl | rfl
  · exact List.mem_filter.mpr ⟨List.mem_append_right _ (List.mem_of_getElem? (i := 30) (by decide +kernel)), rfl⟩
  · exact List.mem_filter.mpr ⟨List.mem_append_right _ (List.mem_of_getElem? (i := 32) (by decide +kernel)), rfl⟩
  · exact List.mem_filter.mpr ⟨List.mem_append_right _ (List.mem_of_getElem? (i := 34) (by decide +kernel)), rfl⟩
  · exact List.mem_filter.mpr ⟨List.mem_append_right _ (List.mem_of_getElem? (i := 36) (by decide +kernel)), rfl⟩
  · exact List.mem_filter.mpr ⟨List.mem_append_right _ (List.mem_of_getElem? (i := 38) (by decide +kernel)), rfl⟩
  · exact List.mem_filter.mpr ⟨List.mem_append_right _ (List.mem_of_getElem? (i := 40) (by decide +kernel)), rfl⟩
  · exact List.mem_filter.mpr ⟨List.mem_append_right _ (List.mem_of_getElem? (i := 42) (by decide +kernel)), rfl⟩
  · exact List.mem_filter.mpr ⟨List.mem_append_right _ (List.mem_of_getElem? (i := 44) (by decide +kernel)), rfl⟩
  · exact List.mem_filter.mpr ⟨List.mem_append_right _ (List.mem_of_getElem? (i := 46) (by decide +kernel)), rfl⟩
  · exact List.mem_filter.mpr ⟨List.mem_append_right _ (List.mem_of_getElem? (i := 48) (by decide +kernel)), rfl⟩
  · exact List.mem_filter.mpr ⟨List.mem_append_right _ (List.mem_of_getElem? (i := 50) (by decide +kernel)), rfl⟩
  · exact List.mem_filter.mpr ⟨List.mem_append_right _ (List.mem_of_getElem? (i := 52) (by decide +kernel)), rfl⟩
  · exact List.mem_filter.mpr ⟨List.mem_append_right _ (List.mem_of_getElem? (i := 54) (by decide +kernel)), rfl⟩
  · exact List.mem_filter.mpr ⟨List.mem_append_right _ (List.mem_of_getElem? (i := 56) (by decide +kernel)), rfl⟩
def R_M : String := "WordGraphModel"
def F_M : u_T := fun k => match k with
  | 0 => ("WordGraphModel", "words", "[J", true)
  | 1 => ("WordGraphModel", "size", "I", false)
  | 2 => ("WordGraphModel", "sealed", "Z", false)
  | 3 => ("WordGraphModel", "found", "I", false)
  | 4 => ("WordGraphModel", "result", "[I", true)
  | 5 => ("WordGraphModel", "far", "[I", true)
  | 6 => ("WordGraphModel", "node", "[I", true)
  | 7 => ("WordGraphModel", "ofWord", "[I", true)
  | 8 => ("WordGraphModel", "ofLength", "[I", true)
  | 9 => ("WordGraphModel", "nodes", "I", false)
  | _ => ("WordGraphModel", "table", "[I", true)
def t_M : Nat → FieldType := fun k => match k with
  | 0 => .array .long
  | 1 => .int
  | 2 => .boolean
  | 3 => .int
  | 4 => .array .int
  | 5 => .array .int
  | 6 => .array .int
  | 7 => .array .int
  | 8 => .array .int
  | 9 => .int
  | _ => .array .int
theorem n_M : ∀ a, a < 11 → ∀ b, b < 11 → a ≠ b → (F_M a).2.1 ≠ (F_M b).2.1 := by decide +kernel
theorem t_M_ok : ∀ k, k < 11 → parseFieldDescriptor (F_M k).2.2.1 = some (t_M k) := by decide +kernel
theorem wg_inM : ∀ w ∈ u_ws R_M F_M 11, w ∈ wg_tbl := by
  intro w hw
  obtain ⟨j, hj, rfl⟩ := List.mem_map.mp hw
  have hj : j < 11 := List.mem_range.mp hj
  rcases (show j = 0 ∨ j = 1 ∨ j = 2 ∨ j = 3 ∨ j = 4 ∨ j = 5 ∨ j = 6 ∨ j = 7 ∨ j = 8 ∨ j = 9 ∨ j = 10 by omega) with rfl | rfl | rfl | rfl | rfl | rfl | rfl | rfl | rfl | rfl | rfl
  · exact List.mem_filter.mpr ⟨List.mem_append_right _ (List.mem_of_getElem? (i := 206) (by decide +kernel)), rfl⟩
  · exact List.mem_filter.mpr ⟨List.mem_append_right _ (List.mem_of_getElem? (i := 208) (by decide +kernel)), rfl⟩
  · exact List.mem_filter.mpr ⟨List.mem_append_right _ (List.mem_of_getElem? (i := 210) (by decide +kernel)), rfl⟩
  · exact List.mem_filter.mpr ⟨List.mem_append_right _ (List.mem_of_getElem? (i := 212) (by decide +kernel)), rfl⟩
  · exact List.mem_filter.mpr ⟨List.mem_append_right _ (List.mem_of_getElem? (i := 214) (by decide +kernel)), rfl⟩
  · exact List.mem_filter.mpr ⟨List.mem_append_right _ (List.mem_of_getElem? (i := 216) (by decide +kernel)), rfl⟩
  · exact List.mem_filter.mpr ⟨List.mem_append_right _ (List.mem_of_getElem? (i := 218) (by decide +kernel)), rfl⟩
  · exact List.mem_filter.mpr ⟨List.mem_append_right _ (List.mem_of_getElem? (i := 220) (by decide +kernel)), rfl⟩
  · exact List.mem_filter.mpr ⟨List.mem_append_right _ (List.mem_of_getElem? (i := 222) (by decide +kernel)), rfl⟩
  · exact List.mem_filter.mpr ⟨List.mem_append_right _ (List.mem_of_getElem? (i := 224) (by decide +kernel)), rfl⟩
  · exact List.mem_filter.mpr ⟨List.mem_append_right _ (List.mem_of_getElem? (i := 226) (by decide +kernel)), rfl⟩
abbrev b_X_init : ByteArray := prog_1_method_1_code
def y_X_init : MethodName := ⟨"WordGraph", "<init>", "()V"⟩
theorem kd_X_init : Cond.code y_X_init b_X_init 1 none ∈ wg_tbl := List.mem_filter.mpr ⟨List.mem_append_right _ (List.mem_of_getElem? (i := 8) rfl), rfl⟩
abbrev b_X_add : ByteArray := prog_1_method_2_code
def y_X_add : MethodName := ⟨"WordGraph", "add", "(J)I"⟩
theorem kd_X_add : Cond.code y_X_add b_X_add 3 (some .int) ∈ wg_tbl := List.mem_filter.mpr ⟨List.mem_append_right _ (List.mem_of_getElem? (i := 64) rfl), rfl⟩
abbrev b_X_beginsAs : ByteArray := prog_1_method_24_code
def y_X_beginsAs : MethodName := ⟨"WordGraph", "beginsAs", "(III)Z"⟩
theorem kd_X_beginsAs : Cond.code y_X_beginsAs b_X_beginsAs 4 (some .boolean) ∈ wg_tbl := List.mem_filter.mpr ⟨List.mem_append_right _ (List.mem_of_getElem? (i := 104) rfl), rfl⟩
abbrev b_X_clear : ByteArray := prog_1_method_4_code
def y_X_clear : MethodName := ⟨"WordGraph", "clear", "()V"⟩
theorem kd_X_clear : Cond.code y_X_clear b_X_clear 1 none ∈ wg_tbl := List.mem_filter.mpr ⟨List.mem_append_right _ (List.mem_of_getElem? (i := 15) rfl), rfl⟩
abbrev b_X_distance : ByteArray := prog_1_method_12_code
def y_X_distance : MethodName := ⟨"WordGraph", "distance", "(JI)I"⟩
theorem kd_X_distance : Cond.code y_X_distance b_X_distance 5 (some .int) ∈ wg_tbl := List.mem_filter.mpr ⟨List.mem_append_right _ (List.mem_of_getElem? (i := 146) rfl), rfl⟩
abbrev b_X_earlierNode : ByteArray := prog_1_method_27_code
def y_X_earlierNode : MethodName := ⟨"WordGraph", "earlierNode", "(II)I"⟩
theorem kd_X_earlierNode : Cond.code y_X_earlierNode b_X_earlierNode 6 (some .int) ∈ wg_tbl := List.mem_filter.mpr ⟨List.mem_append_right _ (List.mem_of_getElem? (i := 96) rfl), rfl⟩
abbrev b_X_endings : ByteArray := prog_1_method_11_code
def y_X_endings : MethodName := ⟨"WordGraph", "endings", "(I)I"⟩
theorem kd_X_endings : Cond.code y_X_endings b_X_endings 5 (some .int) ∈ wg_tbl := List.mem_filter.mpr ⟨List.mem_append_right _ (List.mem_of_getElem? (i := 142) rfl), rfl⟩
abbrev b_X_ends : ByteArray := prog_1_method_10_code
def y_X_ends : MethodName := ⟨"WordGraph", "ends", "(I)Z"⟩
theorem kd_X_ends : Cond.code y_X_ends b_X_ends 3 (some .boolean) ∈ wg_tbl := List.mem_filter.mpr ⟨List.mem_append_right _ (List.mem_of_getElem? (i := 138) rfl), rfl⟩
abbrev b_X_far : ByteArray := prog_1_method_15_code
def y_X_far : MethodName := ⟨"WordGraph", "far", "(I)I"⟩
theorem kd_X_far : Cond.code y_X_far b_X_far 2 (some .int) ∈ wg_tbl := List.mem_filter.mpr ⟨List.mem_append_right _ (List.mem_of_getElem? (i := 188) rfl), rfl⟩
abbrev b_X_farOfWord : ByteArray := prog_1_method_31_code
def y_X_farOfWord : MethodName := ⟨"WordGraph", "farOfWord", "(IIJI)I"⟩
theorem kd_X_farOfWord : Cond.code y_X_farOfWord b_X_farOfWord 7 (some .int) ∈ wg_tbl := List.mem_filter.mpr ⟨List.mem_append_right _ (List.mem_of_getElem? (i := 154) rfl), rfl⟩
abbrev b_X_fillFirstRow : ByteArray := prog_1_method_29_code
def y_X_fillFirstRow : MethodName := ⟨"WordGraph", "fillFirstRow", "(I)V"⟩
theorem kd_X_fillFirstRow : Cond.code y_X_fillFirstRow b_X_fillFirstRow 3 none ∈ wg_tbl := List.mem_filter.mpr ⟨List.mem_append_right _ (List.mem_of_getElem? (i := 150) rfl), rfl⟩
abbrev b_X_fillRow : ByteArray := prog_1_method_30_code
def y_X_fillRow : MethodName := ⟨"WordGraph", "fillRow", "(IIJI)V"⟩
theorem kd_X_fillRow : Cond.code y_X_fillRow b_X_fillRow 11 none ∈ wg_tbl := List.mem_filter.mpr ⟨List.mem_append_right _ (List.mem_of_getElem? (i := 158) rfl), rfl⟩
abbrev b_X_find : ByteArray := prog_1_method_7_code
def y_X_find : MethodName := ⟨"WordGraph", "find", "(J)I"⟩
theorem kd_X_find : Cond.code y_X_find b_X_find 4 (some .int) ∈ wg_tbl := List.mem_filter.mpr ⟨List.mem_append_right _ (List.mem_of_getElem? (i := 122) rfl), rfl⟩
abbrev b_X_hasNode : ByteArray := prog_1_method_17_code
def y_X_hasNode : MethodName := ⟨"WordGraph", "hasNode", "(I)Z"⟩
theorem kd_X_hasNode : Cond.code y_X_hasNode b_X_hasNode 2 (some .boolean) ∈ wg_tbl := List.mem_filter.mpr ⟨List.mem_append_right _ (List.mem_of_getElem? (i := 134) rfl), rfl⟩
abbrev b_X_hasResult : ByteArray := prog_1_method_18_code
def y_X_hasResult : MethodName := ⟨"WordGraph", "hasResult", "(I)Z"⟩
theorem kd_X_hasResult : Cond.code y_X_hasResult b_X_hasResult 2 (some .boolean) ∈ wg_tbl := List.mem_filter.mpr ⟨List.mem_append_right _ (List.mem_of_getElem? (i := 184) rfl), rfl⟩
abbrev b_X_hasWord : ByteArray := prog_1_method_16_code
def y_X_hasWord : MethodName := ⟨"WordGraph", "hasWord", "(I)Z"⟩
theorem kd_X_hasWord : Cond.code y_X_hasWord b_X_hasWord 2 (some .boolean) ∈ wg_tbl := List.mem_filter.mpr ⟨List.mem_append_right _ (List.mem_of_getElem? (i := 117) rfl), rfl⟩
abbrev b_X_isWord : ByteArray := prog_1_method_21_code
def y_X_isWord : MethodName := ⟨"WordGraph", "isWord", "(J)Z"⟩
theorem kd_X_isWord : Cond.code y_X_isWord b_X_isWord 4 (some .boolean) ∈ wg_tbl := List.mem_filter.mpr ⟨List.mem_append_right _ (List.mem_of_getElem? (i := 67) rfl), rfl⟩
abbrev b_X_lengthOf : ByteArray := prog_1_method_20_code
def y_X_lengthOf : MethodName := ⟨"WordGraph", "lengthOf", "(J)I"⟩
theorem kd_X_lengthOf : Cond.code y_X_lengthOf b_X_lengthOf 3 (some .int) ∈ wg_tbl := List.mem_filter.mpr ⟨List.mem_append_right _ (List.mem_of_getElem? (i := 71) rfl), rfl⟩
abbrev b_X_letterAt : ByteArray := prog_1_method_19_code
def y_X_letterAt : MethodName := ⟨"WordGraph", "letterAt", "(JI)I"⟩
theorem kd_X_letterAt : Cond.code y_X_letterAt b_X_letterAt 3 (some .int) ∈ wg_tbl := List.mem_filter.mpr ⟨List.mem_append_right _ (List.mem_of_getElem? (i := 74) rfl), rfl⟩
abbrev b_X_makeNode : ByteArray := prog_1_method_25_code
def y_X_makeNode : MethodName := ⟨"WordGraph", "makeNode", "(II)I"⟩
theorem kd_X_makeNode : Cond.code y_X_makeNode b_X_makeNode 3 (some .int) ∈ wg_tbl := List.mem_filter.mpr ⟨List.mem_append_right _ (List.mem_of_getElem? (i := 88) rfl), rfl⟩
abbrev b_X_measureAll : ByteArray := prog_1_method_32_code
def y_X_measureAll : MethodName := ⟨"WordGraph", "measureAll", "(J)V"⟩
theorem kd_X_measureAll : Cond.code y_X_measureAll b_X_measureAll 5 none ∈ wg_tbl := List.mem_filter.mpr ⟨List.mem_append_right _ (List.mem_of_getElem? (i := 169) rfl), rfl⟩
abbrev b_X_nodes : ByteArray := prog_1_method_8_code
def y_X_nodes : MethodName := ⟨"WordGraph", "nodes", "()I"⟩
theorem kd_X_nodes : Cond.code y_X_nodes b_X_nodes 1 (some .int) ∈ wg_tbl := List.mem_filter.mpr ⟨List.mem_append_right _ (List.mem_of_getElem? (i := 126) rfl), rfl⟩
abbrev b_X_numberBeginnings : ByteArray := prog_1_method_26_code
def y_X_numberBeginnings : MethodName := ⟨"WordGraph", "numberBeginnings", "(I)V"⟩
theorem kd_X_numberBeginnings : Cond.code y_X_numberBeginnings b_X_numberBeginnings 4 none ∈ wg_tbl := List.mem_filter.mpr ⟨List.mem_append_right _ (List.mem_of_getElem? (i := 92) rfl), rfl⟩
abbrev b_X_restOf : ByteArray := prog_1_method_22_code
def y_X_restOf : MethodName := ⟨"WordGraph", "restOf", "(JI)J"⟩
theorem kd_X_restOf : Cond.code y_X_restOf b_X_restOf 3 (some .long) ∈ wg_tbl := List.mem_filter.mpr ⟨List.mem_append_right _ (List.mem_of_getElem? (i := 77) rfl), rfl⟩
abbrev b_X_result : ByteArray := prog_1_method_14_code
def y_X_result : MethodName := ⟨"WordGraph", "result", "(I)I"⟩
theorem kd_X_result : Cond.code y_X_result b_X_result 2 (some .int) ∈ wg_tbl := List.mem_filter.mpr ⟨List.mem_append_right _ (List.mem_of_getElem? (i := 180) rfl), rfl⟩
abbrev b_X_sameEndings : ByteArray := prog_1_method_28_code
def y_X_sameEndings : MethodName := ⟨"WordGraph", "sameEndings", "(IIII)Z"⟩
theorem kd_X_sameEndings : Cond.code y_X_sameEndings b_X_sameEndings 8 (some .boolean) ∈ wg_tbl := List.mem_filter.mpr ⟨List.mem_append_right _ (List.mem_of_getElem? (i := 100) rfl), rfl⟩
abbrev b_X_seal : ByteArray := prog_1_method_3_code
def y_X_seal : MethodName := ⟨"WordGraph", "seal", "()Z"⟩
theorem kd_X_seal : Cond.code y_X_seal b_X_seal 2 (some .boolean) ∈ wg_tbl := List.mem_filter.mpr ⟨List.mem_append_right _ (List.mem_of_getElem? (i := 84) rfl), rfl⟩
abbrev b_X_search : ByteArray := prog_1_method_13_code
def y_X_search : MethodName := ⟨"WordGraph", "search", "(JI)I"⟩
theorem kd_X_search : Cond.code y_X_search b_X_search 5 (some .int) ∈ wg_tbl := List.mem_filter.mpr ⟨List.mem_append_right _ (List.mem_of_getElem? (i := 165) rfl), rfl⟩
abbrev b_X_sharedLetters : ByteArray := prog_1_method_23_code
def y_X_sharedLetters : MethodName := ⟨"WordGraph", "sharedLetters", "(JJ)I"⟩
theorem kd_X_sharedLetters : Cond.code y_X_sharedLetters b_X_sharedLetters 5 (some .int) ∈ wg_tbl := List.mem_filter.mpr ⟨List.mem_append_right _ (List.mem_of_getElem? (i := 80) rfl), rfl⟩
abbrev b_X_size : ByteArray := prog_1_method_5_code
def y_X_size : MethodName := ⟨"WordGraph", "size", "()I"⟩
theorem kd_X_size : Cond.code y_X_size b_X_size 1 (some .int) ∈ wg_tbl := List.mem_filter.mpr ⟨List.mem_append_right _ (List.mem_of_getElem? (i := 109) rfl), rfl⟩
abbrev b_X_step : ByteArray := prog_1_method_9_code
def y_X_step : MethodName := ⟨"WordGraph", "step", "(II)I"⟩
theorem kd_X_step : Cond.code y_X_step b_X_step 6 (some .int) ∈ wg_tbl := List.mem_filter.mpr ⟨List.mem_append_right _ (List.mem_of_getElem? (i := 130) rfl), rfl⟩
abbrev b_X_takeResults : ByteArray := prog_1_method_33_code
def y_X_takeResults : MethodName := ⟨"WordGraph", "takeResults", "(I)V"⟩
theorem kd_X_takeResults : Cond.code y_X_takeResults b_X_takeResults 3 none ∈ wg_tbl := List.mem_filter.mpr ⟨List.mem_append_right _ (List.mem_of_getElem? (i := 176) rfl), rfl⟩
abbrev b_X_word : ByteArray := prog_1_method_6_code
def y_X_word : MethodName := ⟨"WordGraph", "word", "(I)J"⟩
theorem kd_X_word : Cond.code y_X_word b_X_word 2 (some .long) ∈ wg_tbl := List.mem_filter.mpr ⟨List.mem_append_right _ (List.mem_of_getElem? (i := 113) rfl), rfl⟩
abbrev b_M_init : ByteArray := prog_3_method_1_code
def y_M_init : MethodName := ⟨"WordGraphModel", "<init>", "()V"⟩
theorem kd_M_init : Cond.code y_M_init b_M_init 1 none ∈ wg_tbl := List.mem_filter.mpr ⟨List.mem_append_right _ (List.mem_of_getElem? (i := 193) rfl), rfl⟩
abbrev b_M_add : ByteArray := prog_3_method_5_code
def y_M_add : MethodName := ⟨"WordGraphModel", "add", "(J)I"⟩
theorem kd_M_add : Cond.code y_M_add b_M_add 3 (some .int) ∈ wg_tbl := List.mem_filter.mpr ⟨List.mem_append_right _ (List.mem_of_getElem? (i := 232) rfl), rfl⟩
abbrev b_M_also : ByteArray := prog_3_method_7_code
def y_M_also : MethodName := ⟨"WordGraphModel", "also", "(IIII)Z"⟩
theorem kd_M_also : Cond.code y_M_also b_M_also 8 (some .boolean) ∈ wg_tbl := List.mem_filter.mpr ⟨List.mem_append_right _ (List.mem_of_getElem? (i := 261) rfl), rfl⟩
abbrev b_M_between : ByteArray := prog_3_method_20_code
def y_M_between : MethodName := ⟨"WordGraphModel", "between", "(JJ)I"⟩
theorem kd_M_between : Cond.code y_M_between b_M_between 10 (some .int) ∈ wg_tbl := List.mem_filter.mpr ⟨List.mem_append_right _ (List.mem_of_getElem? (i := 306) rfl), rfl⟩
abbrev b_M_clear : ByteArray := prog_3_method_11_code
def y_M_clear : MethodName := ⟨"WordGraphModel", "clear", "()V"⟩
theorem kd_M_clear : Cond.code y_M_clear b_M_clear 1 none ∈ wg_tbl := List.mem_filter.mpr ⟨List.mem_append_right _ (List.mem_of_getElem? (i := 265) rfl), rfl⟩
abbrev b_M_distance : ByteArray := prog_3_method_21_code
def y_M_distance : MethodName := ⟨"WordGraphModel", "distance", "(JI)I"⟩
theorem kd_M_distance : Cond.code y_M_distance b_M_distance 4 (some .int) ∈ wg_tbl := List.mem_filter.mpr ⟨List.mem_append_right _ (List.mem_of_getElem? (i := 302) rfl), rfl⟩
abbrev b_M_endings : ByteArray := prog_3_method_19_code
def y_M_endings : MethodName := ⟨"WordGraphModel", "endings", "(I)I"⟩
theorem kd_M_endings : Cond.code y_M_endings b_M_endings 4 (some .int) ∈ wg_tbl := List.mem_filter.mpr ⟨List.mem_append_right _ (List.mem_of_getElem? (i := 298) rfl), rfl⟩
abbrev b_M_ends : ByteArray := prog_3_method_18_code
def y_M_ends : MethodName := ⟨"WordGraphModel", "ends", "(I)Z"⟩
theorem kd_M_ends : Cond.code y_M_ends b_M_ends 3 (some .boolean) ∈ wg_tbl := List.mem_filter.mpr ⟨List.mem_append_right _ (List.mem_of_getElem? (i := 294) rfl), rfl⟩
abbrev b_M_far : ByteArray := prog_3_method_24_code
def y_M_far : MethodName := ⟨"WordGraphModel", "far", "(I)I"⟩
theorem kd_M_far : Cond.code y_M_far b_M_far 2 (some .int) ∈ wg_tbl := List.mem_filter.mpr ⟨List.mem_append_right _ (List.mem_of_getElem? (i := 318) rfl), rfl⟩
abbrev b_M_find : ByteArray := prog_3_method_14_code
def y_M_find : MethodName := ⟨"WordGraphModel", "find", "(J)I"⟩
theorem kd_M_find : Cond.code y_M_find b_M_find 4 (some .int) ∈ wg_tbl := List.mem_filter.mpr ⟨List.mem_append_right _ (List.mem_of_getElem? (i := 278) rfl), rfl⟩
abbrev b_M_isNode : ByteArray := prog_3_method_16_code
def y_M_isNode : MethodName := ⟨"WordGraphModel", "isNode", "(I)Z"⟩
theorem kd_M_isNode : Cond.code y_M_isNode b_M_isNode 2 (some .boolean) ∈ wg_tbl := List.mem_filter.mpr ⟨List.mem_append_right _ (List.mem_of_getElem? (i := 290) rfl), rfl⟩
abbrev b_M_isWord : ByteArray := prog_3_method_4_code
def y_M_isWord : MethodName := ⟨"WordGraphModel", "isWord", "(J)Z"⟩
theorem kd_M_isWord : Cond.code y_M_isWord b_M_isWord 3 (some .boolean) ∈ wg_tbl := List.mem_filter.mpr ⟨List.mem_append_right _ (List.mem_of_getElem? (i := 235) rfl), rfl⟩
abbrev b_M_length : ByteArray := prog_3_method_3_code
def y_M_length : MethodName := ⟨"WordGraphModel", "length", "(J)I"⟩
theorem kd_M_length : Cond.code y_M_length b_M_length 4 (some .int) ∈ wg_tbl := List.mem_filter.mpr ⟨List.mem_append_right _ (List.mem_of_getElem? (i := 245) rfl), rfl⟩
abbrev b_M_letter : ByteArray := prog_3_method_2_code
def y_M_letter : MethodName := ⟨"WordGraphModel", "letter", "(JI)I"⟩
theorem kd_M_letter : Cond.code y_M_letter b_M_letter 3 (some .int) ∈ wg_tbl := List.mem_filter.mpr ⟨List.mem_append_right _ (List.mem_of_getElem? (i := 238) rfl), rfl⟩
abbrev b_M_nodeOf : ByteArray := prog_3_method_9_code
def y_M_nodeOf : MethodName := ⟨"WordGraphModel", "nodeOf", "(II)I"⟩
theorem kd_M_nodeOf : Cond.code y_M_nodeOf b_M_nodeOf 4 (some .int) ∈ wg_tbl := List.mem_filter.mpr ⟨List.mem_append_right _ (List.mem_of_getElem? (i := 249) rfl), rfl⟩
abbrev b_M_nodes : ByteArray := prog_3_method_15_code
def y_M_nodes : MethodName := ⟨"WordGraphModel", "nodes", "()I"⟩
theorem kd_M_nodes : Cond.code y_M_nodes b_M_nodes 1 (some .int) ∈ wg_tbl := List.mem_filter.mpr ⟨List.mem_append_right _ (List.mem_of_getElem? (i := 282) rfl), rfl⟩
abbrev b_M_result : ByteArray := prog_3_method_23_code
def y_M_result : MethodName := ⟨"WordGraphModel", "result", "(I)I"⟩
theorem kd_M_result : Cond.code y_M_result b_M_result 2 (some .int) ∈ wg_tbl := List.mem_filter.mpr ⟨List.mem_append_right _ (List.mem_of_getElem? (i := 314) rfl), rfl⟩
abbrev b_M_seal : ByteArray := prog_3_method_10_code
def y_M_seal : MethodName := ⟨"WordGraphModel", "seal", "()Z"⟩
theorem kd_M_seal : Cond.code y_M_seal b_M_seal 3 (some .boolean) ∈ wg_tbl := List.mem_filter.mpr ⟨List.mem_append_right _ (List.mem_of_getElem? (i := 242) rfl), rfl⟩
abbrev b_M_search : ByteArray := prog_3_method_22_code
def y_M_search : MethodName := ⟨"WordGraphModel", "search", "(JI)I"⟩
theorem kd_M_search : Cond.code y_M_search b_M_search 6 (some .int) ∈ wg_tbl := List.mem_filter.mpr ⟨List.mem_append_right _ (List.mem_of_getElem? (i := 310) rfl), rfl⟩
abbrev b_M_share : ByteArray := prog_3_method_6_code
def y_M_share : MethodName := ⟨"WordGraphModel", "share", "(III)Z"⟩
theorem kd_M_share : Cond.code y_M_share b_M_share 5 (some .boolean) ∈ wg_tbl := List.mem_filter.mpr ⟨List.mem_append_right _ (List.mem_of_getElem? (i := 257) rfl), rfl⟩
abbrev b_M_size : ByteArray := prog_3_method_12_code
def y_M_size : MethodName := ⟨"WordGraphModel", "size", "()I"⟩
theorem kd_M_size : Cond.code y_M_size b_M_size 1 (some .int) ∈ wg_tbl := List.mem_filter.mpr ⟨List.mem_append_right _ (List.mem_of_getElem? (i := 269) rfl), rfl⟩
abbrev b_M_step : ByteArray := prog_3_method_17_code
def y_M_step : MethodName := ⟨"WordGraphModel", "step", "(II)I"⟩
theorem kd_M_step : Cond.code y_M_step b_M_step 4 (some .int) ∈ wg_tbl := List.mem_filter.mpr ⟨List.mem_append_right _ (List.mem_of_getElem? (i := 286) rfl), rfl⟩
abbrev b_M_within : ByteArray := prog_3_method_8_code
def y_M_within : MethodName := ⟨"WordGraphModel", "within", "(IIII)Z"⟩
theorem kd_M_within : Cond.code y_M_within b_M_within 6 (some .boolean) ∈ wg_tbl := List.mem_filter.mpr ⟨List.mem_append_right _ (List.mem_of_getElem? (i := 253) rfl), rfl⟩
abbrev b_M_word : ByteArray := prog_3_method_13_code
def y_M_word : MethodName := ⟨"WordGraphModel", "word", "(I)J"⟩
theorem kd_M_word : Cond.code y_M_word b_M_word 2 (some .long) ∈ wg_tbl := List.mem_filter.mpr ⟨List.mem_append_right _ (List.mem_of_getElem? (i := 273) rfl), rfl⟩
theorem kz_X : Cond.initialized R_X ∈ wg_tbl := List.mem_filter.mpr ⟨List.mem_append_right _ (List.mem_of_getElem? (i := 1) (by decide +kernel)), rfl⟩
theorem ki_X : Cond.instantiable R_X 14 ∈ wg_tbl := List.mem_filter.mpr ⟨List.mem_append_right _ (List.mem_of_getElem? (i := 5) (by decide +kernel)), rfl⟩
theorem kz_M : Cond.initialized R_M ∈ wg_tbl := List.mem_filter.mpr ⟨List.mem_append_right _ (List.mem_of_getElem? (i := 2) (by decide +kernel)), rfl⟩
theorem ki_M : Cond.instantiable R_M 11 ∈ wg_tbl := List.mem_filter.mpr ⟨List.mem_append_right _ (List.mem_of_getElem? (i := 190) (by decide +kernel)), rfl⟩
theorem ka_i : Cond.arrayClass .int ∈ wg_tbl := List.mem_filter.mpr ⟨List.mem_append_right _ (List.mem_of_getElem? (i := 60) (by decide +kernel)), rfl⟩
theorem ka_j : Cond.arrayClass .long ∈ wg_tbl := List.mem_filter.mpr ⟨List.mem_append_right _ (List.mem_of_getElem? (i := 59) (by decide +kernel)), rfl⟩
theorem ko_inst : Cond.instanceMethod objectInit ∈ wg_tbl := List.mem_filter.mpr ⟨List.mem_append_right _ (List.mem_of_getElem? (i := 10) (by decide +kernel)), rfl⟩
theorem ko_code : Cond.code objectInit ⟨#[0xb1]⟩ 1 none ∈ wg_tbl := List.mem_filter.mpr ⟨List.mem_append_right _ (List.mem_of_getElem? (i := 11) rfl), rfl⟩
theorem ko_X : Cond.methodLink R_X 3 objectInit ∈ wg_tbl := List.mem_filter.mpr ⟨List.mem_append_right _ (List.mem_of_getElem? (i := 9) (by decide +kernel)), rfl⟩
theorem kf_X_9 : Cond.fieldLink R_X 9 "WordGraph" "words" "[J" ∈ wg_tbl := List.mem_filter.mpr ⟨List.mem_append_right _ (List.mem_of_getElem? (i := 16) (by decide +kernel)), rfl⟩
theorem kf_X_13 : Cond.fieldLink R_X 13 "WordGraph" "lengths" "[I" ∈ wg_tbl := List.mem_filter.mpr ⟨List.mem_append_right _ (List.mem_of_getElem? (i := 17) (by decide +kernel)), rfl⟩
theorem kf_X_17 : Cond.fieldLink R_X 17 "WordGraph" "firstNew" "[I" ∈ wg_tbl := List.mem_filter.mpr ⟨List.mem_append_right _ (List.mem_of_getElem? (i := 18) (by decide +kernel)), rfl⟩
theorem kf_X_20 : Cond.fieldLink R_X 20 "WordGraph" "nodeOf" "[I" ∈ wg_tbl := List.mem_filter.mpr ⟨List.mem_append_right _ (List.mem_of_getElem? (i := 21) (by decide +kernel)), rfl⟩
theorem kf_X_23 : Cond.fieldLink R_X 23 "WordGraph" "nodeWord" "[I" ∈ wg_tbl := List.mem_filter.mpr ⟨List.mem_append_right _ (List.mem_of_getElem? (i := 22) (by decide +kernel)), rfl⟩
theorem kf_X_26 : Cond.fieldLink R_X 26 "WordGraph" "nodeLetters" "[I" ∈ wg_tbl := List.mem_filter.mpr ⟨List.mem_append_right _ (List.mem_of_getElem? (i := 23) (by decide +kernel)), rfl⟩
theorem kf_X_29 : Cond.fieldLink R_X 29 "WordGraph" "resultWord" "[I" ∈ wg_tbl := List.mem_filter.mpr ⟨List.mem_append_right _ (List.mem_of_getElem? (i := 25) (by decide +kernel)), rfl⟩
theorem kf_X_32 : Cond.fieldLink R_X 32 "WordGraph" "resultFar" "[I" ∈ wg_tbl := List.mem_filter.mpr ⟨List.mem_append_right _ (List.mem_of_getElem? (i := 26) (by decide +kernel)), rfl⟩
theorem kf_X_35 : Cond.fieldLink R_X 35 "WordGraph" "table" "[I" ∈ wg_tbl := List.mem_filter.mpr ⟨List.mem_append_right _ (List.mem_of_getElem? (i := 28) (by decide +kernel)), rfl⟩
theorem kf_X_38 : Cond.fieldLink R_X 38 "WordGraph" "wordFar" "[I" ∈ wg_tbl := List.mem_filter.mpr ⟨List.mem_append_right _ (List.mem_of_getElem? (i := 29) (by decide +kernel)), rfl⟩
theorem kf_X_44 : Cond.fieldLink R_X 44 "WordGraph" "sealed" "Z" ∈ wg_tbl := List.mem_filter.mpr ⟨List.mem_append_right _ (List.mem_of_getElem? (i := 20) (by decide +kernel)), rfl⟩
theorem kf_X_52 : Cond.fieldLink R_X 52 "WordGraph" "wordCount" "I" ∈ wg_tbl := List.mem_filter.mpr ⟨List.mem_append_right _ (List.mem_of_getElem? (i := 19) (by decide +kernel)), rfl⟩
theorem kf_X_72 : Cond.fieldLink R_X 72 "WordGraph" "nodeCount" "I" ∈ wg_tbl := List.mem_filter.mpr ⟨List.mem_append_right _ (List.mem_of_getElem? (i := 24) (by decide +kernel)), rfl⟩
theorem kf_X_75 : Cond.fieldLink R_X 75 "WordGraph" "resultCount" "I" ∈ wg_tbl := List.mem_filter.mpr ⟨List.mem_append_right _ (List.mem_of_getElem? (i := 27) (by decide +kernel)), rfl⟩
theorem kl_X_82 : Cond.constantLong R_X 82 ((-1)) ∈ wg_tbl := List.mem_filter.mpr ⟨List.mem_append_right _ (List.mem_of_getElem? (i := 118) rfl), rfl⟩
theorem kl_X_112 : Cond.constantLong R_X 112 (lN 1152921504606846975) ∈ wg_tbl := List.mem_filter.mpr ⟨List.mem_append_right _ (List.mem_of_getElem? (i := 68) rfl), rfl⟩
theorem wg_mmin_125 : Cond.methodLink R_X 125 Lib.Math.min.name ∈ wg_tbl ∧ Cond.static Lib.Math.min.name ∈ wg_tbl ∧ Cond.initialized "java/lang/Math" ∈ wg_tbl ∧ Cond.code Lib.Math.min.name Lib.Math.min.code 2 (some .int) ∈ wg_tbl := ⟨List.mem_filter.mpr ⟨List.mem_append_right _ (List.mem_of_getElem? (i := 159) (by decide +kernel)), rfl⟩, List.mem_filter.mpr ⟨List.mem_append_right _ (List.mem_of_getElem? (i := 160) (by decide +kernel)), rfl⟩, List.mem_filter.mpr ⟨List.mem_append_right _ (List.mem_of_getElem? (i := 3) (by decide +kernel)), rfl⟩, List.mem_filter.mpr ⟨List.mem_append_right _ (List.mem_of_getElem? (i := 161) rfl), rfl⟩⟩
theorem wg_mmax_134 : Cond.methodLink R_X 134 Lib.Math.max.name ∈ wg_tbl ∧ Cond.static Lib.Math.max.name ∈ wg_tbl ∧ Cond.initialized "java/lang/Math" ∈ wg_tbl ∧ Cond.code Lib.Math.max.name Lib.Math.max.code 2 (some .int) ∈ wg_tbl := ⟨List.mem_filter.mpr ⟨List.mem_append_right _ (List.mem_of_getElem? (i := 170) (by decide +kernel)), rfl⟩, List.mem_filter.mpr ⟨List.mem_append_right _ (List.mem_of_getElem? (i := 171) (by decide +kernel)), rfl⟩, List.mem_filter.mpr ⟨List.mem_append_right _ (List.mem_of_getElem? (i := 3) (by decide +kernel)), rfl⟩, List.mem_filter.mpr ⟨List.mem_append_right _ (List.mem_of_getElem? (i := 172) rfl), rfl⟩⟩
theorem ko_M : Cond.methodLink R_M 1 objectInit ∈ wg_tbl := List.mem_filter.mpr ⟨List.mem_append_right _ (List.mem_of_getElem? (i := 194) (by decide +kernel)), rfl⟩
theorem kf_M_7 : Cond.fieldLink R_M 7 "WordGraphModel" "words" "[J" ∈ wg_tbl := List.mem_filter.mpr ⟨List.mem_append_right _ (List.mem_of_getElem? (i := 195) (by decide +kernel)), rfl⟩
theorem kf_M_13 : Cond.fieldLink R_M 13 "WordGraphModel" "result" "[I" ∈ wg_tbl := List.mem_filter.mpr ⟨List.mem_append_right _ (List.mem_of_getElem? (i := 199) (by decide +kernel)), rfl⟩
theorem kf_M_17 : Cond.fieldLink R_M 17 "WordGraphModel" "far" "[I" ∈ wg_tbl := List.mem_filter.mpr ⟨List.mem_append_right _ (List.mem_of_getElem? (i := 200) (by decide +kernel)), rfl⟩
theorem kf_M_20 : Cond.fieldLink R_M 20 "WordGraphModel" "node" "[I" ∈ wg_tbl := List.mem_filter.mpr ⟨List.mem_append_right _ (List.mem_of_getElem? (i := 201) (by decide +kernel)), rfl⟩
theorem kf_M_23 : Cond.fieldLink R_M 23 "WordGraphModel" "ofWord" "[I" ∈ wg_tbl := List.mem_filter.mpr ⟨List.mem_append_right _ (List.mem_of_getElem? (i := 202) (by decide +kernel)), rfl⟩
theorem kf_M_26 : Cond.fieldLink R_M 26 "WordGraphModel" "ofLength" "[I" ∈ wg_tbl := List.mem_filter.mpr ⟨List.mem_append_right _ (List.mem_of_getElem? (i := 203) (by decide +kernel)), rfl⟩
theorem kf_M_29 : Cond.fieldLink R_M 29 "WordGraphModel" "table" "[I" ∈ wg_tbl := List.mem_filter.mpr ⟨List.mem_append_right _ (List.mem_of_getElem? (i := 205) (by decide +kernel)), rfl⟩
theorem kf_M_32 : Cond.fieldLink R_M 32 "WordGraphModel" "size" "I" ∈ wg_tbl := List.mem_filter.mpr ⟨List.mem_append_right _ (List.mem_of_getElem? (i := 196) (by decide +kernel)), rfl⟩
theorem kf_M_40 : Cond.fieldLink R_M 40 "WordGraphModel" "sealed" "Z" ∈ wg_tbl := List.mem_filter.mpr ⟨List.mem_append_right _ (List.mem_of_getElem? (i := 197) (by decide +kernel)), rfl⟩
theorem kf_M_60 : Cond.fieldLink R_M 60 "WordGraphModel" "nodes" "I" ∈ wg_tbl := List.mem_filter.mpr ⟨List.mem_append_right _ (List.mem_of_getElem? (i := 204) (by decide +kernel)), rfl⟩
theorem kf_M_70 : Cond.fieldLink R_M 70 "WordGraphModel" "found" "I" ∈ wg_tbl := List.mem_filter.mpr ⟨List.mem_append_right _ (List.mem_of_getElem? (i := 198) (by decide +kernel)), rfl⟩
theorem kl_M_73 : Cond.constantLong R_M 73 ((-1)) ∈ wg_tbl := List.mem_filter.mpr ⟨List.mem_append_right _ (List.mem_of_getElem? (i := 274) rfl), rfl⟩
theorem kn_L_7 : Cond.classLink R_law 7 R_X ∈ wg_tbl := List.mem_filter.mpr ⟨List.mem_append_right _ (List.mem_of_getElem? (i := 4) (by decide +kernel)), rfl⟩
theorem km_L_9 : Cond.methodLink R_law 9 y_X_init ∈ wg_tbl := List.mem_filter.mpr ⟨List.mem_append_right _ (List.mem_of_getElem? (i := 6) (by decide +kernel)), rfl⟩
theorem kj_X_init : Cond.instanceMethod y_X_init ∈ wg_tbl := List.mem_filter.mpr ⟨List.mem_append_right _ (List.mem_of_getElem? (i := 7) (by decide +kernel)), rfl⟩
theorem kn_L_10 : Cond.classLink R_law 10 R_M ∈ wg_tbl := List.mem_filter.mpr ⟨List.mem_append_right _ (List.mem_of_getElem? (i := 189) (by decide +kernel)), rfl⟩
theorem km_L_12 : Cond.methodLink R_law 12 y_M_init ∈ wg_tbl := List.mem_filter.mpr ⟨List.mem_append_right _ (List.mem_of_getElem? (i := 191) (by decide +kernel)), rfl⟩
theorem kj_M_init : Cond.instanceMethod y_M_init ∈ wg_tbl := List.mem_filter.mpr ⟨List.mem_append_right _ (List.mem_of_getElem? (i := 192) (by decide +kernel)), rfl⟩
theorem kl_L_13 : Cond.constantLong R_law 13 ((4294967295)) ∈ wg_tbl := List.mem_filter.mpr ⟨List.mem_append_right _ (List.mem_of_getElem? (i := 319) rfl), rfl⟩
