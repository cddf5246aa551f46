section
-- ===== PART A: goes FIRST, ahead of the names: the tables' words, and 'selects' of the private methods out of them =====
/-- a private method of a class that the tables say can be made, by its rows of tables_1 -/
def lw_okq (q : MethodName × Nat) : Prop := (q.1.cls ≠ "java/lang/invoke/MethodHandle" ∧ q.1.cls ≠ "java/lang/invoke/VarHandle") ∧ Cond.instantiable q.1.cls q.2 ∈ tables_1 ∧ Cond.privateMethod q.1 ∈ tables_1 ∧ Cond.instanceMethod q.1 ∈ tables_1
theorem lw_p0 : lw_okq (⟨"WordGraph", "makeNode", "(II)I"⟩, 14) := ⟨⟨by decide +kernel, by decide +kernel⟩, List.mem_of_getElem? (i := 5) (by decide +kernel), List.mem_of_getElem? (i := 86) (by decide +kernel), List.mem_of_getElem? (i := 87) (by decide +kernel)⟩
theorem lw_p1 : lw_okq (⟨"WordGraph", "numberBeginnings", "(I)V"⟩, 14) := ⟨⟨by decide +kernel, by decide +kernel⟩, List.mem_of_getElem? (i := 5) (by decide +kernel), List.mem_of_getElem? (i := 90) (by decide +kernel), List.mem_of_getElem? (i := 91) (by decide +kernel)⟩
theorem lw_p2 : lw_okq (⟨"WordGraph", "earlierNode", "(II)I"⟩, 14) := ⟨⟨by decide +kernel, by decide +kernel⟩, List.mem_of_getElem? (i := 5) (by decide +kernel), List.mem_of_getElem? (i := 94) (by decide +kernel), List.mem_of_getElem? (i := 95) (by decide +kernel)⟩
theorem lw_p3 : lw_okq (⟨"WordGraph", "sameEndings", "(IIII)Z"⟩, 14) := ⟨⟨by decide +kernel, by decide +kernel⟩, List.mem_of_getElem? (i := 5) (by decide +kernel), List.mem_of_getElem? (i := 98) (by decide +kernel), List.mem_of_getElem? (i := 99) (by decide +kernel)⟩
theorem lw_p4 : lw_okq (⟨"WordGraph", "beginsAs", "(III)Z"⟩, 14) := ⟨⟨by decide +kernel, by decide +kernel⟩, List.mem_of_getElem? (i := 5) (by decide +kernel), List.mem_of_getElem? (i := 102) (by decide +kernel), List.mem_of_getElem? (i := 103) (by decide +kernel)⟩
theorem lw_p5 : lw_okq (⟨"WordGraph", "hasWord", "(I)Z"⟩, 14) := ⟨⟨by decide +kernel, by decide +kernel⟩, List.mem_of_getElem? (i := 5) (by decide +kernel), List.mem_of_getElem? (i := 115) (by decide +kernel), List.mem_of_getElem? (i := 116) (by decide +kernel)⟩
theorem lw_p6 : lw_okq (⟨"WordGraph", "hasNode", "(I)Z"⟩, 14) := ⟨⟨by decide +kernel, by decide +kernel⟩, List.mem_of_getElem? (i := 5) (by decide +kernel), List.mem_of_getElem? (i := 132) (by decide +kernel), List.mem_of_getElem? (i := 133) (by decide +kernel)⟩
theorem lw_p7 : lw_okq (⟨"WordGraph", "fillFirstRow", "(I)V"⟩, 14) := ⟨⟨by decide +kernel, by decide +kernel⟩, List.mem_of_getElem? (i := 5) (by decide +kernel), List.mem_of_getElem? (i := 148) (by decide +kernel), List.mem_of_getElem? (i := 149) (by decide +kernel)⟩
theorem lw_p8 : lw_okq (⟨"WordGraph", "farOfWord", "(IIJI)I"⟩, 14) := ⟨⟨by decide +kernel, by decide +kernel⟩, List.mem_of_getElem? (i := 5) (by decide +kernel), List.mem_of_getElem? (i := 152) (by decide +kernel), List.mem_of_getElem? (i := 153) (by decide +kernel)⟩
theorem lw_p9 : lw_okq (⟨"WordGraph", "fillRow", "(IIJI)V"⟩, 14) := ⟨⟨by decide +kernel, by decide +kernel⟩, List.mem_of_getElem? (i := 5) (by decide +kernel), List.mem_of_getElem? (i := 156) (by decide +kernel), List.mem_of_getElem? (i := 157) (by decide +kernel)⟩
theorem lw_p10 : lw_okq (⟨"WordGraph", "measureAll", "(J)V"⟩, 14) := ⟨⟨by decide +kernel, by decide +kernel⟩, List.mem_of_getElem? (i := 5) (by decide +kernel), List.mem_of_getElem? (i := 167) (by decide +kernel), List.mem_of_getElem? (i := 168) (by decide +kernel)⟩
theorem lw_p11 : lw_okq (⟨"WordGraph", "takeResults", "(I)V"⟩, 14) := ⟨⟨by decide +kernel, by decide +kernel⟩, List.mem_of_getElem? (i := 5) (by decide +kernel), List.mem_of_getElem? (i := 174) (by decide +kernel), List.mem_of_getElem? (i := 175) (by decide +kernel)⟩
theorem lw_p12 : lw_okq (⟨"WordGraph", "hasResult", "(I)Z"⟩, 14) := ⟨⟨by decide +kernel, by decide +kernel⟩, List.mem_of_getElem? (i := 5) (by decide +kernel), List.mem_of_getElem? (i := 182) (by decide +kernel), List.mem_of_getElem? (i := 183) (by decide +kernel)⟩
theorem lw_p13 : lw_okq (⟨"WordGraphModel", "nodeOf", "(II)I"⟩, 11) := ⟨⟨by decide +kernel, by decide +kernel⟩, List.mem_of_getElem? (i := 190) (by decide +kernel), List.mem_of_getElem? (i := 247) (by decide +kernel), List.mem_of_getElem? (i := 248) (by decide +kernel)⟩
theorem lw_p14 : lw_okq (⟨"WordGraphModel", "within", "(IIII)Z"⟩, 11) := ⟨⟨by decide +kernel, by decide +kernel⟩, List.mem_of_getElem? (i := 190) (by decide +kernel), List.mem_of_getElem? (i := 251) (by decide +kernel), List.mem_of_getElem? (i := 252) (by decide +kernel)⟩
theorem lw_p15 : lw_okq (⟨"WordGraphModel", "share", "(III)Z"⟩, 11) := ⟨⟨by decide +kernel, by decide +kernel⟩, List.mem_of_getElem? (i := 190) (by decide +kernel), List.mem_of_getElem? (i := 255) (by decide +kernel), List.mem_of_getElem? (i := 256) (by decide +kernel)⟩
def lw_privs_1 : List (MethodName × Nat) := [(⟨"WordGraph", "makeNode", "(II)I"⟩, 14), (⟨"WordGraph", "numberBeginnings", "(I)V"⟩, 14), (⟨"WordGraph", "earlierNode", "(II)I"⟩, 14), (⟨"WordGraph", "sameEndings", "(IIII)Z"⟩, 14), (⟨"WordGraph", "beginsAs", "(III)Z"⟩, 14), (⟨"WordGraph", "hasWord", "(I)Z"⟩, 14), (⟨"WordGraph", "hasNode", "(I)Z"⟩, 14), (⟨"WordGraph", "fillFirstRow", "(I)V"⟩, 14), (⟨"WordGraph", "farOfWord", "(IIJI)I"⟩, 14), (⟨"WordGraph", "fillRow", "(IIJI)V"⟩, 14), (⟨"WordGraph", "measureAll", "(J)V"⟩, 14), (⟨"WordGraph", "takeResults", "(I)V"⟩, 14), (⟨"WordGraph", "hasResult", "(I)Z"⟩, 14), (⟨"WordGraphModel", "nodeOf", "(II)I"⟩, 11), (⟨"WordGraphModel", "within", "(IIII)Z"⟩, 11), (⟨"WordGraphModel", "share", "(III)Z"⟩, 11)]
theorem lw_r1 : ∀ q ∈ lw_privs_1, lw_okq q := List.forall_mem_cons.mpr ⟨lw_p0, List.forall_mem_cons.mpr ⟨lw_p1, List.forall_mem_cons.mpr ⟨lw_p2, List.forall_mem_cons.mpr ⟨lw_p3, List.forall_mem_cons.mpr ⟨lw_p4, List.forall_mem_cons.mpr ⟨lw_p5, List.forall_mem_cons.mpr ⟨lw_p6, List.forall_mem_cons.mpr ⟨lw_p7, List.forall_mem_cons.mpr ⟨lw_p8, List.forall_mem_cons.mpr ⟨lw_p9, List.forall_mem_cons.mpr ⟨lw_p10, List.forall_mem_cons.mpr ⟨lw_p11, List.forall_mem_cons.mpr ⟨lw_p12, List.forall_mem_cons.mpr ⟨lw_p13, List.forall_mem_cons.mpr ⟨lw_p14, List.forall_mem_cons.mpr ⟨lw_p15, fun _ h => absurd h List.not_mem_nil⟩⟩⟩⟩⟩⟩⟩⟩⟩⟩⟩⟩⟩⟩⟩⟩
theorem lw_p16 : lw_okq (⟨"WordGraphModel", "also", "(IIII)Z"⟩, 11) := ⟨⟨by decide +kernel, by decide +kernel⟩, List.mem_of_getElem? (i := 190) (by decide +kernel), List.mem_of_getElem? (i := 259) (by decide +kernel), List.mem_of_getElem? (i := 260) (by decide +kernel)⟩
theorem lw_p17 : lw_okq (⟨"WordGraphModel", "isNode", "(I)Z"⟩, 11) := ⟨⟨by decide +kernel, by decide +kernel⟩, List.mem_of_getElem? (i := 190) (by decide +kernel), List.mem_of_getElem? (i := 288) (by decide +kernel), List.mem_of_getElem? (i := 289) (by decide +kernel)⟩
theorem lw_p18 : lw_okq (⟨"WordGraphModel", "between", "(JJ)I"⟩, 11) := ⟨⟨by decide +kernel, by decide +kernel⟩, List.mem_of_getElem? (i := 190) (by decide +kernel), List.mem_of_getElem? (i := 304) (by decide +kernel), List.mem_of_getElem? (i := 305) (by decide +kernel)⟩
def lw_privs_2 : List (MethodName × Nat) := [(⟨"WordGraphModel", "also", "(IIII)Z"⟩, 11), (⟨"WordGraphModel", "isNode", "(I)Z"⟩, 11), (⟨"WordGraphModel", "between", "(JJ)I"⟩, 11)]
theorem lw_r2 : ∀ q ∈ lw_privs_2, lw_okq q := List.forall_mem_cons.mpr ⟨lw_p16, List.forall_mem_cons.mpr ⟨lw_p17, List.forall_mem_cons.mpr ⟨lw_p18, fun _ h => absurd h List.not_mem_nil⟩⟩⟩
def lw_privs : List (MethodName × Nat) := lw_privs_1 ++ (lw_privs_2)
def lw_tbl : List Cond := k2_sels lw_privs ++ tables_1
theorem lw_privs_ok : ∀ q ∈ lw_privs, lw_okq q := by
  show ∀ q ∈ lw_privs_1 ++ (lw_privs_2), lw_okq q
  exact List.forall_mem_append.mpr ⟨lw_r1, lw_r2⟩
def wg_tbl : List Cond := lw_tbl.filter (fun w => k2_isCode w || goodWord w)
end
section
def R_law : String := "WordGraphLaw"
def R_X : String := "WordGraph"
def F_X : u_T := fun k => match k with
  | 0 => ("WordGraph", "words", "[J", true)
  | 1 => ("WordGraph", "lengths", "[I", true)
  | 2 => ("WordGraph", "firstNew", "[I", true)
  | 3 => ("WordGraph", "wordCount", "I", false)
  | 4 => ("WordGraph", "sealed", "Z", false)
  | 5 => ("WordGraph", "nodeOf", "[I", true)
  | 6 => ("WordGraph", "nodeWord", "[I", true)
  | 7 => ("WordGraph", "nodeLetters", "[I", true)
  | 8 => ("WordGraph", "nodeCount", "I", false)
  | 9 => ("WordGraph", "resultWord", "[I", true)
  | 10 => ("WordGraph", "resultFar", "[I", true)
  | 11 => ("WordGraph", "resultCount", "I", false)
  | 12 => ("WordGraph", "table", "[I", true)
  | _ => ("WordGraph", "wordFar", "[I", true)
def t_X : Nat → FieldType := fun k => match k with
  | 0 => .array .long
  | 1 => .array .int
  | 2 => .array .int
  | 3 => .int
  | 4 => .boolean
  | 5 => .array .int
  | 6 => .array .int
  | 7 => .array .int
  | 8 => .int
  | 9 => .array .int
  | 10 => .array .int
  | 11 => .int
  | 12 => .array .int
  | _ => .array .int
theorem n_X : ∀ a, a < 14 → ∀ b, b < 14 → a ≠ b → (F_X a).2.1 ≠ (F_X b).2.1 := by decide +kernel
theorem t_X_ok : ∀ k, k < 14 → parseFieldDescriptor (F_X k).2.2.1 = some (t_X k) := by decide +kernel
theorem wg_inX : ∀ w ∈ u_ws R_X F_X 14, w ∈ wg_tbl := by
  intro w hw
  obtain ⟨j, hj, rfl⟩ := List.mem_map.mp hw
  have hj : j < 14 := List.mem_range.mp hj
  rcases (show j = 0 ∨ j = 1 ∨ j = 2 ∨ j = 3 ∨ j = 4 ∨ j = 5 ∨ j = 6 ∨ j = 7 ∨ j = 8 ∨ j = 9 ∨ j = 10 ∨ j = 11 ∨ j = 12 ∨ j = 13 by omega) with rfl | rfl | rfl | rfl | rfl | rfl | rfl | rfl | rfl | rfl | rfl | rfl | rfl | rfl
  · exact List.mem_filter.mpr ⟨List.mem_append_right _ (List.mem_of_getElem? (i := 30) (by decide +kernel)), rfl⟩
  · exact List.mem_filter.mpr ⟨List.mem_append_right _ (List.mem_of_getElem? (i := 32) (by decide +kernel)), rfl⟩
  · exact List.mem_filter.mpr ⟨List.mem_append_right _ (List.mem_of_getElem? (i := 34) (by decide +kernel)), rfl⟩
  · exact List.mem_filter.mpr ⟨List.mem_append_right _ (List.mem_of_getElem? (i := 36) (by decide +kernel)), rfl⟩
  · exact List.mem_filter.mpr ⟨List.mem_append_right _ (List.mem_of_getElem? (i := 38) (by decide +kernel)), rfl⟩
  · exact List.mem_filter.mpr ⟨List.mem_append_right _ (List.mem_of_getElem? (i := 40) (by decide +kernel)), rfl⟩
  · exact List.mem_filter.mpr ⟨List.mem_append_right _ (List.mem_of_getElem? (i := 42) (by decide +kernel)), rfl⟩
  · exact List.mem_filter.mpr ⟨List.mem_append_right _ (List.mem_of_getElem? (i := 44) (by decide +kernel)), rfl⟩
  · exact List.mem_filter.mpr ⟨List.mem_append_right _ (List.mem_of_getElem? (i := 46) (by decide +kernel)), rfl⟩
  · exact List.mem_filter.mpr ⟨List.mem_append_right _ (List.mem_of_getElem? (i := 48) (by decide +kernel)), rfl⟩
  · exact List.mem_filter.mpr ⟨List.mem_append_right _ (List.mem_of_getElem? (i := 50) (by decide +kernel)), rfl⟩
  · exact List.mem_filter.mpr ⟨List.mem_append_right _ (List.mem_of_getElem? (i := 52) (by decide +kernel)), rfl⟩
  · exact List.mem_filter.mpr ⟨List.mem_append_right _ (List.mem_of_getElem? (i := 54) (by decide +kernel)), rfl⟩
  · exact List.mem_filter.mpr ⟨List.mem_append_right _ (List.mem_of_getElem? (i := 56) (by decide +kernel)), rfl⟩
def R_M : String := "WordGraphModel"
def F_M : u_T := fun k => match k with
  | 0 => ("WordGraphModel", "words", "[J", true)
  | 1 => ("WordGraphModel", "size", "I", false)
  | 2 => ("WordGraphModel", "sealed", "Z", false)
  | 3 => ("WordGraphModel", "found", "I", false)
  | 4 => ("WordGraphModel", "result", "[I", true)
  | 5 => ("WordGraphModel", "far", "[I", true)
  | 6 => ("WordGraphModel", "node", "[I", true)
  | 7 => ("WordGraphModel", "ofWord", "[I", true)
  | 8 => ("WordGraphModel", "ofLength", "[I", true)
  | 9 => ("WordGraphModel", "nodes", "I", false)
  | _ => ("WordGraphModel", "table", "[I", true)
def t_M : Nat → FieldType := fun k => match k with
  | 0 => .array .long
  | 1 => .int
  | 2 => .boolean
  | 3 => .int
  | 4 => .array .int
  | 5 => .array .int
  | 6 => .array .int
  | 7 => .array .int
  | 8 => .array .int
  | 9 => .int
  | _ => .array .int
theorem n_M : ∀ a, a < 11 → ∀ b, b < 11 → a ≠ b → (F_M a).2.1 ≠ (F_M b).2.1 := by decide +kernel
theorem t_M_ok : ∀ k, k < 11 → parseFieldDescriptor (F_M k).2.2.1 = some (t_M k) := by decide +kernel
theorem wg_inM : ∀ w ∈ u_ws R_M F_M 11, w ∈ wg_tbl := by
  intro w hw
  obtain ⟨j, hj, rfl⟩ := List.mem_map.mp hw
  have hj : j < 11 := List.mem_range.mp hj
  rcases (show j = 0 ∨ j = 1 ∨ j = 2 ∨ j = 3 ∨ j = 4 ∨ j = 5 ∨ j = 6 ∨ j = 7 ∨ j = 8 ∨ j = 9 ∨ j = 10 by omega) with rfl | rfl | rfl | rfl | rfl | rfl | rfl | rfl | rfl | rfl | rfl
  · exact List.mem_filter.mpr ⟨List.mem_append_right _ (List.mem_of_getElem? (i := 206) (by decide +kernel)), rfl⟩
  · exact List.mem_filter.mpr ⟨List.mem_append_right _ (List.mem_of_getElem? (i := 208) (by decide +kernel)), rfl⟩
  · exact List.mem_filter.mpr ⟨List.mem_append_right _ (List.mem_of_getElem? (i := 210) (by decide +kernel)), rfl⟩
  · exact List.mem_filter.mpr ⟨List.mem_append_right _ (List.mem_of_getElem? (i := 212) (by decide +kernel)), rfl⟩
  · exact List.mem_filter.mpr ⟨List.mem_append_right _ (List.mem_of_getElem? (i := 214) (by decide +kernel)), rfl⟩
  · exact List.mem_filter.mpr ⟨List.mem_append_right _ (List.mem_of_getElem? (i := 216) (by decide +kernel)), rfl⟩
  · exact List.mem_filter.mpr ⟨List.mem_append_right _ (List.mem_of_getElem? (i := 218) (by decide +kernel)), rfl⟩
  · exact List.mem_filter.mpr ⟨List.mem_append_right _ (List.mem_of_getElem? (i := 220) (by decide +kernel)), rfl⟩
  · exact List.mem_filter.mpr ⟨List.mem_append_right _ (List.mem_of_getElem? (i := 222) (by decide +kernel)), rfl⟩
  · exact List.mem_filter.mpr ⟨List.mem_append_right _ (List.mem_of_getElem? (i := 224) (by decide +kernel)), rfl⟩
  · exact List.mem_filter.mpr ⟨List.mem_append_right _ (List.mem_of_getElem? (i := 226) (by decide +kernel)), rfl⟩
abbrev b_X_init : ByteArray := prog_1_method_1_code
def y_X_init : MethodName := ⟨"WordGraph", "<init>", "()V"⟩
theorem kd_X_init : Cond.code y_X_init b_X_init 1 none ∈ wg_tbl := List.mem_filter.mpr ⟨List.mem_append_right _ (List.mem_of_getElem? (i := 8) rfl), rfl⟩
abbrev b_X_add : ByteArray := prog_1_method_2_code
def y_X_add : MethodName := ⟨"WordGraph", "add", "(J)I"⟩
theorem kd_X_add : Cond.code y_X_add b_X_add 3 (some .int) ∈ wg_tbl := List.mem_filter.mpr ⟨List.mem_append_right _ (List.mem_of_getElem? (i := 64) rfl), rfl⟩
abbrev b_X_beginsAs : ByteArray := prog_1_method_24_code
def y_X_beginsAs : MethodName := ⟨"WordGraph", "beginsAs", "(III)Z"⟩
theorem kd_X_beginsAs : Cond.code y_X_beginsAs b_X_beginsAs 4 (some .boolean) ∈ wg_tbl := List.mem_filter.mpr ⟨List.mem_append_right _ (List.mem_of_getElem? (i := 104) rfl), rfl⟩
abbrev b_X_clear : ByteArray := prog_1_method_4_code
def y_X_clear : MethodName := ⟨"WordGraph", "clear", "()V"⟩
theorem kd_X_clear : Cond.code y_X_clear b_X_clear 1 none ∈ wg_tbl := List.mem_filter.mpr ⟨List.mem_append_right _ (List.mem_of_getElem? (i := 15) rfl), rfl⟩
abbrev b_X_distance : ByteArray := prog_1_method_12_code
def y_X_distance : MethodName := ⟨"WordGraph", "distance", "(JI)I"⟩
theorem kd_X_distance : Cond.code y_X_distance b_X_distance 5 (some .int) ∈ wg_tbl := List.mem_filter.mpr ⟨List.mem_append_right _ (List.mem_of_getElem? (i := 146) rfl), rfl⟩
abbrev b_X_earlierNode : ByteArray := prog_1_method_27_code
def y_X_earlierNode : MethodName := ⟨"WordGraph", "earlierNode", "(II)I"⟩
theorem kd_X_earlierNode : Cond.code y_X_earlierNode b_X_earlierNode 6 (some .int) ∈ wg_tbl := List.mem_filter.mpr ⟨List.mem_append_right _ (List.mem_of_getElem? (i := 96) rfl), rfl⟩
abbrev b_X_endings : ByteArray := prog_1_method_11_code
def y_X_endings : MethodName := ⟨"WordGraph", "endings", "(I)I"⟩
theorem kd_X_endings : Cond.code y_X_endings b_X_endings 5 (some .int) ∈ wg_tbl := List.mem_filter.mpr ⟨List.mem_append_right _ (List.mem_of_getElem? (i := 142) rfl), rfl⟩
abbrev b_X_ends : ByteArray := prog_1_method_10_code
def y_X_ends : MethodName := ⟨"WordGraph", "ends", "(I)Z"⟩
theorem kd_X_ends : Cond.code y_X_ends b_X_ends 3 (some .boolean) ∈ wg_tbl := List.mem_filter.mpr ⟨List.mem_append_right _ (List.mem_of_getElem? (i := 138) rfl), rfl⟩
abbrev b_X_far : ByteArray := prog_1_method_15_code
def y_X_far : MethodName := ⟨"WordGraph", "far", "(I)I"⟩
theorem kd_X_far : Cond.code y_X_far b_X_far 2 (some .int) ∈ wg_tbl := List.mem_filter.mpr ⟨List.mem_append_right _ (List.mem_of_getElem? (i := 188) rfl), rfl⟩
abbrev b_X_farOfWord : ByteArray := prog_1_method_31_code
def y_X_farOfWord : MethodName := ⟨"WordGraph", "farOfWord", "(IIJI)I"⟩
theorem kd_X_farOfWord : Cond.code y_X_farOfWord b_X_farOfWord 7 (some .int) ∈ wg_tbl := List.mem_filter.mpr ⟨List.mem_append_right _ (List.mem_of_getElem? (i := 154) rfl), rfl⟩
abbrev b_X_fillFirstRow : ByteArray := prog_1_method_29_code
def y_X_fillFirstRow : MethodName := ⟨"WordGraph", "fillFirstRow", "(I)V"⟩
theorem kd_X_fillFirstRow : Cond.code y_X_fillFirstRow b_X_fillFirstRow 3 none ∈ wg_tbl := List.mem_filter.mpr ⟨List.mem_append_right _ (List.mem_of_getElem? (i := 150) rfl), rfl⟩
abbrev b_X_fillRow : ByteArray := prog_1_method_30_code
def y_X_fillRow : MethodName := ⟨"WordGraph", "fillRow", "(IIJI)V"⟩
theorem kd_X_fillRow : Cond.code y_X_fillRow b_X_fillRow 11 none ∈ wg_tbl := List.mem_filter.mpr ⟨List.mem_append_right _ (List.mem_of_getElem? (i := 158) rfl), rfl⟩
abbrev b_X_find : ByteArray := prog_1_method_7_code
def y_X_find : MethodName := ⟨"WordGraph", "find", "(J)I"⟩
theorem kd_X_find : Cond.code y_X_find b_X_find 4 (some .int) ∈ wg_tbl := List.mem_filter.mpr ⟨List.mem_append_right _ (List.mem_of_getElem? (i := 122) rfl), rfl⟩
abbrev b_X_hasNode : ByteArray := prog_1_method_17_code
def y_X_hasNode : MethodName := ⟨"WordGraph", "hasNode", "(I)Z"⟩
theorem kd_X_hasNode : Cond.code y_X_hasNode b_X_hasNode 2 (some .boolean) ∈ wg_tbl := List.mem_filter.mpr ⟨List.mem_append_right _ (List.mem_of_getElem? (i := 134) rfl), rfl⟩
abbrev b_X_hasResult : ByteArray := prog_1_method_18_code
def y_X_hasResult : MethodName := ⟨"WordGraph", "hasResult", "(I)Z"⟩
theorem kd_X_hasResult : Cond.code y_X_hasResult b_X_hasResult 2 (some .boolean) ∈ wg_tbl := List.mem_filter.mpr ⟨List.mem_append_right _ (List.mem_of_getElem? (i := 184) rfl), rfl⟩
abbrev b_X_hasWord : ByteArray := prog_1_method_16_code
def y_X_hasWord : MethodName := ⟨"WordGraph", "hasWord", "(I)Z"⟩
theorem kd_X_hasWord : Cond.code y_X_hasWord b_X_hasWord 2 (some .boolean) ∈ wg_tbl := List.mem_filter.mpr ⟨List.mem_append_right _ (List.mem_of_getElem? (i := 117) rfl), rfl⟩
abbrev b_X_isWord : ByteArray := prog_1_method_21_code
def y_X_isWord : MethodName := ⟨"WordGraph", "isWord", "(J)Z"⟩
theorem kd_X_isWord : Cond.code y_X_isWord b_X_isWord 4 (some .boolean) ∈ wg_tbl := List.mem_filter.mpr ⟨List.mem_append_right _ (List.mem_of_getElem? (i := 67) rfl), rfl⟩
abbrev b_X_lengthOf : ByteArray := prog_1_method_20_code
def y_X_lengthOf : MethodName := ⟨"WordGraph", "lengthOf", "(J)I"⟩
theorem kd_X_lengthOf : Cond.code y_X_lengthOf b_X_lengthOf 3 (some .int) ∈ wg_tbl := List.mem_filter.mpr ⟨List.mem_append_right _ (List.mem_of_getElem? (i := 71) rfl), rfl⟩
abbrev b_X_letterAt : ByteArray := prog_1_method_19_code
def y_X_letterAt : MethodName := ⟨"WordGraph", "letterAt", "(JI)I"⟩
theorem kd_X_letterAt : Cond.code y_X_letterAt b_X_letterAt 3 (some .int) ∈ wg_tbl := List.mem_filter.mpr ⟨List.mem_append_right _ (List.mem_of_getElem? (i := 74) rfl), rfl⟩
abbrev b_X_makeNode : ByteArray := prog_1_method_25_code
def y_X_makeNode : MethodName := ⟨"WordGraph", "makeNode", "(II)I"⟩
theorem kd_X_makeNode : Cond.code y_X_makeNode b_X_makeNode 3 (some .int) ∈ wg_tbl := List.mem_filter.mpr ⟨List.mem_append_right _ (List.mem_of_getElem? (i := 88) rfl), rfl⟩
abbrev b_X_measureAll : ByteArray := prog_1_method_32_code
def y_X_measureAll : MethodName := ⟨"WordGraph", "measureAll", "(J)V"⟩
theorem kd_X_measureAll : Cond.code y_X_measureAll b_X_measureAll 5 none ∈ wg_tbl := List.mem_filter.mpr ⟨List.mem_append_right _ (List.mem_of_getElem? (i := 169) rfl), rfl⟩
abbrev b_X_nodes : ByteArray := prog_1_method_8_code
def y_X_nodes : MethodName := ⟨"WordGraph", "nodes", "()I"⟩
theorem kd_X_nodes : Cond.code y_X_nodes b_X_nodes 1 (some .int) ∈ wg_tbl := List.mem_filter.mpr ⟨List.mem_append_right _ (List.mem_of_getElem? (i := 126) rfl), rfl⟩
abbrev b_X_numberBeginnings : ByteArray := prog_1_method_26_code
def y_X_numberBeginnings : MethodName := ⟨"WordGraph", "numberBeginnings", "(I)V"⟩
theorem kd_X_numberBeginnings : Cond.code y_X_numberBeginnings b_X_numberBeginnings 4 none ∈ wg_tbl := List.mem_filter.mpr ⟨List.mem_append_right _ (List.mem_of_getElem? (i := 92) rfl), rfl⟩
abbrev b_X_restOf : ByteArray := prog_1_method_22_code
def y_X_restOf : MethodName := ⟨"WordGraph", "restOf", "(JI)J"⟩
theorem kd_X_restOf : Cond.code y_X_restOf b_X_restOf 3 (some .long) ∈ wg_tbl := List.mem_filter.mpr ⟨List.mem_append_right _ (List.mem_of_getElem? (i := 77) rfl), rfl⟩
abbrev b_X_result : ByteArray := prog_1_method_14_code
def y_X_result : MethodName := ⟨"WordGraph", "result", "(I)I"⟩
theorem kd_X_result : Cond.code y_X_result b_X_result 2 (some .int) ∈ wg_tbl := List.mem_filter.mpr ⟨List.mem_append_right _ (List.mem_of_getElem? (i := 180) rfl), rfl⟩
abbrev b_X_sameEndings : ByteArray := prog_1_method_28_code
def y_X_sameEndings : MethodName := ⟨"WordGraph", "sameEndings", "(IIII)Z"⟩
theorem kd_X_sameEndings : Cond.code y_X_sameEndings b_X_sameEndings 8 (some .boolean) ∈ wg_tbl := List.mem_filter.mpr ⟨List.mem_append_right _ (List.mem_of_getElem? (i := 100) rfl), rfl⟩
abbrev b_X_seal : ByteArray := prog_1_method_3_code
def y_X_seal : MethodName := ⟨"WordGraph", "seal", "()Z"⟩
theorem kd_X_seal : Cond.code y_X_seal b_X_seal 2 (some .boolean) ∈ wg_tbl := List.mem_filter.mpr ⟨List.mem_append_right _ (List.mem_of_getElem? (i := 84) rfl), rfl⟩
abbrev b_X_search : ByteArray := prog_1_method_13_code
def y_X_search : MethodName := ⟨"WordGraph", "search", "(JI)I"⟩
theorem kd_X_search : Cond.code y_X_search b_X_search 5 (some .int) ∈ wg_tbl := List.mem_filter.mpr ⟨List.mem_append_right _ (List.mem_of_getElem? (i := 165) rfl), rfl⟩
abbrev b_X_sharedLetters : ByteArray := prog_1_method_23_code
def y_X_sharedLetters : MethodName := ⟨"WordGraph", "sharedLetters", "(JJ)I"⟩
theorem kd_X_sharedLetters : Cond.code y_X_sharedLetters b_X_sharedLetters 5 (some .int) ∈ wg_tbl := List.mem_filter.mpr ⟨List.mem_append_right _ (List.mem_of_getElem? (i := 80) rfl), rfl⟩
abbrev b_X_size : ByteArray := prog_1_method_5_code
def y_X_size : MethodName := ⟨"WordGraph", "size", "()I"⟩
theorem kd_X_size : Cond.code y_X_size b_X_size 1 (some .int) ∈ wg_tbl := List.mem_filter.mpr ⟨List.mem_append_right _ (List.mem_of_getElem? (i := 109) rfl), rfl⟩
abbrev b_X_step : ByteArray := prog_1_method_9_code
def y_X_step : MethodName := ⟨"WordGraph", "step", "(II)I"⟩
theorem kd_X_step : Cond.code y_X_step b_X_step 6 (some .int) ∈ wg_tbl := List.mem_filter.mpr ⟨List.mem_append_right _ (List.mem_of_getElem? (i := 130) rfl), rfl⟩
abbrev b_X_takeResults : ByteArray := prog_1_method_33_code
def y_X_takeResults : MethodName := ⟨"WordGraph", "takeResults", "(I)V"⟩
theorem kd_X_takeResults : Cond.code y_X_takeResults b_X_takeResults 3 none ∈ wg_tbl := List.mem_filter.mpr ⟨List.mem_append_right _ (List.mem_of_getElem? (i := 176) rfl), rfl⟩
abbrev b_X_word : ByteArray := prog_1_method_6_code
def y_X_word : MethodName := ⟨"WordGraph", "word", "(I)J"⟩
theorem kd_X_word : Cond.code y_X_word b_X_word 2 (some .long) ∈ wg_tbl := List.mem_filter.mpr ⟨List.mem_append_right _ (List.mem_of_getElem? (i := 113) rfl), rfl⟩
abbrev b_M_init : ByteArray := prog_3_method_1_code
def y_M_init : MethodName := ⟨"WordGraphModel", "<init>", "()V"⟩
theorem kd_M_init : Cond.code y_M_init b_M_init 1 none ∈ wg_tbl := List.mem_filter.mpr ⟨List.mem_append_right _ (List.mem_of_getElem? (i := 193) rfl), rfl⟩
abbrev b_M_add : ByteArray := prog_3_method_5_code
def y_M_add : MethodName := ⟨"WordGraphModel", "add", "(J)I"⟩
theorem kd_M_add : Cond.code y_M_add b_M_add 3 (some .int) ∈ wg_tbl := List.mem_filter.mpr ⟨List.mem_append_right _ (List.mem_of_getElem? (i := 232) rfl), rfl⟩
abbrev b_M_also : ByteArray := prog_3_method_7_code
def y_M_also : MethodName := ⟨"WordGraphModel", "also", "(IIII)Z"⟩
theorem kd_M_also : Cond.code y_M_also b_M_also 8 (some .boolean) ∈ wg_tbl := List.mem_filter.mpr ⟨List.mem_append_right _ (List.mem_of_getElem? (i := 261) rfl), rfl⟩
abbrev b_M_between : ByteArray := prog_3_method_20_code
def y_M_between : MethodName := ⟨"WordGraphModel", "between", "(JJ)I"⟩
theorem kd_M_between : Cond.code y_M_between b_M_between 10 (some .int) ∈ wg_tbl := List.mem_filter.mpr ⟨List.mem_append_right _ (List.mem_of_getElem? (i := 306) rfl), rfl⟩
abbrev b_M_clear : ByteArray := prog_3_method_11_code
def y_M_clear : MethodName := ⟨"WordGraphModel", "clear", "()V"⟩
theorem kd_M_clear : Cond.code y_M_clear b_M_clear 1 none ∈ wg_tbl := List.mem_filter.mpr ⟨List.mem_append_right _ (List.mem_of_getElem? (i := 265) rfl), rfl⟩
abbrev b_M_distance : ByteArray := prog_3_method_21_code
def y_M_distance : MethodName := ⟨"WordGraphModel", "distance", "(JI)I"⟩
theorem kd_M_distance : Cond.code y_M_distance b_M_distance 4 (some .int) ∈ wg_tbl := List.mem_filter.mpr ⟨List.mem_append_right _ (List.mem_of_getElem? (i := 302) rfl), rfl⟩
abbrev b_M_endings : ByteArray := prog_3_method_19_code
def y_M_endings : MethodName := ⟨"WordGraphModel", "endings", "(I)I"⟩
theorem kd_M_endings : Cond.code y_M_endings b_M_endings 4 (some .int) ∈ wg_tbl := List.mem_filter.mpr ⟨List.mem_append_right _ (List.mem_of_getElem? (i := 298) rfl), rfl⟩
abbrev b_M_ends : ByteArray := prog_3_method_18_code
def y_M_ends : MethodName := ⟨"WordGraphModel", "ends", "(I)Z"⟩
theorem kd_M_ends : Cond.code y_M_ends b_M_ends 3 (some .boolean) ∈ wg_tbl := List.mem_filter.mpr ⟨List.mem_append_right _ (List.mem_of_getElem? (i := 294) rfl), rfl⟩
abbrev b_M_far : ByteArray := prog_3_method_24_code
def y_M_far : MethodName := ⟨"WordGraphModel", "far", "(I)I"⟩
theorem kd_M_far : Cond.code y_M_far b_M_far 2 (some .int) ∈ wg_tbl := List.mem_filter.mpr ⟨List.mem_append_right _ (List.mem_of_getElem? (i := 318) rfl), rfl⟩
abbrev b_M_find : ByteArray := prog_3_method_14_code
def y_M_find : MethodName := ⟨"WordGraphModel", "find", "(J)I"⟩
theorem kd_M_find : Cond.code y_M_find b_M_find 4 (some .int) ∈ wg_tbl := List.mem_filter.mpr ⟨List.mem_append_right _ (List.mem_of_getElem? (i := 278) rfl), rfl⟩
abbrev b_M_isNode : ByteArray := prog_3_method_16_code
def y_M_isNode : MethodName := ⟨"WordGraphModel", "isNode", "(I)Z"⟩
theorem kd_M_isNode : Cond.code y_M_isNode b_M_isNode 2 (some .boolean) ∈ wg_tbl := List.mem_filter.mpr ⟨List.mem_append_right _ (List.mem_of_getElem? (i := 290) rfl), rfl⟩
abbrev b_M_isWord : ByteArray := prog_3_method_4_code
def y_M_isWord : MethodName := ⟨"WordGraphModel", "isWord", "(J)Z"⟩
theorem kd_M_isWord : Cond.code y_M_isWord b_M_isWord 3 (some .boolean) ∈ wg_tbl := List.mem_filter.mpr ⟨List.mem_append_right _ (List.mem_of_getElem? (i := 235) rfl), rfl⟩
abbrev b_M_length : ByteArray := prog_3_method_3_code
def y_M_length : MethodName := ⟨"WordGraphModel", "length", "(J)I"⟩
theorem kd_M_length : Cond.code y_M_length b_M_length 4 (some .int) ∈ wg_tbl := List.mem_filter.mpr ⟨List.mem_append_right _ (List.mem_of_getElem? (i := 245) rfl), rfl⟩
abbrev b_M_letter : ByteArray := prog_3_method_2_code
def y_M_letter : MethodName := ⟨"WordGraphModel", "letter", "(JI)I"⟩
theorem kd_M_letter : Cond.code y_M_letter b_M_letter 3 (some .int) ∈ wg_tbl := List.mem_filter.mpr ⟨List.mem_append_right _ (List.mem_of_getElem? (i := 238) rfl), rfl⟩
abbrev b_M_nodeOf : ByteArray := prog_3_method_9_code
def y_M_nodeOf : MethodName := ⟨"WordGraphModel", "nodeOf", "(II)I"⟩
theorem kd_M_nodeOf : Cond.code y_M_nodeOf b_M_nodeOf 4 (some .int) ∈ wg_tbl := List.mem_filter.mpr ⟨List.mem_append_right _ (List.mem_of_getElem? (i := 249) rfl), rfl⟩
abbrev b_M_nodes : ByteArray := prog_3_method_15_code
def y_M_nodes : MethodName := ⟨"WordGraphModel", "nodes", "()I"⟩
theorem kd_M_nodes : Cond.code y_M_nodes b_M_nodes 1 (some .int) ∈ wg_tbl := List.mem_filter.mpr ⟨List.mem_append_right _ (List.mem_of_getElem? (i := 282) rfl), rfl⟩
abbrev b_M_result : ByteArray := prog_3_method_23_code
def y_M_result : MethodName := ⟨"WordGraphModel", "result", "(I)I"⟩
theorem kd_M_result : Cond.code y_M_result b_M_result 2 (some .int) ∈ wg_tbl := List.mem_filter.mpr ⟨List.mem_append_right _ (List.mem_of_getElem? (i := 314) rfl), rfl⟩
abbrev b_M_seal : ByteArray := prog_3_method_10_code
def y_M_seal : MethodName := ⟨"WordGraphModel", "seal", "()Z"⟩
theorem kd_M_seal : Cond.code y_M_seal b_M_seal 3 (some .boolean) ∈ wg_tbl := List.mem_filter.mpr ⟨List.mem_append_right _ (List.mem_of_getElem? (i := 242) rfl), rfl⟩
abbrev b_M_search : ByteArray := prog_3_method_22_code
def y_M_search : MethodName := ⟨"WordGraphModel", "search", "(JI)I"⟩
theorem kd_M_search : Cond.code y_M_search b_M_search 6 (some .int) ∈ wg_tbl := List.mem_filter.mpr ⟨List.mem_append_right _ (List.mem_of_getElem? (i := 310) rfl), rfl⟩
abbrev b_M_share : ByteArray := prog_3_method_6_code
def y_M_share : MethodName := ⟨"WordGraphModel", "share", "(III)Z"⟩
theorem kd_M_share : Cond.code y_M_share b_M_share 5 (some .boolean) ∈ wg_tbl := List.mem_filter.mpr ⟨List.mem_append_right _ (List.mem_of_getElem? (i := 257) rfl), rfl⟩
abbrev b_M_size : ByteArray := prog_3_method_12_code
def y_M_size : MethodName := ⟨"WordGraphModel", "size", "()I"⟩
theorem kd_M_size : Cond.code y_M_size b_M_size 1 (some .int) ∈ wg_tbl := List.mem_filter.mpr ⟨List.mem_append_right _ (List.mem_of_getElem? (i := 269) rfl), rfl⟩
abbrev b_M_step : ByteArray := prog_3_method_17_code
def y_M_step : MethodName := ⟨"WordGraphModel", "step", "(II)I"⟩
theorem kd_M_step : Cond.code y_M_step b_M_step 4 (some .int) ∈ wg_tbl := List.mem_filter.mpr ⟨List.mem_append_right _ (List.mem_of_getElem? (i := 286) rfl), rfl⟩
abbrev b_M_within : ByteArray := prog_3_method_8_code
def y_M_within : MethodName := ⟨"WordGraphModel", "within", "(IIII)Z"⟩
theorem kd_M_within : Cond.code y_M_within b_M_within 6 (some .boolean) ∈ wg_tbl := List.mem_filter.mpr ⟨List.mem_append_right _ (List.mem_of_getElem? (i := 253) rfl), rfl⟩
abbrev b_M_word : ByteArray := prog_3_method_13_code
def y_M_word : MethodName := ⟨"WordGraphModel", "word", "(I)J"⟩
theorem kd_M_word : Cond.code y_M_word b_M_word 2 (some .long) ∈ wg_tbl := List.mem_filter.mpr ⟨List.mem_append_right _ (List.mem_of_getElem? (i := 273) rfl), rfl⟩
theorem kz_X : Cond.initialized R_X ∈ wg_tbl := List.mem_filter.mpr ⟨List.mem_append_right _ (List.mem_of_getElem? (i := 1) (by decide +kernel)), rfl⟩
theorem ki_X : Cond.instantiable R_X 14 ∈ wg_tbl := List.mem_filter.mpr ⟨List.mem_append_right _ (List.mem_of_getElem? (i := 5) (by decide +kernel)), rfl⟩
theorem kz_M : Cond.initialized R_M ∈ wg_tbl := List.mem_filter.mpr ⟨List.mem_append_right _ (List.mem_of_getElem? (i := 2) (by decide +kernel)), rfl⟩
theorem ki_M : Cond.instantiable R_M 11 ∈ wg_tbl := List.mem_filter.mpr ⟨List.mem_append_right _ (List.mem_of_getElem? (i := 190) (by decide +kernel)), rfl⟩
theorem ka_i : Cond.arrayClass .int ∈ wg_tbl := List.mem_filter.mpr ⟨List.mem_append_right _ (List.mem_of_getElem? (i := 60) (by decide +kernel)), rfl⟩
theorem ka_j : Cond.arrayClass .long ∈ wg_tbl := List.mem_filter.mpr ⟨List.mem_append_right _ (List.mem_of_getElem? (i := 59) (by decide +kernel)), rfl⟩
theorem ko_inst : Cond.instanceMethod objectInit ∈ wg_tbl := List.mem_filter.mpr ⟨List.mem_append_right _ (List.mem_of_getElem? (i := 10) (by decide +kernel)), rfl⟩
theorem ko_code : Cond.code objectInit ⟨#[0xb1]⟩ 1 none ∈ wg_tbl := List.mem_filter.mpr ⟨List.mem_append_right _ (List.mem_of_getElem? (i := 11) rfl), rfl⟩
theorem ko_X : Cond.methodLink R_X 3 objectInit ∈ wg_tbl := List.mem_filter.mpr ⟨List.mem_append_right _ (List.mem_of_getElem? (i := 9) (by decide +kernel)), rfl⟩
theorem kf_X_9 : Cond.fieldLink R_X 9 "WordGraph" "words" "[J" ∈ wg_tbl := List.mem_filter.mpr ⟨List.mem_append_right _ (List.mem_of_getElem? (i := 16) (by decide +kernel)), rfl⟩
theorem kf_X_13 : Cond.fieldLink R_X 13 "WordGraph" "lengths" "[I" ∈ wg_tbl := List.mem_filter.mpr ⟨List.mem_append_right _ (List.mem_of_getElem? (i := 17) (by decide +kernel)), rfl⟩
theorem kf_X_17 : Cond.fieldLink R_X 17 "WordGraph" "firstNew" "[I" ∈ wg_tbl := List.mem_filter.mpr ⟨List.mem_append_right _ (List.mem_of_getElem? (i := 18) (by decide +kernel)), rfl⟩
theorem kf_X_20 : Cond.fieldLink R_X 20 "WordGraph" "nodeOf" "[I" ∈ wg_tbl := List.mem_filter.mpr ⟨List.mem_append_right _ (List.mem_of_getElem? (i := 21) (by decide +kernel)), rfl⟩
theorem kf_X_23 : Cond.fieldLink R_X 23 "WordGraph" "nodeWord" "[I" ∈ wg_tbl := List.mem_filter.mpr ⟨List.mem_append_right _ (List.mem_of_getElem? (i := 22) (by decide +kernel)), rfl⟩
theorem kf_X_26 : Cond.fieldLink R_X 26 "WordGraph" "nodeLetters" "[I" ∈ wg_tbl := List.mem_filter.mpr ⟨List.mem_append_right _ (List.mem_of_getElem? (i := 23) (by decide +kernel)), rfl⟩
theorem kf_X_29 : Cond.fieldLink R_X 29 "WordGraph" "resultWord" "[I" ∈ wg_tbl := List.mem_filter.mpr ⟨List.mem_append_right _ (List.mem_of_getElem? (i := 25) (by decide +kernel)), rfl⟩
theorem kf_X_32 : Cond.fieldLink R_X 32 "WordGraph" "resultFar" "[I" ∈ wg_tbl := List.mem_filter.mpr ⟨List.mem_append_right _ (List.mem_of_getElem? (i := 26) (by decide +kernel)), rfl⟩
theorem kf_X_35 : Cond.fieldLink R_X 35 "WordGraph" "table" "[I" ∈ wg_tbl := List.mem_filter.mpr ⟨List.mem_append_right _ (List.mem_of_getElem? (i := 28) (by decide +kernel)), rfl⟩
theorem kf_X_38 : Cond.fieldLink R_X 38 "WordGraph" "wordFar" "[I" ∈ wg_tbl := List.mem_filter.mpr ⟨List.mem_append_right _ (List.mem_of_getElem? (i := 29) (by decide +kernel)), rfl⟩
theorem kf_X_44 : Cond.fieldLink R_X 44 "WordGraph" "sealed" "Z" ∈ wg_tbl := List.mem_filter.mpr ⟨List.mem_append_right _ (List.mem_of_getElem? (i := 20) (by decide +kernel)), rfl⟩
theorem kf_X_52 : Cond.fieldLink R_X 52 "WordGraph" "wordCount" "I" ∈ wg_tbl := List.mem_filter.mpr ⟨List.mem_append_right _ (List.mem_of_getElem? (i := 19) (by decide +kernel)), rfl⟩
theorem kf_X_72 : Cond.fieldLink R_X 72 "WordGraph" "nodeCount" "I" ∈ wg_tbl := List.mem_filter.mpr ⟨List.mem_append_right _ (List.mem_of_getElem? (i := 24) (by decide +kernel)), rfl⟩
theorem kf_X_75 : Cond.fieldLink R_X 75 "WordGraph" "resultCount" "I" ∈ wg_tbl := List.mem_filter.mpr ⟨List.mem_append_right _ (List.mem_of_getElem? (i := 27) (by decide +kernel)), rfl⟩
theorem kl_X_82 : Cond.constantLong R_X 82 ((-1)) ∈ wg_tbl := List.mem_filter.mpr ⟨List.mem_append_right _ (List.mem_of_getElem? (i := 118) rfl), rfl⟩
theorem kl_X_112 : Cond.constantLong R_X 112 (lN 1152921504606846975) ∈ wg_tbl := List.mem_filter.mpr ⟨List.mem_append_right _ (List.mem_of_getElem? (i := 68) rfl), rfl⟩
theorem wg_mmin_125 : Cond.methodLink R_X 125 Lib.Math.min.name ∈ wg_tbl ∧ Cond.static Lib.Math.min.name ∈ wg_tbl ∧ Cond.initialized "java/lang/Math" ∈ wg_tbl ∧ Cond.code Lib.Math.min.name Lib.Math.min.code 2 (some .int) ∈ wg_tbl := ⟨List.mem_filter.mpr ⟨List.mem_append_right _ (List.mem_of_getElem? (i := 159) (by decide +kernel)), rfl⟩, List.mem_filter.mpr ⟨List.mem_append_right _ (List.mem_of_getElem? (i := 160) (by decide +kernel)), rfl⟩, List.mem_filter.mpr ⟨List.mem_append_right _ (List.mem_of_getElem? (i := 3) (by decide +kernel)), rfl⟩, List.mem_filter.mpr ⟨List.mem_append_right _ (List.mem_of_getElem? (i := 161) rfl), rfl⟩⟩
theorem wg_mmax_134 : Cond.methodLink R_X 134 Lib.Math.max.name ∈ wg_tbl ∧ Cond.static Lib.Math.max.name ∈ wg_tbl ∧ Cond.initialized "java/lang/Math" ∈ wg_tbl ∧ Cond.code Lib.Math.max.name Lib.Math.max.code 2 (some .int) ∈ wg_tbl := ⟨List.mem_filter.mpr ⟨List.mem_append_right _ (List.mem_of_getElem? (i := 170) (by decide +kernel)), rfl⟩, List.mem_filter.mpr ⟨List.mem_append_right _ (List.mem_of_getElem? (i := 171) (by decide +kernel)), rfl⟩, List.mem_filter.mpr ⟨List.mem_append_right _ (List.mem_of_getElem? (i := 3) (by decide +kernel)), rfl⟩, List.mem_filter.mpr ⟨List.mem_append_right _ (List.mem_of_getElem? (i := 172) rfl), rfl⟩⟩
theorem ko_M : Cond.methodLink R_M 1 objectInit ∈ wg_tbl := List.mem_filter.mpr ⟨List.mem_append_right _ (List.mem_of_getElem? (i := 194) (by decide +kernel)), rfl⟩
theorem kf_M_7 : Cond.fieldLink R_M 7 "WordGraphModel" "words" "[J" ∈ wg_tbl := List.mem_filter.mpr ⟨List.mem_append_right _ (List.mem_of_getElem? (i := 195) (by decide +kernel)), rfl⟩
theorem kf_M_13 : Cond.fieldLink R_M 13 "WordGraphModel" "result" "[I" ∈ wg_tbl := List.mem_filter.mpr ⟨List.mem_append_right _ (List.mem_of_getElem? (i := 199) (by decide +kernel)), rfl⟩
theorem kf_M_17 : Cond.fieldLink R_M 17 "WordGraphModel" "far" "[I" ∈ wg_tbl := List.mem_filter.mpr ⟨List.mem_append_right _ (List.mem_of_getElem? (i := 200) (by decide +kernel)), rfl⟩
theorem kf_M_20 : Cond.fieldLink R_M 20 "WordGraphModel" "node" "[I" ∈ wg_tbl := List.mem_filter.mpr ⟨List.mem_append_right _ (List.mem_of_getElem? (i := 201) (by decide +kernel)), rfl⟩
theorem kf_M_23 : Cond.fieldLink R_M 23 "WordGraphModel" "ofWord" "[I" ∈ wg_tbl := List.mem_filter.mpr ⟨List.mem_append_right _ (List.mem_of_getElem? (i := 202) (by decide +kernel)), rfl⟩
theorem kf_M_26 : Cond.fieldLink R_M 26 "WordGraphModel" "ofLength" "[I" ∈ wg_tbl := List.mem_filter.mpr ⟨List.mem_append_right _ (List.mem_of_getElem? (i := 203) (by decide +kernel)), rfl⟩
theorem kf_M_29 : Cond.fieldLink R_M 29 "WordGraphModel" "table" "[I" ∈ wg_tbl := List.mem_filter.mpr ⟨List.mem_append_right _ (List.mem_of_getElem? (i := 205) (by decide +kernel)), rfl⟩
theorem kf_M_32 : Cond.fieldLink R_M 32 "WordGraphModel" "size" "I" ∈ wg_tbl := List.mem_filter.mpr ⟨List.mem_append_right _ (List.mem_of_getElem? (i := 196) (by decide +kernel)), rfl⟩
theorem kf_M_40 : Cond.fieldLink R_M 40 "WordGraphModel" "sealed" "Z" ∈ wg_tbl := List.mem_filter.mpr ⟨List.mem_append_right _ (List.mem_of_getElem? (i := 197) (by decide +kernel)), rfl⟩
theorem kf_M_60 : Cond.fieldLink R_M 60 "WordGraphModel" "nodes" "I" ∈ wg_tbl := List.mem_filter.mpr ⟨List.mem_append_right _ (List.mem_of_getElem? (i := 204) (by decide +kernel)), rfl⟩
theorem kf_M_70 : Cond.fieldLink R_M 70 "WordGraphModel" "found" "I" ∈ wg_tbl := List.mem_filter.mpr ⟨List.mem_append_right _ (List.mem_of_getElem? (i := 198) (by decide +kernel)), rfl⟩
theorem kl_M_73 : Cond.constantLong R_M 73 ((-1)) ∈ wg_tbl := List.mem_filter.mpr ⟨List.mem_append_right _ (List.mem_of_getElem? (i := 274) rfl), rfl⟩
theorem kn_L_7 : Cond.classLink R_law 7 R_X ∈ wg_tbl := List.mem_filter.mpr ⟨List.mem_append_right _ (List.mem_of_getElem? (i := 4) (by decide +kernel)), rfl⟩
theorem km_L_9 : Cond.methodLink R_law 9 y_X_init ∈ wg_tbl := List.mem_filter.mpr ⟨List.mem_append_right _ (List.mem_of_getElem? (i := 6) (by decide +kernel)), rfl⟩
theorem kj_X_init : Cond.instanceMethod y_X_init ∈ wg_tbl := List.mem_filter.mpr ⟨List.mem_append_right _ (List.mem_of_getElem? (i := 7) (by decide +kernel)), rfl⟩
theorem kn_L_10 : Cond.classLink R_law 10 R_M ∈ wg_tbl := List.mem_filter.mpr ⟨List.mem_append_right _ (List.mem_of_getElem? (i := 189) (by decide +kernel)), rfl⟩
theorem km_L_12 : Cond.methodLink R_law 12 y_M_init ∈ wg_tbl := List.mem_filter.mpr ⟨List.mem_append_right _ (List.mem_of_getElem? (i := 191) (by decide +kernel)), rfl⟩
theorem kj_M_init : Cond.instanceMethod y_M_init ∈ wg_tbl := List.mem_filter.mpr ⟨List.mem_append_right _ (List.mem_of_getElem? (i := 192) (by decide +kernel)), rfl⟩
theorem kl_L_13 : Cond.constantLong R_law 13 ((4294967295)) ∈ wg_tbl := List.mem_filter.mpr ⟨List.mem_append_right _ (List.mem_of_getElem? (i := 319) rfl), rfl⟩
end
section
theorem d_X_init_0 : decode b_X_init 0 = .ok (.aload_n 0, 1) := by decide +kernel
theorem d_X_init_1 : decode b_X_init 1 = .ok (.invokespecial 3, 3) := by decide +kernel
theorem d_X_init_4 : decode b_X_init 4 = .ok (.aload_n 0, 1) := by decide +kernel
theorem d_X_init_5 : decode b_X_init 5 = .ok (.bipush 48, 2) := by decide +kernel
theorem d_X_init_7 : decode b_X_init 7 = .ok (.newarray .long, 2) := by decide +kernel
theorem d_X_init_9 : decode b_X_init 9 = .ok (.putfield 9, 3) := by decide +kernel
theorem d_X_init_12 : decode b_X_init 12 = .ok (.aload_n 0, 1) := by decide +kernel
theorem d_X_init_13 : decode b_X_init 13 = .ok (.bipush 48, 2) := by decide +kernel
theorem d_X_init_15 : decode b_X_init 15 = .ok (.newarray .int, 2) := by decide +kernel
theorem d_X_init_17 : decode b_X_init 17 = .ok (.putfield 13, 3) := by decide +kernel
theorem d_X_init_20 : decode b_X_init 20 = .ok (.aload_n 0, 1) := by decide +kernel
theorem d_X_init_21 : decode b_X_init 21 = .ok (.bipush 48, 2) := by decide +kernel
theorem d_X_init_23 : decode b_X_init 23 = .ok (.newarray .int, 2) := by decide +kernel
theorem d_X_init_25 : decode b_X_init 25 = .ok (.putfield 17, 3) := by decide +kernel
theorem d_X_init_28 : decode b_X_init 28 = .ok (.aload_n 0, 1) := by decide +kernel
theorem d_X_init_29 : decode b_X_init 29 = .ok (.sipush 624, 3) := by decide +kernel
theorem d_X_init_32 : decode b_X_init 32 = .ok (.newarray .int, 2) := by decide +kernel
theorem d_X_init_34 : decode b_X_init 34 = .ok (.putfield 20, 3) := by decide +kernel
theorem d_X_init_37 : decode b_X_init 37 = .ok (.aload_n 0, 1) := by decide +kernel
theorem d_X_init_38 : decode b_X_init 38 = .ok (.sipush 577, 3) := by decide +kernel
theorem d_X_init_41 : decode b_X_init 41 = .ok (.newarray .int, 2) := by decide +kernel
theorem d_X_init_43 : decode b_X_init 43 = .ok (.putfield 23, 3) := by decide +kernel
theorem d_X_init_46 : decode b_X_init 46 = .ok (.aload_n 0, 1) := by decide +kernel
theorem d_X_init_47 : decode b_X_init 47 = .ok (.sipush 577, 3) := by decide +kernel
theorem d_X_init_50 : decode b_X_init 50 = .ok (.newarray .int, 2) := by decide +kernel
theorem d_X_init_52 : decode b_X_init 52 = .ok (.putfield 26, 3) := by decide +kernel
theorem d_X_init_55 : decode b_X_init 55 = .ok (.aload_n 0, 1) := by decide +kernel
theorem d_X_init_56 : decode b_X_init 56 = .ok (.bipush 48, 2) := by decide +kernel
theorem d_X_init_58 : decode b_X_init 58 = .ok (.newarray .int, 2) := by decide +kernel
theorem d_X_init_60 : decode b_X_init 60 = .ok (.putfield 29, 3) := by decide +kernel
theorem d_X_init_63 : decode b_X_init 63 = .ok (.aload_n 0, 1) := by decide +kernel
theorem d_X_init_64 : decode b_X_init 64 = .ok (.bipush 48, 2) := by decide +kernel
theorem d_X_init_66 : decode b_X_init 66 = .ok (.newarray .int, 2) := by decide +kernel
theorem d_X_init_68 : decode b_X_init 68 = .ok (.putfield 32, 3) := by decide +kernel
theorem d_X_init_71 : decode b_X_init 71 = .ok (.aload_n 0, 1) := by decide +kernel
theorem d_X_init_72 : decode b_X_init 72 = .ok (.sipush 169, 3) := by decide +kernel
theorem d_X_init_75 : decode b_X_init 75 = .ok (.newarray .int, 2) := by decide +kernel
theorem d_X_init_77 : decode b_X_init 77 = .ok (.putfield 35, 3) := by decide +kernel
theorem d_X_init_80 : decode b_X_init 80 = .ok (.aload_n 0, 1) := by decide +kernel
theorem d_X_init_81 : decode b_X_init 81 = .ok (.bipush 48, 2) := by decide +kernel
theorem d_X_init_83 : decode b_X_init 83 = .ok (.newarray .int, 2) := by decide +kernel
theorem d_X_init_85 : decode b_X_init 85 = .ok (.putfield 38, 3) := by decide +kernel
theorem d_X_init_88 : decode b_X_init 88 = .ok (.aload_n 0, 1) := by decide +kernel
theorem d_X_init_89 : decode b_X_init 89 = .ok (.invokevirtual 41, 3) := by decide +kernel
theorem d_X_init_92 : decode b_X_init 92 = .ok (.return_, 1) := by decide +kernel
theorem d_X_add_0 : decode b_X_add 0 = .ok (.aload_n 0, 1) := by decide +kernel
theorem d_X_add_1 : decode b_X_add 1 = .ok (.getfield 44, 3) := by decide +kernel
theorem d_X_add_4 : decode b_X_add 4 = .ok (.ifCond .eq 5, 3) := by decide +kernel
theorem d_X_add_7 : decode b_X_add 7 = .ok (.iconst (-1), 1) := by decide +kernel
theorem d_X_add_8 : decode b_X_add 8 = .ok (.ireturn, 1) := by decide +kernel
theorem d_X_add_9 : decode b_X_add 9 = .ok (.lload_n 1, 1) := by decide +kernel
theorem d_X_add_10 : decode b_X_add 10 = .ok (.invokestatic 48, 3) := by decide +kernel
theorem d_X_add_13 : decode b_X_add 13 = .ok (.ifCond .ne 6, 3) := by decide +kernel
theorem d_X_add_16 : decode b_X_add 16 = .ok (.bipush (-2), 2) := by decide +kernel
theorem d_X_add_18 : decode b_X_add 18 = .ok (.ireturn, 1) := by decide +kernel
theorem d_X_add_19 : decode b_X_add 19 = .ok (.aload_n 0, 1) := by decide +kernel
theorem d_X_add_20 : decode b_X_add 20 = .ok (.getfield 52, 3) := by decide +kernel
theorem d_X_add_23 : decode b_X_add 23 = .ok (.bipush 48, 2) := by decide +kernel
theorem d_X_add_25 : decode b_X_add 25 = .ok (.if_icmp .lt 6, 3) := by decide +kernel
theorem d_X_add_28 : decode b_X_add 28 = .ok (.bipush (-3), 2) := by decide +kernel
theorem d_X_add_30 : decode b_X_add 30 = .ok (.ireturn, 1) := by decide +kernel
theorem d_X_add_31 : decode b_X_add 31 = .ok (.aload_n 0, 1) := by decide +kernel
theorem d_X_add_32 : decode b_X_add 32 = .ok (.getfield 52, 3) := by decide +kernel
theorem d_X_add_35 : decode b_X_add 35 = .ok (.ifCond .le 22, 3) := by decide +kernel
theorem d_X_add_38 : decode b_X_add 38 = .ok (.lload_n 1, 1) := by decide +kernel
theorem d_X_add_39 : decode b_X_add 39 = .ok (.aload_n 0, 1) := by decide +kernel
theorem d_X_add_40 : decode b_X_add 40 = .ok (.getfield 9, 3) := by decide +kernel
theorem d_X_add_43 : decode b_X_add 43 = .ok (.aload_n 0, 1) := by decide +kernel
theorem d_X_add_44 : decode b_X_add 44 = .ok (.getfield 52, 3) := by decide +kernel
theorem d_X_add_47 : decode b_X_add 47 = .ok (.iconst 1, 1) := by decide +kernel
theorem d_X_add_48 : decode b_X_add 48 = .ok (.isub, 1) := by decide +kernel
theorem d_X_add_49 : decode b_X_add 49 = .ok (.laload, 1) := by decide +kernel
theorem d_X_add_50 : decode b_X_add 50 = .ok (.lcmp, 1) := by decide +kernel
theorem d_X_add_51 : decode b_X_add 51 = .ok (.ifCond .gt 6, 3) := by decide +kernel
theorem d_X_add_54 : decode b_X_add 54 = .ok (.bipush (-4), 2) := by decide +kernel
theorem d_X_add_56 : decode b_X_add 56 = .ok (.ireturn, 1) := by decide +kernel
theorem d_X_add_57 : decode b_X_add 57 = .ok (.aload_n 0, 1) := by decide +kernel
theorem d_X_add_58 : decode b_X_add 58 = .ok (.getfield 9, 3) := by decide +kernel
theorem d_X_add_61 : decode b_X_add 61 = .ok (.aload_n 0, 1) := by decide +kernel
theorem d_X_add_62 : decode b_X_add 62 = .ok (.getfield 52, 3) := by decide +kernel
theorem d_X_add_65 : decode b_X_add 65 = .ok (.lload_n 1, 1) := by decide +kernel
theorem d_X_add_66 : decode b_X_add 66 = .ok (.lastore, 1) := by decide +kernel
theorem d_X_add_67 : decode b_X_add 67 = .ok (.aload_n 0, 1) := by decide +kernel
theorem d_X_add_68 : decode b_X_add 68 = .ok (.getfield 13, 3) := by decide +kernel
theorem d_X_add_71 : decode b_X_add 71 = .ok (.aload_n 0, 1) := by decide +kernel
theorem d_X_add_72 : decode b_X_add 72 = .ok (.getfield 52, 3) := by decide +kernel
theorem d_X_add_75 : decode b_X_add 75 = .ok (.lload_n 1, 1) := by decide +kernel
theorem d_X_add_76 : decode b_X_add 76 = .ok (.invokestatic 56, 3) := by decide +kernel
theorem d_X_add_79 : decode b_X_add 79 = .ok (.iastore, 1) := by decide +kernel
theorem d_X_add_80 : decode b_X_add 80 = .ok (.aload_n 0, 1) := by decide +kernel
theorem d_X_add_81 : decode b_X_add 81 = .ok (.getfield 17, 3) := by decide +kernel
theorem d_X_add_84 : decode b_X_add 84 = .ok (.aload_n 0, 1) := by decide +kernel
theorem d_X_add_85 : decode b_X_add 85 = .ok (.getfield 52, 3) := by decide +kernel
theorem d_X_add_88 : decode b_X_add 88 = .ok (.aload_n 0, 1) := by decide +kernel
theorem d_X_add_89 : decode b_X_add 89 = .ok (.getfield 52, 3) := by decide +kernel
theorem d_X_add_92 : decode b_X_add 92 = .ok (.ifCond .ne 7, 3) := by decide +kernel
theorem d_X_add_95 : decode b_X_add 95 = .ok (.iconst 0, 1) := by decide +kernel
theorem d_X_add_96 : decode b_X_add 96 = .ok (.goto 20, 3) := by decide +kernel
theorem d_X_add_99 : decode b_X_add 99 = .ok (.aload_n 0, 1) := by decide +kernel
theorem d_X_add_100 : decode b_X_add 100 = .ok (.getfield 9, 3) := by decide +kernel
theorem d_X_add_103 : decode b_X_add 103 = .ok (.aload_n 0, 1) := by decide +kernel
theorem d_X_add_104 : decode b_X_add 104 = .ok (.getfield 52, 3) := by decide +kernel
theorem d_X_add_107 : decode b_X_add 107 = .ok (.iconst 1, 1) := by decide +kernel
theorem d_X_add_108 : decode b_X_add 108 = .ok (.isub, 1) := by decide +kernel
theorem d_X_add_109 : decode b_X_add 109 = .ok (.laload, 1) := by decide +kernel
theorem d_X_add_110 : decode b_X_add 110 = .ok (.lload_n 1, 1) := by decide +kernel
theorem d_X_add_111 : decode b_X_add 111 = .ok (.invokestatic 60, 3) := by decide +kernel
theorem d_X_add_114 : decode b_X_add 114 = .ok (.iconst 1, 1) := by decide +kernel
theorem d_X_add_115 : decode b_X_add 115 = .ok (.iadd, 1) := by decide +kernel
theorem d_X_add_116 : decode b_X_add 116 = .ok (.iastore, 1) := by decide +kernel
theorem d_X_add_117 : decode b_X_add 117 = .ok (.aload_n 0, 1) := by decide +kernel
theorem d_X_add_118 : decode b_X_add 118 = .ok (.dup, 1) := by decide +kernel
theorem d_X_add_119 : decode b_X_add 119 = .ok (.getfield 52, 3) := by decide +kernel
theorem d_X_add_122 : decode b_X_add 122 = .ok (.iconst 1, 1) := by decide +kernel
theorem d_X_add_123 : decode b_X_add 123 = .ok (.iadd, 1) := by decide +kernel
theorem d_X_add_124 : decode b_X_add 124 = .ok (.putfield 52, 3) := by decide +kernel
theorem d_X_add_127 : decode b_X_add 127 = .ok (.iconst 0, 1) := by decide +kernel
theorem d_X_add_128 : decode b_X_add 128 = .ok (.ireturn, 1) := by decide +kernel
theorem d_X_beginsAs_0 : decode b_X_beginsAs 0 = .ok (.aload_n 0, 1) := by decide +kernel
theorem d_X_beginsAs_1 : decode b_X_beginsAs 1 = .ok (.getfield 9, 3) := by decide +kernel
theorem d_X_beginsAs_4 : decode b_X_beginsAs 4 = .ok (.iload_n 1, 1) := by decide +kernel
theorem d_X_beginsAs_5 : decode b_X_beginsAs 5 = .ok (.laload, 1) := by decide +kernel
theorem d_X_beginsAs_6 : decode b_X_beginsAs 6 = .ok (.aload_n 0, 1) := by decide +kernel
theorem d_X_beginsAs_7 : decode b_X_beginsAs 7 = .ok (.getfield 9, 3) := by decide +kernel
theorem d_X_beginsAs_10 : decode b_X_beginsAs 10 = .ok (.iload_n 2, 1) := by decide +kernel
theorem d_X_beginsAs_11 : decode b_X_beginsAs 11 = .ok (.laload, 1) := by decide +kernel
theorem d_X_beginsAs_12 : decode b_X_beginsAs 12 = .ok (.lxor, 1) := by decide +kernel
theorem d_X_beginsAs_13 : decode b_X_beginsAs 13 = .ok (.bipush 60, 2) := by decide +kernel
theorem d_X_beginsAs_15 : decode b_X_beginsAs 15 = .ok (.iconst 5, 1) := by decide +kernel
theorem d_X_beginsAs_16 : decode b_X_beginsAs 16 = .ok (.iload_n 3, 1) := by decide +kernel
theorem d_X_beginsAs_17 : decode b_X_beginsAs 17 = .ok (.imul, 1) := by decide +kernel
theorem d_X_beginsAs_18 : decode b_X_beginsAs 18 = .ok (.isub, 1) := by decide +kernel
theorem d_X_beginsAs_19 : decode b_X_beginsAs 19 = .ok (.lushr, 1) := by decide +kernel
theorem d_X_beginsAs_20 : decode b_X_beginsAs 20 = .ok (.lconst 0, 1) := by decide +kernel
theorem d_X_beginsAs_21 : decode b_X_beginsAs 21 = .ok (.lcmp, 1) := by decide +kernel
theorem d_X_beginsAs_22 : decode b_X_beginsAs 22 = .ok (.ifCond .ne 7, 3) := by decide +kernel
theorem d_X_beginsAs_25 : decode b_X_beginsAs 25 = .ok (.iconst 1, 1) := by decide +kernel
theorem d_X_beginsAs_26 : decode b_X_beginsAs 26 = .ok (.goto 4, 3) := by decide +kernel
theorem d_X_beginsAs_29 : decode b_X_beginsAs 29 = .ok (.iconst 0, 1) := by decide +kernel
theorem d_X_beginsAs_30 : decode b_X_beginsAs 30 = .ok (.ireturn, 1) := by decide +kernel
theorem d_X_clear_0 : decode b_X_clear 0 = .ok (.aload_n 0, 1) := by decide +kernel
theorem d_X_clear_1 : decode b_X_clear 1 = .ok (.iconst 0, 1) := by decide +kernel
theorem d_X_clear_2 : decode b_X_clear 2 = .ok (.putfield 52, 3) := by decide +kernel
theorem d_X_clear_5 : decode b_X_clear 5 = .ok (.aload_n 0, 1) := by decide +kernel
theorem d_X_clear_6 : decode b_X_clear 6 = .ok (.iconst 0, 1) := by decide +kernel
theorem d_X_clear_7 : decode b_X_clear 7 = .ok (.putfield 44, 3) := by decide +kernel
theorem d_X_clear_10 : decode b_X_clear 10 = .ok (.aload_n 0, 1) := by decide +kernel
theorem d_X_clear_11 : decode b_X_clear 11 = .ok (.iconst 0, 1) := by decide +kernel
theorem d_X_clear_12 : decode b_X_clear 12 = .ok (.putfield 72, 3) := by decide +kernel
theorem d_X_clear_15 : decode b_X_clear 15 = .ok (.aload_n 0, 1) := by decide +kernel
theorem d_X_clear_16 : decode b_X_clear 16 = .ok (.iconst 0, 1) := by decide +kernel
theorem d_X_clear_17 : decode b_X_clear 17 = .ok (.putfield 75, 3) := by decide +kernel
theorem d_X_clear_20 : decode b_X_clear 20 = .ok (.return_, 1) := by decide +kernel
theorem d_X_distance_0 : decode b_X_distance 0 = .ok (.lload_n 1, 1) := by decide +kernel
theorem d_X_distance_1 : decode b_X_distance 1 = .ok (.invokestatic 48, 3) := by decide +kernel
theorem d_X_distance_4 : decode b_X_distance 4 = .ok (.ifCond .eq 11, 3) := by decide +kernel
theorem d_X_distance_7 : decode b_X_distance 7 = .ok (.aload_n 0, 1) := by decide +kernel
theorem d_X_distance_8 : decode b_X_distance 8 = .ok (.iload_n 3, 1) := by decide +kernel
theorem d_X_distance_9 : decode b_X_distance 9 = .ok (.invokevirtual 78, 3) := by decide +kernel
theorem d_X_distance_12 : decode b_X_distance 12 = .ok (.ifCond .ne 5, 3) := by decide +kernel
theorem d_X_distance_15 : decode b_X_distance 15 = .ok (.iconst (-1), 1) := by decide +kernel
theorem d_X_distance_16 : decode b_X_distance 16 = .ok (.ireturn, 1) := by decide +kernel
theorem d_X_distance_17 : decode b_X_distance 17 = .ok (.lload_n 1, 1) := by decide +kernel
theorem d_X_distance_18 : decode b_X_distance 18 = .ok (.invokestatic 56, 3) := by decide +kernel
theorem d_X_distance_21 : decode b_X_distance 21 = .ok (.istore 4, 2) := by decide +kernel
theorem d_X_distance_23 : decode b_X_distance 23 = .ok (.aload_n 0, 1) := by decide +kernel
theorem d_X_distance_24 : decode b_X_distance 24 = .ok (.iload 4, 2) := by decide +kernel
theorem d_X_distance_26 : decode b_X_distance 26 = .ok (.invokevirtual 95, 3) := by decide +kernel
theorem d_X_distance_29 : decode b_X_distance 29 = .ok (.aload_n 0, 1) := by decide +kernel
theorem d_X_distance_30 : decode b_X_distance 30 = .ok (.iload_n 3, 1) := by decide +kernel
theorem d_X_distance_31 : decode b_X_distance 31 = .ok (.iconst 1, 1) := by decide +kernel
theorem d_X_distance_32 : decode b_X_distance 32 = .ok (.lload_n 1, 1) := by decide +kernel
theorem d_X_distance_33 : decode b_X_distance 33 = .ok (.iload 4, 2) := by decide +kernel
theorem d_X_distance_35 : decode b_X_distance 35 = .ok (.invokevirtual 98, 3) := by decide +kernel
theorem d_X_distance_38 : decode b_X_distance 38 = .ok (.ireturn, 1) := by decide +kernel
theorem d_X_earlierNode_0 : decode b_X_earlierNode 0 = .ok (.aload_n 0, 1) := by decide +kernel
theorem d_X_earlierNode_1 : decode b_X_earlierNode 1 = .ok (.getfield 13, 3) := by decide +kernel
theorem d_X_earlierNode_4 : decode b_X_earlierNode 4 = .ok (.iload_n 1, 1) := by decide +kernel
theorem d_X_earlierNode_5 : decode b_X_earlierNode 5 = .ok (.iaload, 1) := by decide +kernel
theorem d_X_earlierNode_6 : decode b_X_earlierNode 6 = .ok (.iload_n 2, 1) := by decide +kernel
theorem d_X_earlierNode_7 : decode b_X_earlierNode 7 = .ok (.isub, 1) := by decide +kernel
theorem d_X_earlierNode_8 : decode b_X_earlierNode 8 = .ok (.istore_n 3, 1) := by decide +kernel
theorem d_X_earlierNode_9 : decode b_X_earlierNode 9 = .ok (.iconst 0, 1) := by decide +kernel
theorem d_X_earlierNode_10 : decode b_X_earlierNode 10 = .ok (.istore 4, 2) := by decide +kernel
theorem d_X_earlierNode_12 : decode b_X_earlierNode 12 = .ok (.iload 4, 2) := by decide +kernel
theorem d_X_earlierNode_14 : decode b_X_earlierNode 14 = .ok (.iload_n 1, 1) := by decide +kernel
theorem d_X_earlierNode_15 : decode b_X_earlierNode 15 = .ok (.if_icmp .ge 59, 3) := by decide +kernel
theorem d_X_earlierNode_18 : decode b_X_earlierNode 18 = .ok (.aload_n 0, 1) := by decide +kernel
theorem d_X_earlierNode_19 : decode b_X_earlierNode 19 = .ok (.getfield 13, 3) := by decide +kernel
theorem d_X_earlierNode_22 : decode b_X_earlierNode 22 = .ok (.iload 4, 2) := by decide +kernel
theorem d_X_earlierNode_24 : decode b_X_earlierNode 24 = .ok (.iaload, 1) := by decide +kernel
theorem d_X_earlierNode_25 : decode b_X_earlierNode 25 = .ok (.iload_n 3, 1) := by decide +kernel
theorem d_X_earlierNode_26 : decode b_X_earlierNode 26 = .ok (.isub, 1) := by decide +kernel
theorem d_X_earlierNode_27 : decode b_X_earlierNode 27 = .ok (.istore 5, 2) := by decide +kernel
theorem d_X_earlierNode_29 : decode b_X_earlierNode 29 = .ok (.iload 5, 2) := by decide +kernel
theorem d_X_earlierNode_31 : decode b_X_earlierNode 31 = .ok (.aload_n 0, 1) := by decide +kernel
theorem d_X_earlierNode_32 : decode b_X_earlierNode 32 = .ok (.getfield 17, 3) := by decide +kernel
theorem d_X_earlierNode_35 : decode b_X_earlierNode 35 = .ok (.iload 4, 2) := by decide +kernel
theorem d_X_earlierNode_37 : decode b_X_earlierNode 37 = .ok (.iaload, 1) := by decide +kernel
theorem d_X_earlierNode_38 : decode b_X_earlierNode 38 = .ok (.if_icmp .lt 30, 3) := by decide +kernel
theorem d_X_earlierNode_41 : decode b_X_earlierNode 41 = .ok (.aload_n 0, 1) := by decide +kernel
theorem d_X_earlierNode_42 : decode b_X_earlierNode 42 = .ok (.iload_n 1, 1) := by decide +kernel
theorem d_X_earlierNode_43 : decode b_X_earlierNode 43 = .ok (.iload_n 2, 1) := by decide +kernel
theorem d_X_earlierNode_44 : decode b_X_earlierNode 44 = .ok (.iload 4, 2) := by decide +kernel
theorem d_X_earlierNode_46 : decode b_X_earlierNode 46 = .ok (.iload 5, 2) := by decide +kernel
theorem d_X_earlierNode_48 : decode b_X_earlierNode 48 = .ok (.invokevirtual 121, 3) := by decide +kernel
theorem d_X_earlierNode_51 : decode b_X_earlierNode 51 = .ok (.ifCond .eq 17, 3) := by decide +kernel
theorem d_X_earlierNode_54 : decode b_X_earlierNode 54 = .ok (.aload_n 0, 1) := by decide +kernel
theorem d_X_earlierNode_55 : decode b_X_earlierNode 55 = .ok (.getfield 20, 3) := by decide +kernel
theorem d_X_earlierNode_58 : decode b_X_earlierNode 58 = .ok (.iload 4, 2) := by decide +kernel
theorem d_X_earlierNode_60 : decode b_X_earlierNode 60 = .ok (.bipush 13, 2) := by decide +kernel
theorem d_X_earlierNode_62 : decode b_X_earlierNode 62 = .ok (.imul, 1) := by decide +kernel
theorem d_X_earlierNode_63 : decode b_X_earlierNode 63 = .ok (.iload 5, 2) := by decide +kernel
theorem d_X_earlierNode_65 : decode b_X_earlierNode 65 = .ok (.iadd, 1) := by decide +kernel
theorem d_X_earlierNode_66 : decode b_X_earlierNode 66 = .ok (.iaload, 1) := by decide +kernel
theorem d_X_earlierNode_67 : decode b_X_earlierNode 67 = .ok (.ireturn, 1) := by decide +kernel
theorem d_X_earlierNode_68 : decode b_X_earlierNode 68 = .ok (.iinc 4 1, 3) := by decide +kernel
theorem d_X_earlierNode_71 : decode b_X_earlierNode 71 = .ok (.goto (-59), 3) := by decide +kernel
theorem d_X_earlierNode_74 : decode b_X_earlierNode 74 = .ok (.iconst (-1), 1) := by decide +kernel
theorem d_X_earlierNode_75 : decode b_X_earlierNode 75 = .ok (.ireturn, 1) := by decide +kernel
theorem d_X_endings_0 : decode b_X_endings 0 = .ok (.aload_n 0, 1) := by decide +kernel
theorem d_X_endings_1 : decode b_X_endings 1 = .ok (.iload_n 1, 1) := by decide +kernel
theorem d_X_endings_2 : decode b_X_endings 2 = .ok (.invokevirtual 84, 3) := by decide +kernel
theorem d_X_endings_5 : decode b_X_endings 5 = .ok (.ifCond .ne 5, 3) := by decide +kernel
theorem d_X_endings_8 : decode b_X_endings 8 = .ok (.iconst 0, 1) := by decide +kernel
theorem d_X_endings_9 : decode b_X_endings 9 = .ok (.ireturn, 1) := by decide +kernel
theorem d_X_endings_10 : decode b_X_endings 10 = .ok (.aload_n 0, 1) := by decide +kernel
theorem d_X_endings_11 : decode b_X_endings 11 = .ok (.getfield 23, 3) := by decide +kernel
theorem d_X_endings_14 : decode b_X_endings 14 = .ok (.iload_n 1, 1) := by decide +kernel
theorem d_X_endings_15 : decode b_X_endings 15 = .ok (.iaload, 1) := by decide +kernel
theorem d_X_endings_16 : decode b_X_endings 16 = .ok (.istore_n 2, 1) := by decide +kernel
theorem d_X_endings_17 : decode b_X_endings 17 = .ok (.iconst 0, 1) := by decide +kernel
theorem d_X_endings_18 : decode b_X_endings 18 = .ok (.istore_n 3, 1) := by decide +kernel
theorem d_X_endings_19 : decode b_X_endings 19 = .ok (.iload_n 2, 1) := by decide +kernel
theorem d_X_endings_20 : decode b_X_endings 20 = .ok (.istore 4, 2) := by decide +kernel
theorem d_X_endings_22 : decode b_X_endings 22 = .ok (.iload 4, 2) := by decide +kernel
theorem d_X_endings_24 : decode b_X_endings 24 = .ok (.aload_n 0, 1) := by decide +kernel
theorem d_X_endings_25 : decode b_X_endings 25 = .ok (.getfield 52, 3) := by decide +kernel
theorem d_X_endings_28 : decode b_X_endings 28 = .ok (.if_icmp .ge 28, 3) := by decide +kernel
theorem d_X_endings_31 : decode b_X_endings 31 = .ok (.aload_n 0, 1) := by decide +kernel
theorem d_X_endings_32 : decode b_X_endings 32 = .ok (.iload 4, 2) := by decide +kernel
theorem d_X_endings_34 : decode b_X_endings 34 = .ok (.iload_n 2, 1) := by decide +kernel
theorem d_X_endings_35 : decode b_X_endings 35 = .ok (.aload_n 0, 1) := by decide +kernel
theorem d_X_endings_36 : decode b_X_endings 36 = .ok (.getfield 26, 3) := by decide +kernel
theorem d_X_endings_39 : decode b_X_endings 39 = .ok (.iload_n 1, 1) := by decide +kernel
theorem d_X_endings_40 : decode b_X_endings 40 = .ok (.iaload, 1) := by decide +kernel
theorem d_X_endings_41 : decode b_X_endings 41 = .ok (.invokevirtual 87, 3) := by decide +kernel
theorem d_X_endings_44 : decode b_X_endings 44 = .ok (.ifCond .eq 12, 3) := by decide +kernel
theorem d_X_endings_47 : decode b_X_endings 47 = .ok (.iinc 3 1, 3) := by decide +kernel
theorem d_X_endings_50 : decode b_X_endings 50 = .ok (.iinc 4 1, 3) := by decide +kernel
theorem d_X_endings_53 : decode b_X_endings 53 = .ok (.goto (-31), 3) := by decide +kernel
theorem d_X_endings_56 : decode b_X_endings 56 = .ok (.iload_n 3, 1) := by decide +kernel
theorem d_X_endings_57 : decode b_X_endings 57 = .ok (.ireturn, 1) := by decide +kernel
theorem d_X_ends_0 : decode b_X_ends 0 = .ok (.aload_n 0, 1) := by decide +kernel
theorem d_X_ends_1 : decode b_X_ends 1 = .ok (.iload_n 1, 1) := by decide +kernel
theorem d_X_ends_2 : decode b_X_ends 2 = .ok (.invokevirtual 84, 3) := by decide +kernel
theorem d_X_ends_5 : decode b_X_ends 5 = .ok (.ifCond .ne 5, 3) := by decide +kernel
theorem d_X_ends_8 : decode b_X_ends 8 = .ok (.iconst 0, 1) := by decide +kernel
theorem d_X_ends_9 : decode b_X_ends 9 = .ok (.ireturn, 1) := by decide +kernel
theorem d_X_ends_10 : decode b_X_ends 10 = .ok (.aload_n 0, 1) := by decide +kernel
theorem d_X_ends_11 : decode b_X_ends 11 = .ok (.getfield 23, 3) := by decide +kernel
theorem d_X_ends_14 : decode b_X_ends 14 = .ok (.iload_n 1, 1) := by decide +kernel
theorem d_X_ends_15 : decode b_X_ends 15 = .ok (.iaload, 1) := by decide +kernel
theorem d_X_ends_16 : decode b_X_ends 16 = .ok (.istore_n 2, 1) := by decide +kernel
theorem d_X_ends_17 : decode b_X_ends 17 = .ok (.iload_n 2, 1) := by decide +kernel
theorem d_X_ends_18 : decode b_X_ends 18 = .ok (.aload_n 0, 1) := by decide +kernel
theorem d_X_ends_19 : decode b_X_ends 19 = .ok (.getfield 52, 3) := by decide +kernel
theorem d_X_ends_22 : decode b_X_ends 22 = .ok (.if_icmp .ge 22, 3) := by decide +kernel
theorem d_X_ends_25 : decode b_X_ends 25 = .ok (.aload_n 0, 1) := by decide +kernel
theorem d_X_ends_26 : decode b_X_ends 26 = .ok (.getfield 13, 3) := by decide +kernel
theorem d_X_ends_29 : decode b_X_ends 29 = .ok (.iload_n 2, 1) := by decide +kernel
theorem d_X_ends_30 : decode b_X_ends 30 = .ok (.iaload, 1) := by decide +kernel
theorem d_X_ends_31 : decode b_X_ends 31 = .ok (.aload_n 0, 1) := by decide +kernel
theorem d_X_ends_32 : decode b_X_ends 32 = .ok (.getfield 26, 3) := by decide +kernel
theorem d_X_ends_35 : decode b_X_ends 35 = .ok (.iload_n 1, 1) := by decide +kernel
theorem d_X_ends_36 : decode b_X_ends 36 = .ok (.iaload, 1) := by decide +kernel
theorem d_X_ends_37 : decode b_X_ends 37 = .ok (.if_icmp .ne 7, 3) := by decide +kernel
theorem d_X_ends_40 : decode b_X_ends 40 = .ok (.iconst 1, 1) := by decide +kernel
theorem d_X_ends_41 : decode b_X_ends 41 = .ok (.goto 4, 3) := by decide +kernel
theorem d_X_ends_44 : decode b_X_ends 44 = .ok (.iconst 0, 1) := by decide +kernel
theorem d_X_ends_45 : decode b_X_ends 45 = .ok (.ireturn, 1) := by decide +kernel
theorem d_X_far_0 : decode b_X_far 0 = .ok (.aload_n 0, 1) := by decide +kernel
theorem d_X_far_1 : decode b_X_far 1 = .ok (.iload_n 1, 1) := by decide +kernel
theorem d_X_far_2 : decode b_X_far 2 = .ok (.invokevirtual 109, 3) := by decide +kernel
theorem d_X_far_5 : decode b_X_far 5 = .ok (.ifCond .eq 12, 3) := by decide +kernel
theorem d_X_far_8 : decode b_X_far 8 = .ok (.aload_n 0, 1) := by decide +kernel
theorem d_X_far_9 : decode b_X_far 9 = .ok (.getfield 32, 3) := by decide +kernel
theorem d_X_far_12 : decode b_X_far 12 = .ok (.iload_n 1, 1) := by decide +kernel
theorem d_X_far_13 : decode b_X_far 13 = .ok (.iaload, 1) := by decide +kernel
theorem d_X_far_14 : decode b_X_far 14 = .ok (.goto 4, 3) := by decide +kernel
theorem d_X_far_17 : decode b_X_far 17 = .ok (.iconst (-1), 1) := by decide +kernel
theorem d_X_far_18 : decode b_X_far 18 = .ok (.ireturn, 1) := by decide +kernel
theorem d_X_farOfWord_0 : decode b_X_farOfWord 0 = .ok (.iload_n 2, 1) := by decide +kernel
theorem d_X_farOfWord_1 : decode b_X_farOfWord 1 = .ok (.istore 6, 2) := by decide +kernel
theorem d_X_farOfWord_3 : decode b_X_farOfWord 3 = .ok (.iload 6, 2) := by decide +kernel
theorem d_X_farOfWord_5 : decode b_X_farOfWord 5 = .ok (.aload_n 0, 1) := by decide +kernel
theorem d_X_farOfWord_6 : decode b_X_farOfWord 6 = .ok (.getfield 13, 3) := by decide +kernel
theorem d_X_farOfWord_9 : decode b_X_farOfWord 9 = .ok (.iload_n 1, 1) := by decide +kernel
theorem d_X_farOfWord_10 : decode b_X_farOfWord 10 = .ok (.iaload, 1) := by decide +kernel
theorem d_X_farOfWord_11 : decode b_X_farOfWord 11 = .ok (.if_icmp .gt 31, 3) := by decide +kernel
theorem d_X_farOfWord_14 : decode b_X_farOfWord 14 = .ok (.aload_n 0, 1) := by decide +kernel
theorem d_X_farOfWord_15 : decode b_X_farOfWord 15 = .ok (.iload 6, 2) := by decide +kernel
theorem d_X_farOfWord_17 : decode b_X_farOfWord 17 = .ok (.aload_n 0, 1) := by decide +kernel
theorem d_X_farOfWord_18 : decode b_X_farOfWord 18 = .ok (.getfield 9, 3) := by decide +kernel
theorem d_X_farOfWord_21 : decode b_X_farOfWord 21 = .ok (.iload_n 1, 1) := by decide +kernel
theorem d_X_farOfWord_22 : decode b_X_farOfWord 22 = .ok (.laload, 1) := by decide +kernel
theorem d_X_farOfWord_23 : decode b_X_farOfWord 23 = .ok (.iload 6, 2) := by decide +kernel
theorem d_X_farOfWord_25 : decode b_X_farOfWord 25 = .ok (.iconst 1, 1) := by decide +kernel
theorem d_X_farOfWord_26 : decode b_X_farOfWord 26 = .ok (.isub, 1) := by decide +kernel
theorem d_X_farOfWord_27 : decode b_X_farOfWord 27 = .ok (.invokestatic 91, 3) := by decide +kernel
theorem d_X_farOfWord_30 : decode b_X_farOfWord 30 = .ok (.lload_n 3, 1) := by decide +kernel
theorem d_X_farOfWord_31 : decode b_X_farOfWord 31 = .ok (.iload 5, 2) := by decide +kernel
theorem d_X_farOfWord_33 : decode b_X_farOfWord 33 = .ok (.invokevirtual 130, 3) := by decide +kernel
theorem d_X_farOfWord_36 : decode b_X_farOfWord 36 = .ok (.iinc 6 1, 3) := by decide +kernel
theorem d_X_farOfWord_39 : decode b_X_farOfWord 39 = .ok (.goto (-36), 3) := by decide +kernel
theorem d_X_farOfWord_42 : decode b_X_farOfWord 42 = .ok (.aload_n 0, 1) := by decide +kernel
theorem d_X_farOfWord_43 : decode b_X_farOfWord 43 = .ok (.getfield 35, 3) := by decide +kernel
theorem d_X_farOfWord_46 : decode b_X_farOfWord 46 = .ok (.aload_n 0, 1) := by decide +kernel
theorem d_X_farOfWord_47 : decode b_X_farOfWord 47 = .ok (.getfield 13, 3) := by decide +kernel
theorem d_X_farOfWord_50 : decode b_X_farOfWord 50 = .ok (.iload_n 1, 1) := by decide +kernel
theorem d_X_farOfWord_51 : decode b_X_farOfWord 51 = .ok (.iaload, 1) := by decide +kernel
theorem d_X_farOfWord_52 : decode b_X_farOfWord 52 = .ok (.bipush 13, 2) := by decide +kernel
theorem d_X_farOfWord_54 : decode b_X_farOfWord 54 = .ok (.imul, 1) := by decide +kernel
theorem d_X_farOfWord_55 : decode b_X_farOfWord 55 = .ok (.iload 5, 2) := by decide +kernel
theorem d_X_farOfWord_57 : decode b_X_farOfWord 57 = .ok (.iadd, 1) := by decide +kernel
theorem d_X_farOfWord_58 : decode b_X_farOfWord 58 = .ok (.iaload, 1) := by decide +kernel
theorem d_X_farOfWord_59 : decode b_X_farOfWord 59 = .ok (.ireturn, 1) := by decide +kernel
theorem d_X_fillFirstRow_0 : decode b_X_fillFirstRow 0 = .ok (.iconst 0, 1) := by decide +kernel
theorem d_X_fillFirstRow_1 : decode b_X_fillFirstRow 1 = .ok (.istore_n 2, 1) := by decide +kernel
theorem d_X_fillFirstRow_2 : decode b_X_fillFirstRow 2 = .ok (.iload_n 2, 1) := by decide +kernel
theorem d_X_fillFirstRow_3 : decode b_X_fillFirstRow 3 = .ok (.iload_n 1, 1) := by decide +kernel
theorem d_X_fillFirstRow_4 : decode b_X_fillFirstRow 4 = .ok (.if_icmp .gt 16, 3) := by decide +kernel
theorem d_X_fillFirstRow_7 : decode b_X_fillFirstRow 7 = .ok (.aload_n 0, 1) := by decide +kernel
theorem d_X_fillFirstRow_8 : decode b_X_fillFirstRow 8 = .ok (.getfield 35, 3) := by decide +kernel
theorem d_X_fillFirstRow_11 : decode b_X_fillFirstRow 11 = .ok (.iload_n 2, 1) := by decide +kernel
theorem d_X_fillFirstRow_12 : decode b_X_fillFirstRow 12 = .ok (.iload_n 2, 1) := by decide +kernel
theorem d_X_fillFirstRow_13 : decode b_X_fillFirstRow 13 = .ok (.iastore, 1) := by decide +kernel
theorem d_X_fillFirstRow_14 : decode b_X_fillFirstRow 14 = .ok (.iinc 2 1, 3) := by decide +kernel
theorem d_X_fillFirstRow_17 : decode b_X_fillFirstRow 17 = .ok (.goto (-15), 3) := by decide +kernel
theorem d_X_fillFirstRow_20 : decode b_X_fillFirstRow 20 = .ok (.return_, 1) := by decide +kernel
theorem d_X_fillRow_0 : decode b_X_fillRow 0 = .ok (.iload_n 1, 1) := by decide +kernel
theorem d_X_fillRow_1 : decode b_X_fillRow 1 = .ok (.bipush 13, 2) := by decide +kernel
theorem d_X_fillRow_3 : decode b_X_fillRow 3 = .ok (.imul, 1) := by decide +kernel
theorem d_X_fillRow_4 : decode b_X_fillRow 4 = .ok (.istore 6, 2) := by decide +kernel
theorem d_X_fillRow_6 : decode b_X_fillRow 6 = .ok (.iload 6, 2) := by decide +kernel
theorem d_X_fillRow_8 : decode b_X_fillRow 8 = .ok (.bipush 13, 2) := by decide +kernel
theorem d_X_fillRow_10 : decode b_X_fillRow 10 = .ok (.isub, 1) := by decide +kernel
theorem d_X_fillRow_11 : decode b_X_fillRow 11 = .ok (.istore 7, 2) := by decide +kernel
theorem d_X_fillRow_13 : decode b_X_fillRow 13 = .ok (.aload_n 0, 1) := by decide +kernel
theorem d_X_fillRow_14 : decode b_X_fillRow 14 = .ok (.getfield 35, 3) := by decide +kernel
theorem d_X_fillRow_17 : decode b_X_fillRow 17 = .ok (.iload 6, 2) := by decide +kernel
theorem d_X_fillRow_19 : decode b_X_fillRow 19 = .ok (.iload_n 1, 1) := by decide +kernel
theorem d_X_fillRow_20 : decode b_X_fillRow 20 = .ok (.iastore, 1) := by decide +kernel
theorem d_X_fillRow_21 : decode b_X_fillRow 21 = .ok (.iconst 1, 1) := by decide +kernel
theorem d_X_fillRow_22 : decode b_X_fillRow 22 = .ok (.istore 8, 2) := by decide +kernel
theorem d_X_fillRow_24 : decode b_X_fillRow 24 = .ok (.iload 8, 2) := by decide +kernel
theorem d_X_fillRow_26 : decode b_X_fillRow 26 = .ok (.iload 5, 2) := by decide +kernel
theorem d_X_fillRow_28 : decode b_X_fillRow 28 = .ok (.if_icmp .gt 87, 3) := by decide +kernel
theorem d_X_fillRow_31 : decode b_X_fillRow 31 = .ok (.lload_n 3, 1) := by decide +kernel
theorem d_X_fillRow_32 : decode b_X_fillRow 32 = .ok (.iload 8, 2) := by decide +kernel
theorem d_X_fillRow_34 : decode b_X_fillRow 34 = .ok (.iconst 1, 1) := by decide +kernel
theorem d_X_fillRow_35 : decode b_X_fillRow 35 = .ok (.isub, 1) := by decide +kernel
theorem d_X_fillRow_36 : decode b_X_fillRow 36 = .ok (.invokestatic 91, 3) := by decide +kernel
theorem d_X_fillRow_39 : decode b_X_fillRow 39 = .ok (.iload_n 2, 1) := by decide +kernel
theorem d_X_fillRow_40 : decode b_X_fillRow 40 = .ok (.if_icmp .ne 7, 3) := by decide +kernel
theorem d_X_fillRow_43 : decode b_X_fillRow 43 = .ok (.iconst 0, 1) := by decide +kernel
theorem d_X_fillRow_44 : decode b_X_fillRow 44 = .ok (.goto 4, 3) := by decide +kernel
theorem d_X_fillRow_47 : decode b_X_fillRow 47 = .ok (.iconst 1, 1) := by decide +kernel
theorem d_X_fillRow_48 : decode b_X_fillRow 48 = .ok (.istore 9, 2) := by decide +kernel
theorem d_X_fillRow_50 : decode b_X_fillRow 50 = .ok (.aload_n 0, 1) := by decide +kernel
theorem d_X_fillRow_51 : decode b_X_fillRow 51 = .ok (.getfield 35, 3) := by decide +kernel
theorem d_X_fillRow_54 : decode b_X_fillRow 54 = .ok (.iload 7, 2) := by decide +kernel
theorem d_X_fillRow_56 : decode b_X_fillRow 56 = .ok (.iload 8, 2) := by decide +kernel
theorem d_X_fillRow_58 : decode b_X_fillRow 58 = .ok (.iadd, 1) := by decide +kernel
theorem d_X_fillRow_59 : decode b_X_fillRow 59 = .ok (.iaload, 1) := by decide +kernel
theorem d_X_fillRow_60 : decode b_X_fillRow 60 = .ok (.aload_n 0, 1) := by decide +kernel
theorem d_X_fillRow_61 : decode b_X_fillRow 61 = .ok (.getfield 35, 3) := by decide +kernel
theorem d_X_fillRow_64 : decode b_X_fillRow 64 = .ok (.iload 6, 2) := by decide +kernel
theorem d_X_fillRow_66 : decode b_X_fillRow 66 = .ok (.iload 8, 2) := by decide +kernel
theorem d_X_fillRow_68 : decode b_X_fillRow 68 = .ok (.iadd, 1) := by decide +kernel
theorem d_X_fillRow_69 : decode b_X_fillRow 69 = .ok (.iconst 1, 1) := by decide +kernel
theorem d_X_fillRow_70 : decode b_X_fillRow 70 = .ok (.isub, 1) := by decide +kernel
theorem d_X_fillRow_71 : decode b_X_fillRow 71 = .ok (.iaload, 1) := by decide +kernel
theorem d_X_fillRow_72 : decode b_X_fillRow 72 = .ok (.invokestatic 125, 3) := by decide +kernel
theorem d_X_fillRow_75 : decode b_X_fillRow 75 = .ok (.iconst 1, 1) := by decide +kernel
theorem d_X_fillRow_76 : decode b_X_fillRow 76 = .ok (.iadd, 1) := by decide +kernel
theorem d_X_fillRow_77 : decode b_X_fillRow 77 = .ok (.istore 10, 2) := by decide +kernel
theorem d_X_fillRow_79 : decode b_X_fillRow 79 = .ok (.aload_n 0, 1) := by decide +kernel
theorem d_X_fillRow_80 : decode b_X_fillRow 80 = .ok (.getfield 35, 3) := by decide +kernel
theorem d_X_fillRow_83 : decode b_X_fillRow 83 = .ok (.iload 6, 2) := by decide +kernel
theorem d_X_fillRow_85 : decode b_X_fillRow 85 = .ok (.iload 8, 2) := by decide +kernel
theorem d_X_fillRow_87 : decode b_X_fillRow 87 = .ok (.iadd, 1) := by decide +kernel
theorem d_X_fillRow_88 : decode b_X_fillRow 88 = .ok (.aload_n 0, 1) := by decide +kernel
theorem d_X_fillRow_89 : decode b_X_fillRow 89 = .ok (.getfield 35, 3) := by decide +kernel
theorem d_X_fillRow_92 : decode b_X_fillRow 92 = .ok (.iload 7, 2) := by decide +kernel
theorem d_X_fillRow_94 : decode b_X_fillRow 94 = .ok (.iload 8, 2) := by decide +kernel
theorem d_X_fillRow_96 : decode b_X_fillRow 96 = .ok (.iadd, 1) := by decide +kernel
theorem d_X_fillRow_97 : decode b_X_fillRow 97 = .ok (.iconst 1, 1) := by decide +kernel
theorem d_X_fillRow_98 : decode b_X_fillRow 98 = .ok (.isub, 1) := by decide +kernel
theorem d_X_fillRow_99 : decode b_X_fillRow 99 = .ok (.iaload, 1) := by decide +kernel
theorem d_X_fillRow_100 : decode b_X_fillRow 100 = .ok (.iload 9, 2) := by decide +kernel
theorem d_X_fillRow_102 : decode b_X_fillRow 102 = .ok (.iadd, 1) := by decide +kernel
theorem d_X_fillRow_103 : decode b_X_fillRow 103 = .ok (.iload 10, 2) := by decide +kernel
theorem d_X_fillRow_105 : decode b_X_fillRow 105 = .ok (.invokestatic 125, 3) := by decide +kernel
theorem d_X_fillRow_108 : decode b_X_fillRow 108 = .ok (.iastore, 1) := by decide +kernel
theorem d_X_fillRow_109 : decode b_X_fillRow 109 = .ok (.iinc 8 1, 3) := by decide +kernel
theorem d_X_fillRow_112 : decode b_X_fillRow 112 = .ok (.goto (-88), 3) := by decide +kernel
theorem d_X_fillRow_115 : decode b_X_fillRow 115 = .ok (.return_, 1) := by decide +kernel
theorem d_X_find_0 : decode b_X_find 0 = .ok (.iconst 0, 1) := by decide +kernel
theorem d_X_find_1 : decode b_X_find 1 = .ok (.istore_n 3, 1) := by decide +kernel
theorem d_X_find_2 : decode b_X_find 2 = .ok (.iload_n 3, 1) := by decide +kernel
theorem d_X_find_3 : decode b_X_find 3 = .ok (.aload_n 0, 1) := by decide +kernel
theorem d_X_find_4 : decode b_X_find 4 = .ok (.getfield 52, 3) := by decide +kernel
theorem d_X_find_7 : decode b_X_find 7 = .ok (.if_icmp .ge 22, 3) := by decide +kernel
theorem d_X_find_10 : decode b_X_find 10 = .ok (.aload_n 0, 1) := by decide +kernel
theorem d_X_find_11 : decode b_X_find 11 = .ok (.getfield 9, 3) := by decide +kernel
theorem d_X_find_14 : decode b_X_find 14 = .ok (.iload_n 3, 1) := by decide +kernel
theorem d_X_find_15 : decode b_X_find 15 = .ok (.laload, 1) := by decide +kernel
theorem d_X_find_16 : decode b_X_find 16 = .ok (.lload_n 1, 1) := by decide +kernel
theorem d_X_find_17 : decode b_X_find 17 = .ok (.lcmp, 1) := by decide +kernel
theorem d_X_find_18 : decode b_X_find 18 = .ok (.ifCond .ne 5, 3) := by decide +kernel
theorem d_X_find_21 : decode b_X_find 21 = .ok (.iload_n 3, 1) := by decide +kernel
theorem d_X_find_22 : decode b_X_find 22 = .ok (.ireturn, 1) := by decide +kernel
theorem d_X_find_23 : decode b_X_find 23 = .ok (.iinc 3 1, 3) := by decide +kernel
theorem d_X_find_26 : decode b_X_find 26 = .ok (.goto (-24), 3) := by decide +kernel
theorem d_X_find_29 : decode b_X_find 29 = .ok (.iconst (-1), 1) := by decide +kernel
theorem d_X_find_30 : decode b_X_find 30 = .ok (.ireturn, 1) := by decide +kernel
theorem d_X_hasNode_0 : decode b_X_hasNode 0 = .ok (.iload_n 1, 1) := by decide +kernel
theorem d_X_hasNode_1 : decode b_X_hasNode 1 = .ok (.ifCond .lt 15, 3) := by decide +kernel
theorem d_X_hasNode_4 : decode b_X_hasNode 4 = .ok (.iload_n 1, 1) := by decide +kernel
theorem d_X_hasNode_5 : decode b_X_hasNode 5 = .ok (.aload_n 0, 1) := by decide +kernel
theorem d_X_hasNode_6 : decode b_X_hasNode 6 = .ok (.getfield 72, 3) := by decide +kernel
theorem d_X_hasNode_9 : decode b_X_hasNode 9 = .ok (.if_icmp .ge 7, 3) := by decide +kernel
theorem d_X_hasNode_12 : decode b_X_hasNode 12 = .ok (.iconst 1, 1) := by decide +kernel
theorem d_X_hasNode_13 : decode b_X_hasNode 13 = .ok (.goto 4, 3) := by decide +kernel
theorem d_X_hasNode_16 : decode b_X_hasNode 16 = .ok (.iconst 0, 1) := by decide +kernel
theorem d_X_hasNode_17 : decode b_X_hasNode 17 = .ok (.ireturn, 1) := by decide +kernel
theorem d_X_hasResult_0 : decode b_X_hasResult 0 = .ok (.iload_n 1, 1) := by decide +kernel
theorem d_X_hasResult_1 : decode b_X_hasResult 1 = .ok (.ifCond .lt 15, 3) := by decide +kernel
theorem d_X_hasResult_4 : decode b_X_hasResult 4 = .ok (.iload_n 1, 1) := by decide +kernel
theorem d_X_hasResult_5 : decode b_X_hasResult 5 = .ok (.aload_n 0, 1) := by decide +kernel
theorem d_X_hasResult_6 : decode b_X_hasResult 6 = .ok (.getfield 75, 3) := by decide +kernel
theorem d_X_hasResult_9 : decode b_X_hasResult 9 = .ok (.if_icmp .ge 7, 3) := by decide +kernel
theorem d_X_hasResult_12 : decode b_X_hasResult 12 = .ok (.iconst 1, 1) := by decide +kernel
theorem d_X_hasResult_13 : decode b_X_hasResult 13 = .ok (.goto 4, 3) := by decide +kernel
theorem d_X_hasResult_16 : decode b_X_hasResult 16 = .ok (.iconst 0, 1) := by decide +kernel
theorem d_X_hasResult_17 : decode b_X_hasResult 17 = .ok (.ireturn, 1) := by decide +kernel
theorem d_X_hasWord_0 : decode b_X_hasWord 0 = .ok (.iload_n 1, 1) := by decide +kernel
theorem d_X_hasWord_1 : decode b_X_hasWord 1 = .ok (.ifCond .lt 15, 3) := by decide +kernel
theorem d_X_hasWord_4 : decode b_X_hasWord 4 = .ok (.iload_n 1, 1) := by decide +kernel
theorem d_X_hasWord_5 : decode b_X_hasWord 5 = .ok (.aload_n 0, 1) := by decide +kernel
theorem d_X_hasWord_6 : decode b_X_hasWord 6 = .ok (.getfield 52, 3) := by decide +kernel
theorem d_X_hasWord_9 : decode b_X_hasWord 9 = .ok (.if_icmp .ge 7, 3) := by decide +kernel
theorem d_X_hasWord_12 : decode b_X_hasWord 12 = .ok (.iconst 1, 1) := by decide +kernel
theorem d_X_hasWord_13 : decode b_X_hasWord 13 = .ok (.goto 4, 3) := by decide +kernel
theorem d_X_hasWord_16 : decode b_X_hasWord 16 = .ok (.iconst 0, 1) := by decide +kernel
theorem d_X_hasWord_17 : decode b_X_hasWord 17 = .ok (.ireturn, 1) := by decide +kernel
theorem d_X_isWord_0 : decode b_X_isWord 0 = .ok (.lload_n 0, 1) := by decide +kernel
theorem d_X_isWord_1 : decode b_X_isWord 1 = .ok (.lconst 0, 1) := by decide +kernel
theorem d_X_isWord_2 : decode b_X_isWord 2 = .ok (.lcmp, 1) := by decide +kernel
theorem d_X_isWord_3 : decode b_X_isWord 3 = .ok (.ifCond .lt 11, 3) := by decide +kernel
theorem d_X_isWord_6 : decode b_X_isWord 6 = .ok (.lload_n 0, 1) := by decide +kernel
theorem d_X_isWord_7 : decode b_X_isWord 7 = .ok (.ldc2_w 112, 3) := by decide +kernel
theorem d_X_isWord_10 : decode b_X_isWord 10 = .ok (.lcmp, 1) := by decide +kernel
theorem d_X_isWord_11 : decode b_X_isWord 11 = .ok (.ifCond .le 5, 3) := by decide +kernel
theorem d_X_isWord_14 : decode b_X_isWord 14 = .ok (.iconst 0, 1) := by decide +kernel
theorem d_X_isWord_15 : decode b_X_isWord 15 = .ok (.ireturn, 1) := by decide +kernel
theorem d_X_isWord_16 : decode b_X_isWord 16 = .ok (.lload_n 0, 1) := by decide +kernel
theorem d_X_isWord_17 : decode b_X_isWord 17 = .ok (.invokestatic 56, 3) := by decide +kernel
theorem d_X_isWord_20 : decode b_X_isWord 20 = .ok (.istore_n 2, 1) := by decide +kernel
theorem d_X_isWord_21 : decode b_X_isWord 21 = .ok (.iconst 0, 1) := by decide +kernel
theorem d_X_isWord_22 : decode b_X_isWord 22 = .ok (.istore_n 3, 1) := by decide +kernel
theorem d_X_isWord_23 : decode b_X_isWord 23 = .ok (.iload_n 3, 1) := by decide +kernel
theorem d_X_isWord_24 : decode b_X_isWord 24 = .ok (.iload_n 2, 1) := by decide +kernel
theorem d_X_isWord_25 : decode b_X_isWord 25 = .ok (.if_icmp .ge 21, 3) := by decide +kernel
theorem d_X_isWord_28 : decode b_X_isWord 28 = .ok (.lload_n 0, 1) := by decide +kernel
theorem d_X_isWord_29 : decode b_X_isWord 29 = .ok (.iload_n 3, 1) := by decide +kernel
theorem d_X_isWord_30 : decode b_X_isWord 30 = .ok (.invokestatic 91, 3) := by decide +kernel
theorem d_X_isWord_33 : decode b_X_isWord 33 = .ok (.bipush 26, 2) := by decide +kernel
theorem d_X_isWord_35 : decode b_X_isWord 35 = .ok (.if_icmp .le 5, 3) := by decide +kernel
theorem d_X_isWord_38 : decode b_X_isWord 38 = .ok (.iconst 0, 1) := by decide +kernel
theorem d_X_isWord_39 : decode b_X_isWord 39 = .ok (.ireturn, 1) := by decide +kernel
theorem d_X_isWord_40 : decode b_X_isWord 40 = .ok (.iinc 3 1, 3) := by decide +kernel
theorem d_X_isWord_43 : decode b_X_isWord 43 = .ok (.goto (-20), 3) := by decide +kernel
theorem d_X_isWord_46 : decode b_X_isWord 46 = .ok (.lload_n 0, 1) := by decide +kernel
theorem d_X_isWord_47 : decode b_X_isWord 47 = .ok (.iload_n 2, 1) := by decide +kernel
theorem d_X_isWord_48 : decode b_X_isWord 48 = .ok (.invokestatic 114, 3) := by decide +kernel
theorem d_X_isWord_51 : decode b_X_isWord 51 = .ok (.lconst 0, 1) := by decide +kernel
theorem d_X_isWord_52 : decode b_X_isWord 52 = .ok (.lcmp, 1) := by decide +kernel
theorem d_X_isWord_53 : decode b_X_isWord 53 = .ok (.ifCond .ne 7, 3) := by decide +kernel
theorem d_X_isWord_56 : decode b_X_isWord 56 = .ok (.iconst 1, 1) := by decide +kernel
theorem d_X_isWord_57 : decode b_X_isWord 57 = .ok (.goto 4, 3) := by decide +kernel
theorem d_X_isWord_60 : decode b_X_isWord 60 = .ok (.iconst 0, 1) := by decide +kernel
theorem d_X_isWord_61 : decode b_X_isWord 61 = .ok (.ireturn, 1) := by decide +kernel
theorem d_X_lengthOf_0 : decode b_X_lengthOf 0 = .ok (.iconst 0, 1) := by decide +kernel
theorem d_X_lengthOf_1 : decode b_X_lengthOf 1 = .ok (.istore_n 2, 1) := by decide +kernel
theorem d_X_lengthOf_2 : decode b_X_lengthOf 2 = .ok (.iload_n 2, 1) := by decide +kernel
theorem d_X_lengthOf_3 : decode b_X_lengthOf 3 = .ok (.bipush 12, 2) := by decide +kernel
theorem d_X_lengthOf_5 : decode b_X_lengthOf 5 = .ok (.if_icmp .ge 17, 3) := by decide +kernel
theorem d_X_lengthOf_8 : decode b_X_lengthOf 8 = .ok (.lload_n 0, 1) := by decide +kernel
theorem d_X_lengthOf_9 : decode b_X_lengthOf 9 = .ok (.iload_n 2, 1) := by decide +kernel
theorem d_X_lengthOf_10 : decode b_X_lengthOf 10 = .ok (.invokestatic 91, 3) := by decide +kernel
theorem d_X_lengthOf_13 : decode b_X_lengthOf 13 = .ok (.ifCond .eq 9, 3) := by decide +kernel
theorem d_X_lengthOf_16 : decode b_X_lengthOf 16 = .ok (.iinc 2 1, 3) := by decide +kernel
theorem d_X_lengthOf_19 : decode b_X_lengthOf 19 = .ok (.goto (-17), 3) := by decide +kernel
theorem d_X_lengthOf_22 : decode b_X_lengthOf 22 = .ok (.iload_n 2, 1) := by decide +kernel
theorem d_X_lengthOf_23 : decode b_X_lengthOf 23 = .ok (.ireturn, 1) := by decide +kernel
theorem d_X_letterAt_0 : decode b_X_letterAt 0 = .ok (.iload_n 2, 1) := by decide +kernel
theorem d_X_letterAt_1 : decode b_X_letterAt 1 = .ok (.bipush 12, 2) := by decide +kernel
theorem d_X_letterAt_3 : decode b_X_letterAt 3 = .ok (.if_icmp .lt 5, 3) := by decide +kernel
theorem d_X_letterAt_6 : decode b_X_letterAt 6 = .ok (.iconst 0, 1) := by decide +kernel
theorem d_X_letterAt_7 : decode b_X_letterAt 7 = .ok (.ireturn, 1) := by decide +kernel
theorem d_X_letterAt_8 : decode b_X_letterAt 8 = .ok (.lload_n 0, 1) := by decide +kernel
theorem d_X_letterAt_9 : decode b_X_letterAt 9 = .ok (.bipush 60, 2) := by decide +kernel
theorem d_X_letterAt_11 : decode b_X_letterAt 11 = .ok (.iconst 5, 1) := by decide +kernel
theorem d_X_letterAt_12 : decode b_X_letterAt 12 = .ok (.iload_n 2, 1) := by decide +kernel
theorem d_X_letterAt_13 : decode b_X_letterAt 13 = .ok (.iconst 1, 1) := by decide +kernel
theorem d_X_letterAt_14 : decode b_X_letterAt 14 = .ok (.iadd, 1) := by decide +kernel
theorem d_X_letterAt_15 : decode b_X_letterAt 15 = .ok (.imul, 1) := by decide +kernel
theorem d_X_letterAt_16 : decode b_X_letterAt 16 = .ok (.isub, 1) := by decide +kernel
theorem d_X_letterAt_17 : decode b_X_letterAt 17 = .ok (.lushr, 1) := by decide +kernel
theorem d_X_letterAt_18 : decode b_X_letterAt 18 = .ok (.l2i, 1) := by decide +kernel
theorem d_X_letterAt_19 : decode b_X_letterAt 19 = .ok (.bipush 31, 2) := by decide +kernel
theorem d_X_letterAt_21 : decode b_X_letterAt 21 = .ok (.iand, 1) := by decide +kernel
theorem d_X_letterAt_22 : decode b_X_letterAt 22 = .ok (.ireturn, 1) := by decide +kernel
theorem d_X_makeNode_0 : decode b_X_makeNode 0 = .ok (.aload_n 0, 1) := by decide +kernel
theorem d_X_makeNode_1 : decode b_X_makeNode 1 = .ok (.getfield 23, 3) := by decide +kernel
theorem d_X_makeNode_4 : decode b_X_makeNode 4 = .ok (.aload_n 0, 1) := by decide +kernel
theorem d_X_makeNode_5 : decode b_X_makeNode 5 = .ok (.getfield 72, 3) := by decide +kernel
theorem d_X_makeNode_8 : decode b_X_makeNode 8 = .ok (.iload_n 1, 1) := by decide +kernel
theorem d_X_makeNode_9 : decode b_X_makeNode 9 = .ok (.iastore, 1) := by decide +kernel
theorem d_X_makeNode_10 : decode b_X_makeNode 10 = .ok (.aload_n 0, 1) := by decide +kernel
theorem d_X_makeNode_11 : decode b_X_makeNode 11 = .ok (.getfield 26, 3) := by decide +kernel
theorem d_X_makeNode_14 : decode b_X_makeNode 14 = .ok (.aload_n 0, 1) := by decide +kernel
theorem d_X_makeNode_15 : decode b_X_makeNode 15 = .ok (.getfield 72, 3) := by decide +kernel
theorem d_X_makeNode_18 : decode b_X_makeNode 18 = .ok (.iload_n 2, 1) := by decide +kernel
theorem d_X_makeNode_19 : decode b_X_makeNode 19 = .ok (.iastore, 1) := by decide +kernel
theorem d_X_makeNode_20 : decode b_X_makeNode 20 = .ok (.aload_n 0, 1) := by decide +kernel
theorem d_X_makeNode_21 : decode b_X_makeNode 21 = .ok (.dup, 1) := by decide +kernel
theorem d_X_makeNode_22 : decode b_X_makeNode 22 = .ok (.getfield 72, 3) := by decide +kernel
theorem d_X_makeNode_25 : decode b_X_makeNode 25 = .ok (.iconst 1, 1) := by decide +kernel
theorem d_X_makeNode_26 : decode b_X_makeNode 26 = .ok (.iadd, 1) := by decide +kernel
theorem d_X_makeNode_27 : decode b_X_makeNode 27 = .ok (.putfield 72, 3) := by decide +kernel
theorem d_X_makeNode_30 : decode b_X_makeNode 30 = .ok (.aload_n 0, 1) := by decide +kernel
theorem d_X_makeNode_31 : decode b_X_makeNode 31 = .ok (.getfield 72, 3) := by decide +kernel
theorem d_X_makeNode_34 : decode b_X_makeNode 34 = .ok (.iconst 1, 1) := by decide +kernel
theorem d_X_makeNode_35 : decode b_X_makeNode 35 = .ok (.isub, 1) := by decide +kernel
theorem d_X_makeNode_36 : decode b_X_makeNode 36 = .ok (.ireturn, 1) := by decide +kernel
theorem d_X_measureAll_0 : decode b_X_measureAll 0 = .ok (.lload_n 1, 1) := by decide +kernel
theorem d_X_measureAll_1 : decode b_X_measureAll 1 = .ok (.invokestatic 56, 3) := by decide +kernel
theorem d_X_measureAll_4 : decode b_X_measureAll 4 = .ok (.istore_n 3, 1) := by decide +kernel
theorem d_X_measureAll_5 : decode b_X_measureAll 5 = .ok (.aload_n 0, 1) := by decide +kernel
theorem d_X_measureAll_6 : decode b_X_measureAll 6 = .ok (.iload_n 3, 1) := by decide +kernel
theorem d_X_measureAll_7 : decode b_X_measureAll 7 = .ok (.invokevirtual 95, 3) := by decide +kernel
theorem d_X_measureAll_10 : decode b_X_measureAll 10 = .ok (.iconst 0, 1) := by decide +kernel
theorem d_X_measureAll_11 : decode b_X_measureAll 11 = .ok (.istore 4, 2) := by decide +kernel
theorem d_X_measureAll_13 : decode b_X_measureAll 13 = .ok (.iload 4, 2) := by decide +kernel
theorem d_X_measureAll_15 : decode b_X_measureAll 15 = .ok (.aload_n 0, 1) := by decide +kernel
theorem d_X_measureAll_16 : decode b_X_measureAll 16 = .ok (.getfield 52, 3) := by decide +kernel
theorem d_X_measureAll_19 : decode b_X_measureAll 19 = .ok (.if_icmp .ge 35, 3) := by decide +kernel
theorem d_X_measureAll_22 : decode b_X_measureAll 22 = .ok (.aload_n 0, 1) := by decide +kernel
theorem d_X_measureAll_23 : decode b_X_measureAll 23 = .ok (.getfield 38, 3) := by decide +kernel
theorem d_X_measureAll_26 : decode b_X_measureAll 26 = .ok (.iload 4, 2) := by decide +kernel
theorem d_X_measureAll_28 : decode b_X_measureAll 28 = .ok (.aload_n 0, 1) := by decide +kernel
theorem d_X_measureAll_29 : decode b_X_measureAll 29 = .ok (.iload 4, 2) := by decide +kernel
theorem d_X_measureAll_31 : decode b_X_measureAll 31 = .ok (.aload_n 0, 1) := by decide +kernel
theorem d_X_measureAll_32 : decode b_X_measureAll 32 = .ok (.getfield 17, 3) := by decide +kernel
theorem d_X_measureAll_35 : decode b_X_measureAll 35 = .ok (.iload 4, 2) := by decide +kernel
theorem d_X_measureAll_37 : decode b_X_measureAll 37 = .ok (.iaload, 1) := by decide +kernel
theorem d_X_measureAll_38 : decode b_X_measureAll 38 = .ok (.iconst 1, 1) := by decide +kernel
theorem d_X_measureAll_39 : decode b_X_measureAll 39 = .ok (.invokestatic 134, 3) := by decide +kernel
theorem d_X_measureAll_42 : decode b_X_measureAll 42 = .ok (.lload_n 1, 1) := by decide +kernel
theorem d_X_measureAll_43 : decode b_X_measureAll 43 = .ok (.iload_n 3, 1) := by decide +kernel
theorem d_X_measureAll_44 : decode b_X_measureAll 44 = .ok (.invokevirtual 98, 3) := by decide +kernel
theorem d_X_measureAll_47 : decode b_X_measureAll 47 = .ok (.iastore, 1) := by decide +kernel
theorem d_X_measureAll_48 : decode b_X_measureAll 48 = .ok (.iinc 4 1, 3) := by decide +kernel
theorem d_X_measureAll_51 : decode b_X_measureAll 51 = .ok (.goto (-38), 3) := by decide +kernel
theorem d_X_measureAll_54 : decode b_X_measureAll 54 = .ok (.return_, 1) := by decide +kernel
theorem d_X_nodes_0 : decode b_X_nodes 0 = .ok (.aload_n 0, 1) := by decide +kernel
theorem d_X_nodes_1 : decode b_X_nodes 1 = .ok (.getfield 72, 3) := by decide +kernel
theorem d_X_nodes_4 : decode b_X_nodes 4 = .ok (.ireturn, 1) := by decide +kernel
theorem d_X_numberBeginnings_0 : decode b_X_numberBeginnings 0 = .ok (.aload_n 0, 1) := by decide +kernel
theorem d_X_numberBeginnings_1 : decode b_X_numberBeginnings 1 = .ok (.getfield 17, 3) := by decide +kernel
theorem d_X_numberBeginnings_4 : decode b_X_numberBeginnings 4 = .ok (.iload_n 1, 1) := by decide +kernel
theorem d_X_numberBeginnings_5 : decode b_X_numberBeginnings 5 = .ok (.iaload, 1) := by decide +kernel
theorem d_X_numberBeginnings_6 : decode b_X_numberBeginnings 6 = .ok (.istore_n 2, 1) := by decide +kernel
theorem d_X_numberBeginnings_7 : decode b_X_numberBeginnings 7 = .ok (.iload_n 2, 1) := by decide +kernel
theorem d_X_numberBeginnings_8 : decode b_X_numberBeginnings 8 = .ok (.aload_n 0, 1) := by decide +kernel
theorem d_X_numberBeginnings_9 : decode b_X_numberBeginnings 9 = .ok (.getfield 13, 3) := by decide +kernel
theorem d_X_numberBeginnings_12 : decode b_X_numberBeginnings 12 = .ok (.iload_n 1, 1) := by decide +kernel
theorem d_X_numberBeginnings_13 : decode b_X_numberBeginnings 13 = .ok (.iaload, 1) := by decide +kernel
theorem d_X_numberBeginnings_14 : decode b_X_numberBeginnings 14 = .ok (.if_icmp .gt 41, 3) := by decide +kernel
theorem d_X_numberBeginnings_17 : decode b_X_numberBeginnings 17 = .ok (.aload_n 0, 1) := by decide +kernel
theorem d_X_numberBeginnings_18 : decode b_X_numberBeginnings 18 = .ok (.iload_n 1, 1) := by decide +kernel
theorem d_X_numberBeginnings_19 : decode b_X_numberBeginnings 19 = .ok (.iload_n 2, 1) := by decide +kernel
theorem d_X_numberBeginnings_20 : decode b_X_numberBeginnings 20 = .ok (.invokevirtual 118, 3) := by decide +kernel
theorem d_X_numberBeginnings_23 : decode b_X_numberBeginnings 23 = .ok (.istore_n 3, 1) := by decide +kernel
theorem d_X_numberBeginnings_24 : decode b_X_numberBeginnings 24 = .ok (.aload_n 0, 1) := by decide +kernel
theorem d_X_numberBeginnings_25 : decode b_X_numberBeginnings 25 = .ok (.getfield 20, 3) := by decide +kernel
theorem d_X_numberBeginnings_28 : decode b_X_numberBeginnings 28 = .ok (.iload_n 1, 1) := by decide +kernel
theorem d_X_numberBeginnings_29 : decode b_X_numberBeginnings 29 = .ok (.bipush 13, 2) := by decide +kernel
theorem d_X_numberBeginnings_31 : decode b_X_numberBeginnings 31 = .ok (.imul, 1) := by decide +kernel
theorem d_X_numberBeginnings_32 : decode b_X_numberBeginnings 32 = .ok (.iload_n 2, 1) := by decide +kernel
theorem d_X_numberBeginnings_33 : decode b_X_numberBeginnings 33 = .ok (.iadd, 1) := by decide +kernel
theorem d_X_numberBeginnings_34 : decode b_X_numberBeginnings 34 = .ok (.iload_n 3, 1) := by decide +kernel
theorem d_X_numberBeginnings_35 : decode b_X_numberBeginnings 35 = .ok (.ifCond .lt 7, 3) := by decide +kernel
theorem d_X_numberBeginnings_38 : decode b_X_numberBeginnings 38 = .ok (.iload_n 3, 1) := by decide +kernel
theorem d_X_numberBeginnings_39 : decode b_X_numberBeginnings 39 = .ok (.goto 9, 3) := by decide +kernel
theorem d_X_numberBeginnings_42 : decode b_X_numberBeginnings 42 = .ok (.aload_n 0, 1) := by decide +kernel
theorem d_X_numberBeginnings_43 : decode b_X_numberBeginnings 43 = .ok (.iload_n 1, 1) := by decide +kernel
theorem d_X_numberBeginnings_44 : decode b_X_numberBeginnings 44 = .ok (.iload_n 2, 1) := by decide +kernel
theorem d_X_numberBeginnings_45 : decode b_X_numberBeginnings 45 = .ok (.invokevirtual 64, 3) := by decide +kernel
theorem d_X_numberBeginnings_48 : decode b_X_numberBeginnings 48 = .ok (.iastore, 1) := by decide +kernel
theorem d_X_numberBeginnings_49 : decode b_X_numberBeginnings 49 = .ok (.iinc 2 1, 3) := by decide +kernel
theorem d_X_numberBeginnings_52 : decode b_X_numberBeginnings 52 = .ok (.goto (-45), 3) := by decide +kernel
theorem d_X_numberBeginnings_55 : decode b_X_numberBeginnings 55 = .ok (.return_, 1) := by decide +kernel
theorem d_X_restOf_0 : decode b_X_restOf 0 = .ok (.lload_n 0, 1) := by decide +kernel
theorem d_X_restOf_1 : decode b_X_restOf 1 = .ok (.iconst 5, 1) := by decide +kernel
theorem d_X_restOf_2 : decode b_X_restOf 2 = .ok (.iload_n 2, 1) := by decide +kernel
theorem d_X_restOf_3 : decode b_X_restOf 3 = .ok (.imul, 1) := by decide +kernel
theorem d_X_restOf_4 : decode b_X_restOf 4 = .ok (.lshl, 1) := by decide +kernel
theorem d_X_restOf_5 : decode b_X_restOf 5 = .ok (.ldc2_w 112, 3) := by decide +kernel
theorem d_X_restOf_8 : decode b_X_restOf 8 = .ok (.land, 1) := by decide +kernel
theorem d_X_restOf_9 : decode b_X_restOf 9 = .ok (.lreturn, 1) := by decide +kernel
theorem d_X_result_0 : decode b_X_result 0 = .ok (.aload_n 0, 1) := by decide +kernel
theorem d_X_result_1 : decode b_X_result 1 = .ok (.iload_n 1, 1) := by decide +kernel
theorem d_X_result_2 : decode b_X_result 2 = .ok (.invokevirtual 109, 3) := by decide +kernel
theorem d_X_result_5 : decode b_X_result 5 = .ok (.ifCond .eq 12, 3) := by decide +kernel
theorem d_X_result_8 : decode b_X_result 8 = .ok (.aload_n 0, 1) := by decide +kernel
theorem d_X_result_9 : decode b_X_result 9 = .ok (.getfield 29, 3) := by decide +kernel
theorem d_X_result_12 : decode b_X_result 12 = .ok (.iload_n 1, 1) := by decide +kernel
theorem d_X_result_13 : decode b_X_result 13 = .ok (.iaload, 1) := by decide +kernel
theorem d_X_result_14 : decode b_X_result 14 = .ok (.goto 4, 3) := by decide +kernel
theorem d_X_result_17 : decode b_X_result 17 = .ok (.iconst (-1), 1) := by decide +kernel
theorem d_X_result_18 : decode b_X_result 18 = .ok (.ireturn, 1) := by decide +kernel
theorem d_X_sameEndings_0 : decode b_X_sameEndings 0 = .ok (.iconst 0, 1) := by decide +kernel
theorem d_X_sameEndings_1 : decode b_X_sameEndings 1 = .ok (.istore 5, 2) := by decide +kernel
theorem d_X_sameEndings_3 : decode b_X_sameEndings 3 = .ok (.iload 5, 2) := by decide +kernel
theorem d_X_sameEndings_5 : decode b_X_sameEndings 5 = .ok (.bipush 48, 2) := by decide +kernel
theorem d_X_sameEndings_7 : decode b_X_sameEndings 7 = .ok (.if_icmp .ge 121, 3) := by decide +kernel
theorem d_X_sameEndings_10 : decode b_X_sameEndings 10 = .ok (.iload_n 1, 1) := by decide +kernel
theorem d_X_sameEndings_11 : decode b_X_sameEndings 11 = .ok (.iload 5, 2) := by decide +kernel
theorem d_X_sameEndings_13 : decode b_X_sameEndings 13 = .ok (.iadd, 1) := by decide +kernel
theorem d_X_sameEndings_14 : decode b_X_sameEndings 14 = .ok (.aload_n 0, 1) := by decide +kernel
theorem d_X_sameEndings_15 : decode b_X_sameEndings 15 = .ok (.getfield 52, 3) := by decide +kernel
theorem d_X_sameEndings_18 : decode b_X_sameEndings 18 = .ok (.if_icmp .ge 20, 3) := by decide +kernel
theorem d_X_sameEndings_21 : decode b_X_sameEndings 21 = .ok (.aload_n 0, 1) := by decide +kernel
theorem d_X_sameEndings_22 : decode b_X_sameEndings 22 = .ok (.iload_n 1, 1) := by decide +kernel
theorem d_X_sameEndings_23 : decode b_X_sameEndings 23 = .ok (.iload 5, 2) := by decide +kernel
theorem d_X_sameEndings_25 : decode b_X_sameEndings 25 = .ok (.iadd, 1) := by decide +kernel
theorem d_X_sameEndings_26 : decode b_X_sameEndings 26 = .ok (.iload_n 1, 1) := by decide +kernel
theorem d_X_sameEndings_27 : decode b_X_sameEndings 27 = .ok (.iload_n 2, 1) := by decide +kernel
theorem d_X_sameEndings_28 : decode b_X_sameEndings 28 = .ok (.invokevirtual 87, 3) := by decide +kernel
theorem d_X_sameEndings_31 : decode b_X_sameEndings 31 = .ok (.ifCond .eq 7, 3) := by decide +kernel
theorem d_X_sameEndings_34 : decode b_X_sameEndings 34 = .ok (.iconst 1, 1) := by decide +kernel
theorem d_X_sameEndings_35 : decode b_X_sameEndings 35 = .ok (.goto 4, 3) := by decide +kernel
theorem d_X_sameEndings_38 : decode b_X_sameEndings 38 = .ok (.iconst 0, 1) := by decide +kernel
theorem d_X_sameEndings_39 : decode b_X_sameEndings 39 = .ok (.istore 6, 2) := by decide +kernel
theorem d_X_sameEndings_41 : decode b_X_sameEndings 41 = .ok (.iload_n 3, 1) := by decide +kernel
theorem d_X_sameEndings_42 : decode b_X_sameEndings 42 = .ok (.iload 5, 2) := by decide +kernel
theorem d_X_sameEndings_44 : decode b_X_sameEndings 44 = .ok (.iadd, 1) := by decide +kernel
theorem d_X_sameEndings_45 : decode b_X_sameEndings 45 = .ok (.aload_n 0, 1) := by decide +kernel
theorem d_X_sameEndings_46 : decode b_X_sameEndings 46 = .ok (.getfield 52, 3) := by decide +kernel
theorem d_X_sameEndings_49 : decode b_X_sameEndings 49 = .ok (.if_icmp .ge 21, 3) := by decide +kernel
theorem d_X_sameEndings_52 : decode b_X_sameEndings 52 = .ok (.aload_n 0, 1) := by decide +kernel
theorem d_X_sameEndings_53 : decode b_X_sameEndings 53 = .ok (.iload_n 3, 1) := by decide +kernel
theorem d_X_sameEndings_54 : decode b_X_sameEndings 54 = .ok (.iload 5, 2) := by decide +kernel
theorem d_X_sameEndings_56 : decode b_X_sameEndings 56 = .ok (.iadd, 1) := by decide +kernel
theorem d_X_sameEndings_57 : decode b_X_sameEndings 57 = .ok (.iload_n 3, 1) := by decide +kernel
theorem d_X_sameEndings_58 : decode b_X_sameEndings 58 = .ok (.iload 4, 2) := by decide +kernel
theorem d_X_sameEndings_60 : decode b_X_sameEndings 60 = .ok (.invokevirtual 87, 3) := by decide +kernel
theorem d_X_sameEndings_63 : decode b_X_sameEndings 63 = .ok (.ifCond .eq 7, 3) := by decide +kernel
theorem d_X_sameEndings_66 : decode b_X_sameEndings 66 = .ok (.iconst 1, 1) := by decide +kernel
theorem d_X_sameEndings_67 : decode b_X_sameEndings 67 = .ok (.goto 4, 3) := by decide +kernel
theorem d_X_sameEndings_70 : decode b_X_sameEndings 70 = .ok (.iconst 0, 1) := by decide +kernel
theorem d_X_sameEndings_71 : decode b_X_sameEndings 71 = .ok (.istore 7, 2) := by decide +kernel
theorem d_X_sameEndings_73 : decode b_X_sameEndings 73 = .ok (.iload 6, 2) := by decide +kernel
theorem d_X_sameEndings_75 : decode b_X_sameEndings 75 = .ok (.iload 7, 2) := by decide +kernel
theorem d_X_sameEndings_77 : decode b_X_sameEndings 77 = .ok (.if_icmp .eq 5, 3) := by decide +kernel
theorem d_X_sameEndings_80 : decode b_X_sameEndings 80 = .ok (.iconst 0, 1) := by decide +kernel
theorem d_X_sameEndings_81 : decode b_X_sameEndings 81 = .ok (.ireturn, 1) := by decide +kernel
theorem d_X_sameEndings_82 : decode b_X_sameEndings 82 = .ok (.iload 6, 2) := by decide +kernel
theorem d_X_sameEndings_84 : decode b_X_sameEndings 84 = .ok (.ifCond .ne 5, 3) := by decide +kernel
theorem d_X_sameEndings_87 : decode b_X_sameEndings 87 = .ok (.iconst 1, 1) := by decide +kernel
theorem d_X_sameEndings_88 : decode b_X_sameEndings 88 = .ok (.ireturn, 1) := by decide +kernel
theorem d_X_sameEndings_89 : decode b_X_sameEndings 89 = .ok (.aload_n 0, 1) := by decide +kernel
theorem d_X_sameEndings_90 : decode b_X_sameEndings 90 = .ok (.getfield 9, 3) := by decide +kernel
theorem d_X_sameEndings_93 : decode b_X_sameEndings 93 = .ok (.iload_n 1, 1) := by decide +kernel
theorem d_X_sameEndings_94 : decode b_X_sameEndings 94 = .ok (.iload 5, 2) := by decide +kernel
theorem d_X_sameEndings_96 : decode b_X_sameEndings 96 = .ok (.iadd, 1) := by decide +kernel
theorem d_X_sameEndings_97 : decode b_X_sameEndings 97 = .ok (.laload, 1) := by decide +kernel
theorem d_X_sameEndings_98 : decode b_X_sameEndings 98 = .ok (.iload_n 2, 1) := by decide +kernel
theorem d_X_sameEndings_99 : decode b_X_sameEndings 99 = .ok (.invokestatic 114, 3) := by decide +kernel
theorem d_X_sameEndings_102 : decode b_X_sameEndings 102 = .ok (.aload_n 0, 1) := by decide +kernel
theorem d_X_sameEndings_103 : decode b_X_sameEndings 103 = .ok (.getfield 9, 3) := by decide +kernel
theorem d_X_sameEndings_106 : decode b_X_sameEndings 106 = .ok (.iload_n 3, 1) := by decide +kernel
theorem d_X_sameEndings_107 : decode b_X_sameEndings 107 = .ok (.iload 5, 2) := by decide +kernel
theorem d_X_sameEndings_109 : decode b_X_sameEndings 109 = .ok (.iadd, 1) := by decide +kernel
theorem d_X_sameEndings_110 : decode b_X_sameEndings 110 = .ok (.laload, 1) := by decide +kernel
theorem d_X_sameEndings_111 : decode b_X_sameEndings 111 = .ok (.iload 4, 2) := by decide +kernel
theorem d_X_sameEndings_113 : decode b_X_sameEndings 113 = .ok (.invokestatic 114, 3) := by decide +kernel
theorem d_X_sameEndings_116 : decode b_X_sameEndings 116 = .ok (.lcmp, 1) := by decide +kernel
theorem d_X_sameEndings_117 : decode b_X_sameEndings 117 = .ok (.ifCond .eq 5, 3) := by decide +kernel
theorem d_X_sameEndings_120 : decode b_X_sameEndings 120 = .ok (.iconst 0, 1) := by decide +kernel
theorem d_X_sameEndings_121 : decode b_X_sameEndings 121 = .ok (.ireturn, 1) := by decide +kernel
theorem d_X_sameEndings_122 : decode b_X_sameEndings 122 = .ok (.iinc 5 1, 3) := by decide +kernel
theorem d_X_sameEndings_125 : decode b_X_sameEndings 125 = .ok (.goto (-122), 3) := by decide +kernel
theorem d_X_sameEndings_128 : decode b_X_sameEndings 128 = .ok (.iconst 1, 1) := by decide +kernel
theorem d_X_sameEndings_129 : decode b_X_sameEndings 129 = .ok (.ireturn, 1) := by decide +kernel
theorem d_X_seal_0 : decode b_X_seal 0 = .ok (.aload_n 0, 1) := by decide +kernel
theorem d_X_seal_1 : decode b_X_seal 1 = .ok (.getfield 44, 3) := by decide +kernel
theorem d_X_seal_4 : decode b_X_seal 4 = .ok (.ifCond .eq 5, 3) := by decide +kernel
theorem d_X_seal_7 : decode b_X_seal 7 = .ok (.iconst 0, 1) := by decide +kernel
theorem d_X_seal_8 : decode b_X_seal 8 = .ok (.ireturn, 1) := by decide +kernel
theorem d_X_seal_9 : decode b_X_seal 9 = .ok (.aload_n 0, 1) := by decide +kernel
theorem d_X_seal_10 : decode b_X_seal 10 = .ok (.iconst 1, 1) := by decide +kernel
theorem d_X_seal_11 : decode b_X_seal 11 = .ok (.putfield 44, 3) := by decide +kernel
theorem d_X_seal_14 : decode b_X_seal 14 = .ok (.aload_n 0, 1) := by decide +kernel
theorem d_X_seal_15 : decode b_X_seal 15 = .ok (.getfield 52, 3) := by decide +kernel
theorem d_X_seal_18 : decode b_X_seal 18 = .ok (.ifCond .ne 10, 3) := by decide +kernel
theorem d_X_seal_21 : decode b_X_seal 21 = .ok (.aload_n 0, 1) := by decide +kernel
theorem d_X_seal_22 : decode b_X_seal 22 = .ok (.iconst 0, 1) := by decide +kernel
theorem d_X_seal_23 : decode b_X_seal 23 = .ok (.iconst 0, 1) := by decide +kernel
theorem d_X_seal_24 : decode b_X_seal 24 = .ok (.invokevirtual 64, 3) := by decide +kernel
theorem d_X_seal_27 : decode b_X_seal 27 = .ok (.pop, 1) := by decide +kernel
theorem d_X_seal_28 : decode b_X_seal 28 = .ok (.iconst 0, 1) := by decide +kernel
theorem d_X_seal_29 : decode b_X_seal 29 = .ok (.istore_n 1, 1) := by decide +kernel
theorem d_X_seal_30 : decode b_X_seal 30 = .ok (.iload_n 1, 1) := by decide +kernel
theorem d_X_seal_31 : decode b_X_seal 31 = .ok (.aload_n 0, 1) := by decide +kernel
theorem d_X_seal_32 : decode b_X_seal 32 = .ok (.getfield 52, 3) := by decide +kernel
theorem d_X_seal_35 : decode b_X_seal 35 = .ok (.if_icmp .ge 14, 3) := by decide +kernel
theorem d_X_seal_38 : decode b_X_seal 38 = .ok (.aload_n 0, 1) := by decide +kernel
theorem d_X_seal_39 : decode b_X_seal 39 = .ok (.iload_n 1, 1) := by decide +kernel
theorem d_X_seal_40 : decode b_X_seal 40 = .ok (.invokevirtual 68, 3) := by decide +kernel
theorem d_X_seal_43 : decode b_X_seal 43 = .ok (.iinc 1 1, 3) := by decide +kernel
theorem d_X_seal_46 : decode b_X_seal 46 = .ok (.goto (-16), 3) := by decide +kernel
theorem d_X_seal_49 : decode b_X_seal 49 = .ok (.iconst 1, 1) := by decide +kernel
theorem d_X_seal_50 : decode b_X_seal 50 = .ok (.ireturn, 1) := by decide +kernel
theorem d_X_search_0 : decode b_X_search 0 = .ok (.aload_n 0, 1) := by decide +kernel
theorem d_X_search_1 : decode b_X_search 1 = .ok (.getfield 44, 3) := by decide +kernel
theorem d_X_search_4 : decode b_X_search 4 = .ok (.ifCond .ne 5, 3) := by decide +kernel
theorem d_X_search_7 : decode b_X_search 7 = .ok (.iconst (-1), 1) := by decide +kernel
theorem d_X_search_8 : decode b_X_search 8 = .ok (.ireturn, 1) := by decide +kernel
theorem d_X_search_9 : decode b_X_search 9 = .ok (.lload_n 1, 1) := by decide +kernel
theorem d_X_search_10 : decode b_X_search 10 = .ok (.invokestatic 48, 3) := by decide +kernel
theorem d_X_search_13 : decode b_X_search 13 = .ok (.ifCond .eq 12, 3) := by decide +kernel
theorem d_X_search_16 : decode b_X_search 16 = .ok (.iload_n 3, 1) := by decide +kernel
theorem d_X_search_17 : decode b_X_search 17 = .ok (.ifCond .lt 8, 3) := by decide +kernel
theorem d_X_search_20 : decode b_X_search 20 = .ok (.iload_n 3, 1) := by decide +kernel
theorem d_X_search_21 : decode b_X_search 21 = .ok (.iconst 3, 1) := by decide +kernel
theorem d_X_search_22 : decode b_X_search 22 = .ok (.if_icmp .le 6, 3) := by decide +kernel
theorem d_X_search_25 : decode b_X_search 25 = .ok (.bipush (-2), 2) := by decide +kernel
theorem d_X_search_27 : decode b_X_search 27 = .ok (.ireturn, 1) := by decide +kernel
theorem d_X_search_28 : decode b_X_search 28 = .ok (.aload_n 0, 1) := by decide +kernel
theorem d_X_search_29 : decode b_X_search 29 = .ok (.lload_n 1, 1) := by decide +kernel
theorem d_X_search_30 : decode b_X_search 30 = .ok (.invokevirtual 102, 3) := by decide +kernel
theorem d_X_search_33 : decode b_X_search 33 = .ok (.aload_n 0, 1) := by decide +kernel
theorem d_X_search_34 : decode b_X_search 34 = .ok (.iconst 0, 1) := by decide +kernel
theorem d_X_search_35 : decode b_X_search 35 = .ok (.putfield 75, 3) := by decide +kernel
theorem d_X_search_38 : decode b_X_search 38 = .ok (.iconst 0, 1) := by decide +kernel
theorem d_X_search_39 : decode b_X_search 39 = .ok (.istore 4, 2) := by decide +kernel
theorem d_X_search_41 : decode b_X_search 41 = .ok (.iload 4, 2) := by decide +kernel
theorem d_X_search_43 : decode b_X_search 43 = .ok (.iload_n 3, 1) := by decide +kernel
theorem d_X_search_44 : decode b_X_search 44 = .ok (.if_icmp .gt 15, 3) := by decide +kernel
theorem d_X_search_47 : decode b_X_search 47 = .ok (.aload_n 0, 1) := by decide +kernel
theorem d_X_search_48 : decode b_X_search 48 = .ok (.iload 4, 2) := by decide +kernel
theorem d_X_search_50 : decode b_X_search 50 = .ok (.invokevirtual 106, 3) := by decide +kernel
theorem d_X_search_53 : decode b_X_search 53 = .ok (.iinc 4 1, 3) := by decide +kernel
theorem d_X_search_56 : decode b_X_search 56 = .ok (.goto (-15), 3) := by decide +kernel
theorem d_X_search_59 : decode b_X_search 59 = .ok (.aload_n 0, 1) := by decide +kernel
theorem d_X_search_60 : decode b_X_search 60 = .ok (.getfield 75, 3) := by decide +kernel
theorem d_X_search_63 : decode b_X_search 63 = .ok (.ireturn, 1) := by decide +kernel
theorem d_X_sharedLetters_0 : decode b_X_sharedLetters 0 = .ok (.iconst 0, 1) := by decide +kernel
theorem d_X_sharedLetters_1 : decode b_X_sharedLetters 1 = .ok (.istore 4, 2) := by decide +kernel
theorem d_X_sharedLetters_3 : decode b_X_sharedLetters 3 = .ok (.iload 4, 2) := by decide +kernel
theorem d_X_sharedLetters_5 : decode b_X_sharedLetters 5 = .ok (.bipush 12, 2) := by decide +kernel
theorem d_X_sharedLetters_7 : decode b_X_sharedLetters 7 = .ok (.if_icmp .ge 24, 3) := by decide +kernel
theorem d_X_sharedLetters_10 : decode b_X_sharedLetters 10 = .ok (.lload_n 0, 1) := by decide +kernel
theorem d_X_sharedLetters_11 : decode b_X_sharedLetters 11 = .ok (.iload 4, 2) := by decide +kernel
theorem d_X_sharedLetters_13 : decode b_X_sharedLetters 13 = .ok (.invokestatic 91, 3) := by decide +kernel
theorem d_X_sharedLetters_16 : decode b_X_sharedLetters 16 = .ok (.lload_n 2, 1) := by decide +kernel
theorem d_X_sharedLetters_17 : decode b_X_sharedLetters 17 = .ok (.iload 4, 2) := by decide +kernel
theorem d_X_sharedLetters_19 : decode b_X_sharedLetters 19 = .ok (.invokestatic 91, 3) := by decide +kernel
theorem d_X_sharedLetters_22 : decode b_X_sharedLetters 22 = .ok (.if_icmp .ne 9, 3) := by decide +kernel
theorem d_X_sharedLetters_25 : decode b_X_sharedLetters 25 = .ok (.iinc 4 1, 3) := by decide +kernel
theorem d_X_sharedLetters_28 : decode b_X_sharedLetters 28 = .ok (.goto (-25), 3) := by decide +kernel
theorem d_X_sharedLetters_31 : decode b_X_sharedLetters 31 = .ok (.iload 4, 2) := by decide +kernel
theorem d_X_sharedLetters_33 : decode b_X_sharedLetters 33 = .ok (.ireturn, 1) := by decide +kernel
theorem d_X_size_0 : decode b_X_size 0 = .ok (.aload_n 0, 1) := by decide +kernel
theorem d_X_size_1 : decode b_X_size 1 = .ok (.getfield 52, 3) := by decide +kernel
theorem d_X_size_4 : decode b_X_size 4 = .ok (.ireturn, 1) := by decide +kernel
theorem d_X_step_0 : decode b_X_step 0 = .ok (.aload_n 0, 1) := by decide +kernel
theorem d_X_step_1 : decode b_X_step 1 = .ok (.iload_n 1, 1) := by decide +kernel
theorem d_X_step_2 : decode b_X_step 2 = .ok (.invokevirtual 84, 3) := by decide +kernel
theorem d_X_step_5 : decode b_X_step 5 = .ok (.ifCond .eq 14, 3) := by decide +kernel
theorem d_X_step_8 : decode b_X_step 8 = .ok (.iload_n 2, 1) := by decide +kernel
theorem d_X_step_9 : decode b_X_step 9 = .ok (.iconst 1, 1) := by decide +kernel
theorem d_X_step_10 : decode b_X_step 10 = .ok (.if_icmp .lt 9, 3) := by decide +kernel
theorem d_X_step_13 : decode b_X_step 13 = .ok (.iload_n 2, 1) := by decide +kernel
theorem d_X_step_14 : decode b_X_step 14 = .ok (.bipush 26, 2) := by decide +kernel
theorem d_X_step_16 : decode b_X_step 16 = .ok (.if_icmp .le 5, 3) := by decide +kernel
theorem d_X_step_19 : decode b_X_step 19 = .ok (.iconst (-1), 1) := by decide +kernel
theorem d_X_step_20 : decode b_X_step 20 = .ok (.ireturn, 1) := by decide +kernel
theorem d_X_step_21 : decode b_X_step 21 = .ok (.aload_n 0, 1) := by decide +kernel
theorem d_X_step_22 : decode b_X_step 22 = .ok (.getfield 23, 3) := by decide +kernel
theorem d_X_step_25 : decode b_X_step 25 = .ok (.iload_n 1, 1) := by decide +kernel
theorem d_X_step_26 : decode b_X_step 26 = .ok (.iaload, 1) := by decide +kernel
theorem d_X_step_27 : decode b_X_step 27 = .ok (.istore_n 3, 1) := by decide +kernel
theorem d_X_step_28 : decode b_X_step 28 = .ok (.aload_n 0, 1) := by decide +kernel
theorem d_X_step_29 : decode b_X_step 29 = .ok (.getfield 26, 3) := by decide +kernel
theorem d_X_step_32 : decode b_X_step 32 = .ok (.iload_n 1, 1) := by decide +kernel
theorem d_X_step_33 : decode b_X_step 33 = .ok (.iaload, 1) := by decide +kernel
theorem d_X_step_34 : decode b_X_step 34 = .ok (.istore 4, 2) := by decide +kernel
theorem d_X_step_36 : decode b_X_step 36 = .ok (.iload_n 3, 1) := by decide +kernel
theorem d_X_step_37 : decode b_X_step 37 = .ok (.istore 5, 2) := by decide +kernel
theorem d_X_step_39 : decode b_X_step 39 = .ok (.iload 5, 2) := by decide +kernel
theorem d_X_step_41 : decode b_X_step 41 = .ok (.aload_n 0, 1) := by decide +kernel
theorem d_X_step_42 : decode b_X_step 42 = .ok (.getfield 52, 3) := by decide +kernel
theorem d_X_step_45 : decode b_X_step 45 = .ok (.if_icmp .ge 53, 3) := by decide +kernel
theorem d_X_step_48 : decode b_X_step 48 = .ok (.aload_n 0, 1) := by decide +kernel
theorem d_X_step_49 : decode b_X_step 49 = .ok (.iload 5, 2) := by decide +kernel
theorem d_X_step_51 : decode b_X_step 51 = .ok (.iload_n 3, 1) := by decide +kernel
theorem d_X_step_52 : decode b_X_step 52 = .ok (.iload 4, 2) := by decide +kernel
theorem d_X_step_54 : decode b_X_step 54 = .ok (.invokevirtual 87, 3) := by decide +kernel
theorem d_X_step_57 : decode b_X_step 57 = .ok (.ifCond .eq 41, 3) := by decide +kernel
theorem d_X_step_60 : decode b_X_step 60 = .ok (.aload_n 0, 1) := by decide +kernel
theorem d_X_step_61 : decode b_X_step 61 = .ok (.getfield 9, 3) := by decide +kernel
theorem d_X_step_64 : decode b_X_step 64 = .ok (.iload 5, 2) := by decide +kernel
theorem d_X_step_66 : decode b_X_step 66 = .ok (.laload, 1) := by decide +kernel
theorem d_X_step_67 : decode b_X_step 67 = .ok (.iload 4, 2) := by decide +kernel
theorem d_X_step_69 : decode b_X_step 69 = .ok (.invokestatic 91, 3) := by decide +kernel
theorem d_X_step_72 : decode b_X_step 72 = .ok (.iload_n 2, 1) := by decide +kernel
theorem d_X_step_73 : decode b_X_step 73 = .ok (.if_icmp .ne 19, 3) := by decide +kernel
theorem d_X_step_76 : decode b_X_step 76 = .ok (.aload_n 0, 1) := by decide +kernel
theorem d_X_step_77 : decode b_X_step 77 = .ok (.getfield 20, 3) := by decide +kernel
theorem d_X_step_80 : decode b_X_step 80 = .ok (.iload 5, 2) := by decide +kernel
theorem d_X_step_82 : decode b_X_step 82 = .ok (.bipush 13, 2) := by decide +kernel
theorem d_X_step_84 : decode b_X_step 84 = .ok (.imul, 1) := by decide +kernel
theorem d_X_step_85 : decode b_X_step 85 = .ok (.iload 4, 2) := by decide +kernel
theorem d_X_step_87 : decode b_X_step 87 = .ok (.iadd, 1) := by decide +kernel
theorem d_X_step_88 : decode b_X_step 88 = .ok (.iconst 1, 1) := by decide +kernel
theorem d_X_step_89 : decode b_X_step 89 = .ok (.iadd, 1) := by decide +kernel
theorem d_X_step_90 : decode b_X_step 90 = .ok (.iaload, 1) := by decide +kernel
theorem d_X_step_91 : decode b_X_step 91 = .ok (.ireturn, 1) := by decide +kernel
theorem d_X_step_92 : decode b_X_step 92 = .ok (.iinc 5 1, 3) := by decide +kernel
theorem d_X_step_95 : decode b_X_step 95 = .ok (.goto (-56), 3) := by decide +kernel
theorem d_X_step_98 : decode b_X_step 98 = .ok (.iconst (-1), 1) := by decide +kernel
theorem d_X_step_99 : decode b_X_step 99 = .ok (.ireturn, 1) := by decide +kernel
theorem d_X_takeResults_0 : decode b_X_takeResults 0 = .ok (.iconst 0, 1) := by decide +kernel
theorem d_X_takeResults_1 : decode b_X_takeResults 1 = .ok (.istore_n 2, 1) := by decide +kernel
theorem d_X_takeResults_2 : decode b_X_takeResults 2 = .ok (.iload_n 2, 1) := by decide +kernel
theorem d_X_takeResults_3 : decode b_X_takeResults 3 = .ok (.aload_n 0, 1) := by decide +kernel
theorem d_X_takeResults_4 : decode b_X_takeResults 4 = .ok (.getfield 52, 3) := by decide +kernel
theorem d_X_takeResults_7 : decode b_X_takeResults 7 = .ok (.if_icmp .ge 49, 3) := by decide +kernel
theorem d_X_takeResults_10 : decode b_X_takeResults 10 = .ok (.aload_n 0, 1) := by decide +kernel
theorem d_X_takeResults_11 : decode b_X_takeResults 11 = .ok (.getfield 38, 3) := by decide +kernel
theorem d_X_takeResults_14 : decode b_X_takeResults 14 = .ok (.iload_n 2, 1) := by decide +kernel
theorem d_X_takeResults_15 : decode b_X_takeResults 15 = .ok (.iaload, 1) := by decide +kernel
theorem d_X_takeResults_16 : decode b_X_takeResults 16 = .ok (.iload_n 1, 1) := by decide +kernel
theorem d_X_takeResults_17 : decode b_X_takeResults 17 = .ok (.if_icmp .ne 33, 3) := by decide +kernel
theorem d_X_takeResults_20 : decode b_X_takeResults 20 = .ok (.aload_n 0, 1) := by decide +kernel
theorem d_X_takeResults_21 : decode b_X_takeResults 21 = .ok (.getfield 29, 3) := by decide +kernel
theorem d_X_takeResults_24 : decode b_X_takeResults 24 = .ok (.aload_n 0, 1) := by decide +kernel
theorem d_X_takeResults_25 : decode b_X_takeResults 25 = .ok (.getfield 75, 3) := by decide +kernel
theorem d_X_takeResults_28 : decode b_X_takeResults 28 = .ok (.iload_n 2, 1) := by decide +kernel
theorem d_X_takeResults_29 : decode b_X_takeResults 29 = .ok (.iastore, 1) := by decide +kernel
theorem d_X_takeResults_30 : decode b_X_takeResults 30 = .ok (.aload_n 0, 1) := by decide +kernel
theorem d_X_takeResults_31 : decode b_X_takeResults 31 = .ok (.getfield 32, 3) := by decide +kernel
theorem d_X_takeResults_34 : decode b_X_takeResults 34 = .ok (.aload_n 0, 1) := by decide +kernel
theorem d_X_takeResults_35 : decode b_X_takeResults 35 = .ok (.getfield 75, 3) := by decide +kernel
theorem d_X_takeResults_38 : decode b_X_takeResults 38 = .ok (.iload_n 1, 1) := by decide +kernel
theorem d_X_takeResults_39 : decode b_X_takeResults 39 = .ok (.iastore, 1) := by decide +kernel
theorem d_X_takeResults_40 : decode b_X_takeResults 40 = .ok (.aload_n 0, 1) := by decide +kernel
theorem d_X_takeResults_41 : decode b_X_takeResults 41 = .ok (.dup, 1) := by decide +kernel
theorem d_X_takeResults_42 : decode b_X_takeResults 42 = .ok (.getfield 75, 3) := by decide +kernel
theorem d_X_takeResults_45 : decode b_X_takeResults 45 = .ok (.iconst 1, 1) := by decide +kernel
theorem d_X_takeResults_46 : decode b_X_takeResults 46 = .ok (.iadd, 1) := by decide +kernel
theorem d_X_takeResults_47 : decode b_X_takeResults 47 = .ok (.putfield 75, 3) := by decide +kernel
theorem d_X_takeResults_50 : decode b_X_takeResults 50 = .ok (.iinc 2 1, 3) := by decide +kernel
theorem d_X_takeResults_53 : decode b_X_takeResults 53 = .ok (.goto (-51), 3) := by decide +kernel
theorem d_X_takeResults_56 : decode b_X_takeResults 56 = .ok (.return_, 1) := by decide +kernel
theorem d_X_word_0 : decode b_X_word 0 = .ok (.aload_n 0, 1) := by decide +kernel
theorem d_X_word_1 : decode b_X_word 1 = .ok (.iload_n 1, 1) := by decide +kernel
theorem d_X_word_2 : decode b_X_word 2 = .ok (.invokevirtual 78, 3) := by decide +kernel
theorem d_X_word_5 : decode b_X_word 5 = .ok (.ifCond .eq 12, 3) := by decide +kernel
theorem d_X_word_8 : decode b_X_word 8 = .ok (.aload_n 0, 1) := by decide +kernel
theorem d_X_word_9 : decode b_X_word 9 = .ok (.getfield 9, 3) := by decide +kernel
theorem d_X_word_12 : decode b_X_word 12 = .ok (.iload_n 1, 1) := by decide +kernel
theorem d_X_word_13 : decode b_X_word 13 = .ok (.laload, 1) := by decide +kernel
theorem d_X_word_14 : decode b_X_word 14 = .ok (.goto 6, 3) := by decide +kernel
theorem d_X_word_17 : decode b_X_word 17 = .ok (.ldc2_w 82, 3) := by decide +kernel
theorem d_X_word_20 : decode b_X_word 20 = .ok (.lreturn, 1) := by decide +kernel
end
section
theorem d_M_init_0 : decode b_M_init 0 = .ok (.aload_n 0, 1) := by decide +kernel
theorem d_M_init_1 : decode b_M_init 1 = .ok (.invokespecial 1, 3) := by decide +kernel
theorem d_M_init_4 : decode b_M_init 4 = .ok (.aload_n 0, 1) := by decide +kernel
theorem d_M_init_5 : decode b_M_init 5 = .ok (.bipush 48, 2) := by decide +kernel
theorem d_M_init_7 : decode b_M_init 7 = .ok (.newarray .long, 2) := by decide +kernel
theorem d_M_init_9 : decode b_M_init 9 = .ok (.putfield 7, 3) := by decide +kernel
theorem d_M_init_12 : decode b_M_init 12 = .ok (.aload_n 0, 1) := by decide +kernel
theorem d_M_init_13 : decode b_M_init 13 = .ok (.bipush 48, 2) := by decide +kernel
theorem d_M_init_15 : decode b_M_init 15 = .ok (.newarray .int, 2) := by decide +kernel
theorem d_M_init_17 : decode b_M_init 17 = .ok (.putfield 13, 3) := by decide +kernel
theorem d_M_init_20 : decode b_M_init 20 = .ok (.aload_n 0, 1) := by decide +kernel
theorem d_M_init_21 : decode b_M_init 21 = .ok (.bipush 48, 2) := by decide +kernel
theorem d_M_init_23 : decode b_M_init 23 = .ok (.newarray .int, 2) := by decide +kernel
theorem d_M_init_25 : decode b_M_init 25 = .ok (.putfield 17, 3) := by decide +kernel
theorem d_M_init_28 : decode b_M_init 28 = .ok (.aload_n 0, 1) := by decide +kernel
theorem d_M_init_29 : decode b_M_init 29 = .ok (.sipush 624, 3) := by decide +kernel
theorem d_M_init_32 : decode b_M_init 32 = .ok (.newarray .int, 2) := by decide +kernel
theorem d_M_init_34 : decode b_M_init 34 = .ok (.putfield 20, 3) := by decide +kernel
theorem d_M_init_37 : decode b_M_init 37 = .ok (.aload_n 0, 1) := by decide +kernel
theorem d_M_init_38 : decode b_M_init 38 = .ok (.sipush 625, 3) := by decide +kernel
theorem d_M_init_41 : decode b_M_init 41 = .ok (.newarray .int, 2) := by decide +kernel
theorem d_M_init_43 : decode b_M_init 43 = .ok (.putfield 23, 3) := by decide +kernel
theorem d_M_init_46 : decode b_M_init 46 = .ok (.aload_n 0, 1) := by decide +kernel
theorem d_M_init_47 : decode b_M_init 47 = .ok (.sipush 625, 3) := by decide +kernel
theorem d_M_init_50 : decode b_M_init 50 = .ok (.newarray .int, 2) := by decide +kernel
theorem d_M_init_52 : decode b_M_init 52 = .ok (.putfield 26, 3) := by decide +kernel
theorem d_M_init_55 : decode b_M_init 55 = .ok (.aload_n 0, 1) := by decide +kernel
theorem d_M_init_56 : decode b_M_init 56 = .ok (.sipush 169, 3) := by decide +kernel
theorem d_M_init_59 : decode b_M_init 59 = .ok (.newarray .int, 2) := by decide +kernel
theorem d_M_init_61 : decode b_M_init 61 = .ok (.putfield 29, 3) := by decide +kernel
theorem d_M_init_64 : decode b_M_init 64 = .ok (.aload_n 0, 1) := by decide +kernel
theorem d_M_init_65 : decode b_M_init 65 = .ok (.iconst 0, 1) := by decide +kernel
theorem d_M_init_66 : decode b_M_init 66 = .ok (.putfield 32, 3) := by decide +kernel
theorem d_M_init_69 : decode b_M_init 69 = .ok (.return_, 1) := by decide +kernel
theorem d_M_add_0 : decode b_M_add 0 = .ok (.aload_n 0, 1) := by decide +kernel
theorem d_M_add_1 : decode b_M_add 1 = .ok (.getfield 40, 3) := by decide +kernel
theorem d_M_add_4 : decode b_M_add 4 = .ok (.ifCond .eq 5, 3) := by decide +kernel
theorem d_M_add_7 : decode b_M_add 7 = .ok (.iconst (-1), 1) := by decide +kernel
theorem d_M_add_8 : decode b_M_add 8 = .ok (.ireturn, 1) := by decide +kernel
theorem d_M_add_9 : decode b_M_add 9 = .ok (.lload_n 1, 1) := by decide +kernel
theorem d_M_add_10 : decode b_M_add 10 = .ok (.invokestatic 44, 3) := by decide +kernel
theorem d_M_add_13 : decode b_M_add 13 = .ok (.ifCond .ne 6, 3) := by decide +kernel
theorem d_M_add_16 : decode b_M_add 16 = .ok (.bipush (-2), 2) := by decide +kernel
theorem d_M_add_18 : decode b_M_add 18 = .ok (.ireturn, 1) := by decide +kernel
theorem d_M_add_19 : decode b_M_add 19 = .ok (.aload_n 0, 1) := by decide +kernel
theorem d_M_add_20 : decode b_M_add 20 = .ok (.getfield 32, 3) := by decide +kernel
theorem d_M_add_23 : decode b_M_add 23 = .ok (.bipush 48, 2) := by decide +kernel
theorem d_M_add_25 : decode b_M_add 25 = .ok (.if_icmp .ne 6, 3) := by decide +kernel
theorem d_M_add_28 : decode b_M_add 28 = .ok (.bipush (-3), 2) := by decide +kernel
theorem d_M_add_30 : decode b_M_add 30 = .ok (.ireturn, 1) := by decide +kernel
theorem d_M_add_31 : decode b_M_add 31 = .ok (.aload_n 0, 1) := by decide +kernel
theorem d_M_add_32 : decode b_M_add 32 = .ok (.getfield 32, 3) := by decide +kernel
theorem d_M_add_35 : decode b_M_add 35 = .ok (.ifCond .le 22, 3) := by decide +kernel
theorem d_M_add_38 : decode b_M_add 38 = .ok (.lload_n 1, 1) := by decide +kernel
theorem d_M_add_39 : decode b_M_add 39 = .ok (.aload_n 0, 1) := by decide +kernel
theorem d_M_add_40 : decode b_M_add 40 = .ok (.getfield 7, 3) := by decide +kernel
theorem d_M_add_43 : decode b_M_add 43 = .ok (.aload_n 0, 1) := by decide +kernel
theorem d_M_add_44 : decode b_M_add 44 = .ok (.getfield 32, 3) := by decide +kernel
theorem d_M_add_47 : decode b_M_add 47 = .ok (.iconst 1, 1) := by decide +kernel
theorem d_M_add_48 : decode b_M_add 48 = .ok (.isub, 1) := by decide +kernel
theorem d_M_add_49 : decode b_M_add 49 = .ok (.laload, 1) := by decide +kernel
theorem d_M_add_50 : decode b_M_add 50 = .ok (.lcmp, 1) := by decide +kernel
theorem d_M_add_51 : decode b_M_add 51 = .ok (.ifCond .gt 6, 3) := by decide +kernel
theorem d_M_add_54 : decode b_M_add 54 = .ok (.bipush (-4), 2) := by decide +kernel
theorem d_M_add_56 : decode b_M_add 56 = .ok (.ireturn, 1) := by decide +kernel
theorem d_M_add_57 : decode b_M_add 57 = .ok (.aload_n 0, 1) := by decide +kernel
theorem d_M_add_58 : decode b_M_add 58 = .ok (.getfield 7, 3) := by decide +kernel
theorem d_M_add_61 : decode b_M_add 61 = .ok (.aload_n 0, 1) := by decide +kernel
theorem d_M_add_62 : decode b_M_add 62 = .ok (.getfield 32, 3) := by decide +kernel
theorem d_M_add_65 : decode b_M_add 65 = .ok (.lload_n 1, 1) := by decide +kernel
theorem d_M_add_66 : decode b_M_add 66 = .ok (.lastore, 1) := by decide +kernel
theorem d_M_add_67 : decode b_M_add 67 = .ok (.aload_n 0, 1) := by decide +kernel
theorem d_M_add_68 : decode b_M_add 68 = .ok (.aload_n 0, 1) := by decide +kernel
theorem d_M_add_69 : decode b_M_add 69 = .ok (.getfield 32, 3) := by decide +kernel
theorem d_M_add_72 : decode b_M_add 72 = .ok (.iconst 1, 1) := by decide +kernel
theorem d_M_add_73 : decode b_M_add 73 = .ok (.iadd, 1) := by decide +kernel
theorem d_M_add_74 : decode b_M_add 74 = .ok (.putfield 32, 3) := by decide +kernel
theorem d_M_add_77 : decode b_M_add 77 = .ok (.iconst 0, 1) := by decide +kernel
theorem d_M_add_78 : decode b_M_add 78 = .ok (.ireturn, 1) := by decide +kernel
theorem d_M_also_0 : decode b_M_also 0 = .ok (.iconst 0, 1) := by decide +kernel
theorem d_M_also_1 : decode b_M_also 1 = .ok (.istore 5, 2) := by decide +kernel
theorem d_M_also_3 : decode b_M_also 3 = .ok (.iload 5, 2) := by decide +kernel
theorem d_M_also_5 : decode b_M_also 5 = .ok (.aload_n 0, 1) := by decide +kernel
theorem d_M_also_6 : decode b_M_also 6 = .ok (.getfield 32, 3) := by decide +kernel
theorem d_M_also_9 : decode b_M_also 9 = .ok (.if_icmp .ge 117, 3) := by decide +kernel
theorem d_M_also_12 : decode b_M_also 12 = .ok (.aload_n 0, 1) := by decide +kernel
theorem d_M_also_13 : decode b_M_also 13 = .ok (.iload 5, 2) := by decide +kernel
theorem d_M_also_15 : decode b_M_also 15 = .ok (.iload_n 3, 1) := by decide +kernel
theorem d_M_also_16 : decode b_M_also 16 = .ok (.iload 4, 2) := by decide +kernel
theorem d_M_also_18 : decode b_M_also 18 = .ok (.invokevirtual 48, 3) := by decide +kernel
theorem d_M_also_21 : decode b_M_also 21 = .ok (.ifCond .eq 99, 3) := by decide +kernel
theorem d_M_also_24 : decode b_M_also 24 = .ok (.aload_n 0, 1) := by decide +kernel
theorem d_M_also_25 : decode b_M_also 25 = .ok (.getfield 7, 3) := by decide +kernel
theorem d_M_also_28 : decode b_M_also 28 = .ok (.iload 5, 2) := by decide +kernel
theorem d_M_also_30 : decode b_M_also 30 = .ok (.laload, 1) := by decide +kernel
theorem d_M_also_31 : decode b_M_also 31 = .ok (.invokestatic 52, 3) := by decide +kernel
theorem d_M_also_34 : decode b_M_also 34 = .ok (.iload 4, 2) := by decide +kernel
theorem d_M_also_36 : decode b_M_also 36 = .ok (.isub, 1) := by decide +kernel
theorem d_M_also_37 : decode b_M_also 37 = .ok (.aload_n 0, 1) := by decide +kernel
theorem d_M_also_38 : decode b_M_also 38 = .ok (.getfield 7, 3) := by decide +kernel
theorem d_M_also_41 : decode b_M_also 41 = .ok (.iload_n 1, 1) := by decide +kernel
theorem d_M_also_42 : decode b_M_also 42 = .ok (.laload, 1) := by decide +kernel
theorem d_M_also_43 : decode b_M_also 43 = .ok (.invokestatic 52, 3) := by decide +kernel
theorem d_M_also_46 : decode b_M_also 46 = .ok (.iload_n 2, 1) := by decide +kernel
theorem d_M_also_47 : decode b_M_also 47 = .ok (.isub, 1) := by decide +kernel
theorem d_M_also_48 : decode b_M_also 48 = .ok (.if_icmp .ne 72, 3) := by decide +kernel
theorem d_M_also_51 : decode b_M_also 51 = .ok (.iconst 1, 1) := by decide +kernel
theorem d_M_also_52 : decode b_M_also 52 = .ok (.istore 6, 2) := by decide +kernel
theorem d_M_also_54 : decode b_M_also 54 = .ok (.iconst 0, 1) := by decide +kernel
theorem d_M_also_55 : decode b_M_also 55 = .ok (.istore 7, 2) := by decide +kernel
theorem d_M_also_57 : decode b_M_also 57 = .ok (.iload 7, 2) := by decide +kernel
theorem d_M_also_59 : decode b_M_also 59 = .ok (.aload_n 0, 1) := by decide +kernel
theorem d_M_also_60 : decode b_M_also 60 = .ok (.getfield 7, 3) := by decide +kernel
theorem d_M_also_63 : decode b_M_also 63 = .ok (.iload_n 1, 1) := by decide +kernel
theorem d_M_also_64 : decode b_M_also 64 = .ok (.laload, 1) := by decide +kernel
theorem d_M_also_65 : decode b_M_also 65 = .ok (.invokestatic 52, 3) := by decide +kernel
theorem d_M_also_68 : decode b_M_also 68 = .ok (.iload_n 2, 1) := by decide +kernel
theorem d_M_also_69 : decode b_M_also 69 = .ok (.isub, 1) := by decide +kernel
theorem d_M_also_70 : decode b_M_also 70 = .ok (.if_icmp .ge 43, 3) := by decide +kernel
theorem d_M_also_73 : decode b_M_also 73 = .ok (.aload_n 0, 1) := by decide +kernel
theorem d_M_also_74 : decode b_M_also 74 = .ok (.getfield 7, 3) := by decide +kernel
theorem d_M_also_77 : decode b_M_also 77 = .ok (.iload 5, 2) := by decide +kernel
theorem d_M_also_79 : decode b_M_also 79 = .ok (.laload, 1) := by decide +kernel
theorem d_M_also_80 : decode b_M_also 80 = .ok (.iload 4, 2) := by decide +kernel
theorem d_M_also_82 : decode b_M_also 82 = .ok (.iload 7, 2) := by decide +kernel
theorem d_M_also_84 : decode b_M_also 84 = .ok (.iadd, 1) := by decide +kernel
theorem d_M_also_85 : decode b_M_also 85 = .ok (.invokestatic 36, 3) := by decide +kernel
theorem d_M_also_88 : decode b_M_also 88 = .ok (.aload_n 0, 1) := by decide +kernel
theorem d_M_also_89 : decode b_M_also 89 = .ok (.getfield 7, 3) := by decide +kernel
theorem d_M_also_92 : decode b_M_also 92 = .ok (.iload_n 1, 1) := by decide +kernel
theorem d_M_also_93 : decode b_M_also 93 = .ok (.laload, 1) := by decide +kernel
theorem d_M_also_94 : decode b_M_also 94 = .ok (.iload_n 2, 1) := by decide +kernel
theorem d_M_also_95 : decode b_M_also 95 = .ok (.iload 7, 2) := by decide +kernel
theorem d_M_also_97 : decode b_M_also 97 = .ok (.iadd, 1) := by decide +kernel
theorem d_M_also_98 : decode b_M_also 98 = .ok (.invokestatic 36, 3) := by decide +kernel
theorem d_M_also_101 : decode b_M_also 101 = .ok (.if_icmp .eq 6, 3) := by decide +kernel
theorem d_M_also_104 : decode b_M_also 104 = .ok (.iconst 0, 1) := by decide +kernel
theorem d_M_also_105 : decode b_M_also 105 = .ok (.istore 6, 2) := by decide +kernel
theorem d_M_also_107 : decode b_M_also 107 = .ok (.iinc 7 1, 3) := by decide +kernel
theorem d_M_also_110 : decode b_M_also 110 = .ok (.goto (-53), 3) := by decide +kernel
theorem d_M_also_113 : decode b_M_also 113 = .ok (.iload 6, 2) := by decide +kernel
theorem d_M_also_115 : decode b_M_also 115 = .ok (.ifCond .eq 5, 3) := by decide +kernel
theorem d_M_also_118 : decode b_M_also 118 = .ok (.iconst 1, 1) := by decide +kernel
theorem d_M_also_119 : decode b_M_also 119 = .ok (.ireturn, 1) := by decide +kernel
theorem d_M_also_120 : decode b_M_also 120 = .ok (.iinc 5 1, 3) := by decide +kernel
theorem d_M_also_123 : decode b_M_also 123 = .ok (.goto (-120), 3) := by decide +kernel
theorem d_M_also_126 : decode b_M_also 126 = .ok (.iconst 0, 1) := by decide +kernel
theorem d_M_also_127 : decode b_M_also 127 = .ok (.ireturn, 1) := by decide +kernel
theorem d_M_between_0 : decode b_M_between 0 = .ok (.lload_n 1, 1) := by decide +kernel
theorem d_M_between_1 : decode b_M_between 1 = .ok (.invokestatic 52, 3) := by decide +kernel
theorem d_M_between_4 : decode b_M_between 4 = .ok (.istore 5, 2) := by decide +kernel
theorem d_M_between_6 : decode b_M_between 6 = .ok (.lload_n 3, 1) := by decide +kernel
theorem d_M_between_7 : decode b_M_between 7 = .ok (.invokestatic 52, 3) := by decide +kernel
theorem d_M_between_10 : decode b_M_between 10 = .ok (.istore 6, 2) := by decide +kernel
theorem d_M_between_12 : decode b_M_between 12 = .ok (.iconst 0, 1) := by decide +kernel
theorem d_M_between_13 : decode b_M_between 13 = .ok (.istore 7, 2) := by decide +kernel
theorem d_M_between_15 : decode b_M_between 15 = .ok (.iload 7, 2) := by decide +kernel
theorem d_M_between_17 : decode b_M_between 17 = .ok (.iload 5, 2) := by decide +kernel
theorem d_M_between_19 : decode b_M_between 19 = .ok (.if_icmp .gt 186, 3) := by decide +kernel
theorem d_M_between_22 : decode b_M_between 22 = .ok (.iconst 0, 1) := by decide +kernel
theorem d_M_between_23 : decode b_M_between 23 = .ok (.istore 8, 2) := by decide +kernel
theorem d_M_between_25 : decode b_M_between 25 = .ok (.iload 8, 2) := by decide +kernel
theorem d_M_between_27 : decode b_M_between 27 = .ok (.iload 6, 2) := by decide +kernel
theorem d_M_between_29 : decode b_M_between 29 = .ok (.if_icmp .gt 170, 3) := by decide +kernel
theorem d_M_between_32 : decode b_M_between 32 = .ok (.iload 7, 2) := by decide +kernel
theorem d_M_between_34 : decode b_M_between 34 = .ok (.iload 8, 2) := by decide +kernel
theorem d_M_between_36 : decode b_M_between 36 = .ok (.iadd, 1) := by decide +kernel
theorem d_M_between_37 : decode b_M_between 37 = .ok (.istore 9, 2) := by decide +kernel
theorem d_M_between_39 : decode b_M_between 39 = .ok (.iload 7, 2) := by decide +kernel
theorem d_M_between_41 : decode b_M_between 41 = .ok (.ifCond .le 137, 3) := by decide +kernel
theorem d_M_between_44 : decode b_M_between 44 = .ok (.iload 8, 2) := by decide +kernel
theorem d_M_between_46 : decode b_M_between 46 = .ok (.ifCond .le 132, 3) := by decide +kernel
theorem d_M_between_49 : decode b_M_between 49 = .ok (.aload_n 0, 1) := by decide +kernel
theorem d_M_between_50 : decode b_M_between 50 = .ok (.getfield 29, 3) := by decide +kernel
theorem d_M_between_53 : decode b_M_between 53 = .ok (.bipush 13, 2) := by decide +kernel
theorem d_M_between_55 : decode b_M_between 55 = .ok (.iload 7, 2) := by decide +kernel
theorem d_M_between_57 : decode b_M_between 57 = .ok (.imul, 1) := by decide +kernel
theorem d_M_between_58 : decode b_M_between 58 = .ok (.bipush 13, 2) := by decide +kernel
theorem d_M_between_60 : decode b_M_between 60 = .ok (.isub, 1) := by decide +kernel
theorem d_M_between_61 : decode b_M_between 61 = .ok (.iload 8, 2) := by decide +kernel
theorem d_M_between_63 : decode b_M_between 63 = .ok (.iadd, 1) := by decide +kernel
theorem d_M_between_64 : decode b_M_between 64 = .ok (.iconst 1, 1) := by decide +kernel
theorem d_M_between_65 : decode b_M_between 65 = .ok (.isub, 1) := by decide +kernel
theorem d_M_between_66 : decode b_M_between 66 = .ok (.iaload, 1) := by decide +kernel
theorem d_M_between_67 : decode b_M_between 67 = .ok (.lload_n 1, 1) := by decide +kernel
theorem d_M_between_68 : decode b_M_between 68 = .ok (.iload 7, 2) := by decide +kernel
theorem d_M_between_70 : decode b_M_between 70 = .ok (.iconst 1, 1) := by decide +kernel
theorem d_M_between_71 : decode b_M_between 71 = .ok (.isub, 1) := by decide +kernel
theorem d_M_between_72 : decode b_M_between 72 = .ok (.invokestatic 36, 3) := by decide +kernel
theorem d_M_between_75 : decode b_M_between 75 = .ok (.lload_n 3, 1) := by decide +kernel
theorem d_M_between_76 : decode b_M_between 76 = .ok (.iload 8, 2) := by decide +kernel
theorem d_M_between_78 : decode b_M_between 78 = .ok (.iconst 1, 1) := by decide +kernel
theorem d_M_between_79 : decode b_M_between 79 = .ok (.isub, 1) := by decide +kernel
theorem d_M_between_80 : decode b_M_between 80 = .ok (.invokestatic 36, 3) := by decide +kernel
theorem d_M_between_83 : decode b_M_between 83 = .ok (.if_icmp .ne 7, 3) := by decide +kernel
theorem d_M_between_86 : decode b_M_between 86 = .ok (.iconst 0, 1) := by decide +kernel
theorem d_M_between_87 : decode b_M_between 87 = .ok (.goto 4, 3) := by decide +kernel
theorem d_M_between_90 : decode b_M_between 90 = .ok (.iconst 1, 1) := by decide +kernel
theorem d_M_between_91 : decode b_M_between 91 = .ok (.iadd, 1) := by decide +kernel
theorem d_M_between_92 : decode b_M_between 92 = .ok (.istore 9, 2) := by decide +kernel
theorem d_M_between_94 : decode b_M_between 94 = .ok (.aload_n 0, 1) := by decide +kernel
theorem d_M_between_95 : decode b_M_between 95 = .ok (.getfield 29, 3) := by decide +kernel
theorem d_M_between_98 : decode b_M_between 98 = .ok (.bipush 13, 2) := by decide +kernel
theorem d_M_between_100 : decode b_M_between 100 = .ok (.iload 7, 2) := by decide +kernel
theorem d_M_between_102 : decode b_M_between 102 = .ok (.imul, 1) := by decide +kernel
theorem d_M_between_103 : decode b_M_between 103 = .ok (.bipush 13, 2) := by decide +kernel
theorem d_M_between_105 : decode b_M_between 105 = .ok (.isub, 1) := by decide +kernel
theorem d_M_between_106 : decode b_M_between 106 = .ok (.iload 8, 2) := by decide +kernel
theorem d_M_between_108 : decode b_M_between 108 = .ok (.iadd, 1) := by decide +kernel
theorem d_M_between_109 : decode b_M_between 109 = .ok (.iaload, 1) := by decide +kernel
theorem d_M_between_110 : decode b_M_between 110 = .ok (.iconst 1, 1) := by decide +kernel
theorem d_M_between_111 : decode b_M_between 111 = .ok (.iadd, 1) := by decide +kernel
theorem d_M_between_112 : decode b_M_between 112 = .ok (.iload 9, 2) := by decide +kernel
theorem d_M_between_114 : decode b_M_between 114 = .ok (.if_icmp .ge 23, 3) := by decide +kernel
theorem d_M_between_117 : decode b_M_between 117 = .ok (.aload_n 0, 1) := by decide +kernel
theorem d_M_between_118 : decode b_M_between 118 = .ok (.getfield 29, 3) := by decide +kernel
theorem d_M_between_121 : decode b_M_between 121 = .ok (.bipush 13, 2) := by decide +kernel
theorem d_M_between_123 : decode b_M_between 123 = .ok (.iload 7, 2) := by decide +kernel
theorem d_M_between_125 : decode b_M_between 125 = .ok (.imul, 1) := by decide +kernel
theorem d_M_between_126 : decode b_M_between 126 = .ok (.bipush 13, 2) := by decide +kernel
theorem d_M_between_128 : decode b_M_between 128 = .ok (.isub, 1) := by decide +kernel
theorem d_M_between_129 : decode b_M_between 129 = .ok (.iload 8, 2) := by decide +kernel
theorem d_M_between_131 : decode b_M_between 131 = .ok (.iadd, 1) := by decide +kernel
theorem d_M_between_132 : decode b_M_between 132 = .ok (.iaload, 1) := by decide +kernel
theorem d_M_between_133 : decode b_M_between 133 = .ok (.iconst 1, 1) := by decide +kernel
theorem d_M_between_134 : decode b_M_between 134 = .ok (.iadd, 1) := by decide +kernel
theorem d_M_between_135 : decode b_M_between 135 = .ok (.istore 9, 2) := by decide +kernel
theorem d_M_between_137 : decode b_M_between 137 = .ok (.aload_n 0, 1) := by decide +kernel
theorem d_M_between_138 : decode b_M_between 138 = .ok (.getfield 29, 3) := by decide +kernel
theorem d_M_between_141 : decode b_M_between 141 = .ok (.bipush 13, 2) := by decide +kernel
theorem d_M_between_143 : decode b_M_between 143 = .ok (.iload 7, 2) := by decide +kernel
theorem d_M_between_145 : decode b_M_between 145 = .ok (.imul, 1) := by decide +kernel
theorem d_M_between_146 : decode b_M_between 146 = .ok (.iload 8, 2) := by decide +kernel
theorem d_M_between_148 : decode b_M_between 148 = .ok (.iadd, 1) := by decide +kernel
theorem d_M_between_149 : decode b_M_between 149 = .ok (.iconst 1, 1) := by decide +kernel
theorem d_M_between_150 : decode b_M_between 150 = .ok (.isub, 1) := by decide +kernel
theorem d_M_between_151 : decode b_M_between 151 = .ok (.iaload, 1) := by decide +kernel
theorem d_M_between_152 : decode b_M_between 152 = .ok (.iconst 1, 1) := by decide +kernel
theorem d_M_between_153 : decode b_M_between 153 = .ok (.iadd, 1) := by decide +kernel
theorem d_M_between_154 : decode b_M_between 154 = .ok (.iload 9, 2) := by decide +kernel
theorem d_M_between_156 : decode b_M_between 156 = .ok (.if_icmp .ge 22, 3) := by decide +kernel
theorem d_M_between_159 : decode b_M_between 159 = .ok (.aload_n 0, 1) := by decide +kernel
theorem d_M_between_160 : decode b_M_between 160 = .ok (.getfield 29, 3) := by decide +kernel
theorem d_M_between_163 : decode b_M_between 163 = .ok (.bipush 13, 2) := by decide +kernel
theorem d_M_between_165 : decode b_M_between 165 = .ok (.iload 7, 2) := by decide +kernel
theorem d_M_between_167 : decode b_M_between 167 = .ok (.imul, 1) := by decide +kernel
theorem d_M_between_168 : decode b_M_between 168 = .ok (.iload 8, 2) := by decide +kernel
theorem d_M_between_170 : decode b_M_between 170 = .ok (.iadd, 1) := by decide +kernel
theorem d_M_between_171 : decode b_M_between 171 = .ok (.iconst 1, 1) := by decide +kernel
theorem d_M_between_172 : decode b_M_between 172 = .ok (.isub, 1) := by decide +kernel
theorem d_M_between_173 : decode b_M_between 173 = .ok (.iaload, 1) := by decide +kernel
theorem d_M_between_174 : decode b_M_between 174 = .ok (.iconst 1, 1) := by decide +kernel
theorem d_M_between_175 : decode b_M_between 175 = .ok (.iadd, 1) := by decide +kernel
theorem d_M_between_176 : decode b_M_between 176 = .ok (.istore 9, 2) := by decide +kernel
theorem d_M_between_178 : decode b_M_between 178 = .ok (.aload_n 0, 1) := by decide +kernel
theorem d_M_between_179 : decode b_M_between 179 = .ok (.getfield 29, 3) := by decide +kernel
theorem d_M_between_182 : decode b_M_between 182 = .ok (.bipush 13, 2) := by decide +kernel
theorem d_M_between_184 : decode b_M_between 184 = .ok (.iload 7, 2) := by decide +kernel
theorem d_M_between_186 : decode b_M_between 186 = .ok (.imul, 1) := by decide +kernel
theorem d_M_between_187 : decode b_M_between 187 = .ok (.iload 8, 2) := by decide +kernel
theorem d_M_between_189 : decode b_M_between 189 = .ok (.iadd, 1) := by decide +kernel
theorem d_M_between_190 : decode b_M_between 190 = .ok (.iload 9, 2) := by decide +kernel
theorem d_M_between_192 : decode b_M_between 192 = .ok (.iastore, 1) := by decide +kernel
theorem d_M_between_193 : decode b_M_between 193 = .ok (.iinc 8 1, 3) := by decide +kernel
theorem d_M_between_196 : decode b_M_between 196 = .ok (.goto (-171), 3) := by decide +kernel
theorem d_M_between_199 : decode b_M_between 199 = .ok (.iinc 7 1, 3) := by decide +kernel
theorem d_M_between_202 : decode b_M_between 202 = .ok (.goto (-187), 3) := by decide +kernel
theorem d_M_between_205 : decode b_M_between 205 = .ok (.aload_n 0, 1) := by decide +kernel
theorem d_M_between_206 : decode b_M_between 206 = .ok (.getfield 29, 3) := by decide +kernel
theorem d_M_between_209 : decode b_M_between 209 = .ok (.bipush 13, 2) := by decide +kernel
theorem d_M_between_211 : decode b_M_between 211 = .ok (.iload 5, 2) := by decide +kernel
theorem d_M_between_213 : decode b_M_between 213 = .ok (.imul, 1) := by decide +kernel
theorem d_M_between_214 : decode b_M_between 214 = .ok (.iload 6, 2) := by decide +kernel
theorem d_M_between_216 : decode b_M_between 216 = .ok (.iadd, 1) := by decide +kernel
theorem d_M_between_217 : decode b_M_between 217 = .ok (.iaload, 1) := by decide +kernel
theorem d_M_between_218 : decode b_M_between 218 = .ok (.ireturn, 1) := by decide +kernel
theorem d_M_clear_0 : decode b_M_clear 0 = .ok (.aload_n 0, 1) := by decide +kernel
theorem d_M_clear_1 : decode b_M_clear 1 = .ok (.iconst 0, 1) := by decide +kernel
theorem d_M_clear_2 : decode b_M_clear 2 = .ok (.putfield 40, 3) := by decide +kernel
theorem d_M_clear_5 : decode b_M_clear 5 = .ok (.aload_n 0, 1) := by decide +kernel
theorem d_M_clear_6 : decode b_M_clear 6 = .ok (.iconst 0, 1) := by decide +kernel
theorem d_M_clear_7 : decode b_M_clear 7 = .ok (.putfield 32, 3) := by decide +kernel
theorem d_M_clear_10 : decode b_M_clear 10 = .ok (.aload_n 0, 1) := by decide +kernel
theorem d_M_clear_11 : decode b_M_clear 11 = .ok (.iconst 0, 1) := by decide +kernel
theorem d_M_clear_12 : decode b_M_clear 12 = .ok (.putfield 70, 3) := by decide +kernel
theorem d_M_clear_15 : decode b_M_clear 15 = .ok (.aload_n 0, 1) := by decide +kernel
theorem d_M_clear_16 : decode b_M_clear 16 = .ok (.iconst 0, 1) := by decide +kernel
theorem d_M_clear_17 : decode b_M_clear 17 = .ok (.putfield 60, 3) := by decide +kernel
theorem d_M_clear_20 : decode b_M_clear 20 = .ok (.return_, 1) := by decide +kernel
theorem d_M_distance_0 : decode b_M_distance 0 = .ok (.lload_n 1, 1) := by decide +kernel
theorem d_M_distance_1 : decode b_M_distance 1 = .ok (.invokestatic 44, 3) := by decide +kernel
theorem d_M_distance_4 : decode b_M_distance 4 = .ok (.ifCond .eq 15, 3) := by decide +kernel
theorem d_M_distance_7 : decode b_M_distance 7 = .ok (.iload_n 3, 1) := by decide +kernel
theorem d_M_distance_8 : decode b_M_distance 8 = .ok (.ifCond .lt 11, 3) := by decide +kernel
theorem d_M_distance_11 : decode b_M_distance 11 = .ok (.iload_n 3, 1) := by decide +kernel
theorem d_M_distance_12 : decode b_M_distance 12 = .ok (.aload_n 0, 1) := by decide +kernel
theorem d_M_distance_13 : decode b_M_distance 13 = .ok (.getfield 32, 3) := by decide +kernel
theorem d_M_distance_16 : decode b_M_distance 16 = .ok (.if_icmp .lt 7, 3) := by decide +kernel
theorem d_M_distance_19 : decode b_M_distance 19 = .ok (.iconst (-1), 1) := by decide +kernel
theorem d_M_distance_20 : decode b_M_distance 20 = .ok (.goto 14, 3) := by decide +kernel
theorem d_M_distance_23 : decode b_M_distance 23 = .ok (.aload_n 0, 1) := by decide +kernel
theorem d_M_distance_24 : decode b_M_distance 24 = .ok (.lload_n 1, 1) := by decide +kernel
theorem d_M_distance_25 : decode b_M_distance 25 = .ok (.aload_n 0, 1) := by decide +kernel
theorem d_M_distance_26 : decode b_M_distance 26 = .ok (.getfield 7, 3) := by decide +kernel
theorem d_M_distance_29 : decode b_M_distance 29 = .ok (.iload_n 3, 1) := by decide +kernel
theorem d_M_distance_30 : decode b_M_distance 30 = .ok (.laload, 1) := by decide +kernel
theorem d_M_distance_31 : decode b_M_distance 31 = .ok (.invokevirtual 79, 3) := by decide +kernel
theorem d_M_distance_34 : decode b_M_distance 34 = .ok (.ireturn, 1) := by decide +kernel
theorem d_M_endings_0 : decode b_M_endings 0 = .ok (.iconst 0, 1) := by decide +kernel
theorem d_M_endings_1 : decode b_M_endings 1 = .ok (.istore_n 2, 1) := by decide +kernel
theorem d_M_endings_2 : decode b_M_endings 2 = .ok (.iconst 0, 1) := by decide +kernel
theorem d_M_endings_3 : decode b_M_endings 3 = .ok (.istore_n 3, 1) := by decide +kernel
theorem d_M_endings_4 : decode b_M_endings 4 = .ok (.iload_n 3, 1) := by decide +kernel
theorem d_M_endings_5 : decode b_M_endings 5 = .ok (.aload_n 0, 1) := by decide +kernel
theorem d_M_endings_6 : decode b_M_endings 6 = .ok (.getfield 32, 3) := by decide +kernel
theorem d_M_endings_9 : decode b_M_endings 9 = .ok (.if_icmp .ge 41, 3) := by decide +kernel
theorem d_M_endings_12 : decode b_M_endings 12 = .ok (.aload_n 0, 1) := by decide +kernel
theorem d_M_endings_13 : decode b_M_endings 13 = .ok (.iload_n 1, 1) := by decide +kernel
theorem d_M_endings_14 : decode b_M_endings 14 = .ok (.invokevirtual 75, 3) := by decide +kernel
theorem d_M_endings_17 : decode b_M_endings 17 = .ok (.ifCond .eq 27, 3) := by decide +kernel
theorem d_M_endings_20 : decode b_M_endings 20 = .ok (.aload_n 0, 1) := by decide +kernel
theorem d_M_endings_21 : decode b_M_endings 21 = .ok (.iload_n 3, 1) := by decide +kernel
theorem d_M_endings_22 : decode b_M_endings 22 = .ok (.aload_n 0, 1) := by decide +kernel
theorem d_M_endings_23 : decode b_M_endings 23 = .ok (.getfield 23, 3) := by decide +kernel
theorem d_M_endings_26 : decode b_M_endings 26 = .ok (.iload_n 1, 1) := by decide +kernel
theorem d_M_endings_27 : decode b_M_endings 27 = .ok (.iaload, 1) := by decide +kernel
theorem d_M_endings_28 : decode b_M_endings 28 = .ok (.aload_n 0, 1) := by decide +kernel
theorem d_M_endings_29 : decode b_M_endings 29 = .ok (.getfield 26, 3) := by decide +kernel
theorem d_M_endings_32 : decode b_M_endings 32 = .ok (.iload_n 1, 1) := by decide +kernel
theorem d_M_endings_33 : decode b_M_endings 33 = .ok (.iaload, 1) := by decide +kernel
theorem d_M_endings_34 : decode b_M_endings 34 = .ok (.invokevirtual 48, 3) := by decide +kernel
theorem d_M_endings_37 : decode b_M_endings 37 = .ok (.ifCond .eq 7, 3) := by decide +kernel
theorem d_M_endings_40 : decode b_M_endings 40 = .ok (.iload_n 2, 1) := by decide +kernel
theorem d_M_endings_41 : decode b_M_endings 41 = .ok (.iconst 1, 1) := by decide +kernel
theorem d_M_endings_42 : decode b_M_endings 42 = .ok (.iadd, 1) := by decide +kernel
theorem d_M_endings_43 : decode b_M_endings 43 = .ok (.istore_n 2, 1) := by decide +kernel
theorem d_M_endings_44 : decode b_M_endings 44 = .ok (.iinc 3 1, 3) := by decide +kernel
theorem d_M_endings_47 : decode b_M_endings 47 = .ok (.goto (-43), 3) := by decide +kernel
theorem d_M_endings_50 : decode b_M_endings 50 = .ok (.iload_n 2, 1) := by decide +kernel
theorem d_M_endings_51 : decode b_M_endings 51 = .ok (.ireturn, 1) := by decide +kernel
theorem d_M_ends_0 : decode b_M_ends 0 = .ok (.iconst 0, 1) := by decide +kernel
theorem d_M_ends_1 : decode b_M_ends 1 = .ok (.istore_n 2, 1) := by decide +kernel
theorem d_M_ends_2 : decode b_M_ends 2 = .ok (.iload_n 2, 1) := by decide +kernel
theorem d_M_ends_3 : decode b_M_ends 3 = .ok (.aload_n 0, 1) := by decide +kernel
theorem d_M_ends_4 : decode b_M_ends 4 = .ok (.getfield 32, 3) := by decide +kernel
theorem d_M_ends_7 : decode b_M_ends 7 = .ok (.if_icmp .ge 57, 3) := by decide +kernel
theorem d_M_ends_10 : decode b_M_ends 10 = .ok (.aload_n 0, 1) := by decide +kernel
theorem d_M_ends_11 : decode b_M_ends 11 = .ok (.iload_n 1, 1) := by decide +kernel
theorem d_M_ends_12 : decode b_M_ends 12 = .ok (.invokevirtual 75, 3) := by decide +kernel
theorem d_M_ends_15 : decode b_M_ends 15 = .ok (.ifCond .eq 43, 3) := by decide +kernel
theorem d_M_ends_18 : decode b_M_ends 18 = .ok (.aload_n 0, 1) := by decide +kernel
theorem d_M_ends_19 : decode b_M_ends 19 = .ok (.iload_n 2, 1) := by decide +kernel
theorem d_M_ends_20 : decode b_M_ends 20 = .ok (.aload_n 0, 1) := by decide +kernel
theorem d_M_ends_21 : decode b_M_ends 21 = .ok (.getfield 23, 3) := by decide +kernel
theorem d_M_ends_24 : decode b_M_ends 24 = .ok (.iload_n 1, 1) := by decide +kernel
theorem d_M_ends_25 : decode b_M_ends 25 = .ok (.iaload, 1) := by decide +kernel
theorem d_M_ends_26 : decode b_M_ends 26 = .ok (.aload_n 0, 1) := by decide +kernel
theorem d_M_ends_27 : decode b_M_ends 27 = .ok (.getfield 26, 3) := by decide +kernel
theorem d_M_ends_30 : decode b_M_ends 30 = .ok (.iload_n 1, 1) := by decide +kernel
theorem d_M_ends_31 : decode b_M_ends 31 = .ok (.iaload, 1) := by decide +kernel
theorem d_M_ends_32 : decode b_M_ends 32 = .ok (.invokevirtual 48, 3) := by decide +kernel
theorem d_M_ends_35 : decode b_M_ends 35 = .ok (.ifCond .eq 23, 3) := by decide +kernel
theorem d_M_ends_38 : decode b_M_ends 38 = .ok (.aload_n 0, 1) := by decide +kernel
theorem d_M_ends_39 : decode b_M_ends 39 = .ok (.getfield 7, 3) := by decide +kernel
theorem d_M_ends_42 : decode b_M_ends 42 = .ok (.iload_n 2, 1) := by decide +kernel
theorem d_M_ends_43 : decode b_M_ends 43 = .ok (.laload, 1) := by decide +kernel
theorem d_M_ends_44 : decode b_M_ends 44 = .ok (.invokestatic 52, 3) := by decide +kernel
theorem d_M_ends_47 : decode b_M_ends 47 = .ok (.aload_n 0, 1) := by decide +kernel
theorem d_M_ends_48 : decode b_M_ends 48 = .ok (.getfield 26, 3) := by decide +kernel
theorem d_M_ends_51 : decode b_M_ends 51 = .ok (.iload_n 1, 1) := by decide +kernel
theorem d_M_ends_52 : decode b_M_ends 52 = .ok (.iaload, 1) := by decide +kernel
theorem d_M_ends_53 : decode b_M_ends 53 = .ok (.if_icmp .ne 5, 3) := by decide +kernel
theorem d_M_ends_56 : decode b_M_ends 56 = .ok (.iconst 1, 1) := by decide +kernel
theorem d_M_ends_57 : decode b_M_ends 57 = .ok (.ireturn, 1) := by decide +kernel
theorem d_M_ends_58 : decode b_M_ends 58 = .ok (.iinc 2 1, 3) := by decide +kernel
theorem d_M_ends_61 : decode b_M_ends 61 = .ok (.goto (-59), 3) := by decide +kernel
theorem d_M_ends_64 : decode b_M_ends 64 = .ok (.iconst 0, 1) := by decide +kernel
theorem d_M_ends_65 : decode b_M_ends 65 = .ok (.ireturn, 1) := by decide +kernel
theorem d_M_far_0 : decode b_M_far 0 = .ok (.iload_n 1, 1) := by decide +kernel
theorem d_M_far_1 : decode b_M_far 1 = .ok (.ifCond .lt 20, 3) := by decide +kernel
theorem d_M_far_4 : decode b_M_far 4 = .ok (.iload_n 1, 1) := by decide +kernel
theorem d_M_far_5 : decode b_M_far 5 = .ok (.aload_n 0, 1) := by decide +kernel
theorem d_M_far_6 : decode b_M_far 6 = .ok (.getfield 70, 3) := by decide +kernel
theorem d_M_far_9 : decode b_M_far 9 = .ok (.if_icmp .ge 12, 3) := by decide +kernel
theorem d_M_far_12 : decode b_M_far 12 = .ok (.aload_n 0, 1) := by decide +kernel
theorem d_M_far_13 : decode b_M_far 13 = .ok (.getfield 17, 3) := by decide +kernel
theorem d_M_far_16 : decode b_M_far 16 = .ok (.iload_n 1, 1) := by decide +kernel
theorem d_M_far_17 : decode b_M_far 17 = .ok (.iaload, 1) := by decide +kernel
theorem d_M_far_18 : decode b_M_far 18 = .ok (.goto 4, 3) := by decide +kernel
theorem d_M_far_21 : decode b_M_far 21 = .ok (.iconst (-1), 1) := by decide +kernel
theorem d_M_far_22 : decode b_M_far 22 = .ok (.ireturn, 1) := by decide +kernel
theorem d_M_find_0 : decode b_M_find 0 = .ok (.iconst 0, 1) := by decide +kernel
theorem d_M_find_1 : decode b_M_find 1 = .ok (.istore_n 3, 1) := by decide +kernel
theorem d_M_find_2 : decode b_M_find 2 = .ok (.iload_n 3, 1) := by decide +kernel
theorem d_M_find_3 : decode b_M_find 3 = .ok (.aload_n 0, 1) := by decide +kernel
theorem d_M_find_4 : decode b_M_find 4 = .ok (.getfield 32, 3) := by decide +kernel
theorem d_M_find_7 : decode b_M_find 7 = .ok (.if_icmp .ge 29, 3) := by decide +kernel
theorem d_M_find_10 : decode b_M_find 10 = .ok (.aload_n 0, 1) := by decide +kernel
theorem d_M_find_11 : decode b_M_find 11 = .ok (.getfield 40, 3) := by decide +kernel
theorem d_M_find_14 : decode b_M_find 14 = .ok (.ifCond .eq 16, 3) := by decide +kernel
theorem d_M_find_17 : decode b_M_find 17 = .ok (.aload_n 0, 1) := by decide +kernel
theorem d_M_find_18 : decode b_M_find 18 = .ok (.getfield 7, 3) := by decide +kernel
theorem d_M_find_21 : decode b_M_find 21 = .ok (.iload_n 3, 1) := by decide +kernel
theorem d_M_find_22 : decode b_M_find 22 = .ok (.laload, 1) := by decide +kernel
theorem d_M_find_23 : decode b_M_find 23 = .ok (.lload_n 1, 1) := by decide +kernel
theorem d_M_find_24 : decode b_M_find 24 = .ok (.lcmp, 1) := by decide +kernel
theorem d_M_find_25 : decode b_M_find 25 = .ok (.ifCond .ne 5, 3) := by decide +kernel
theorem d_M_find_28 : decode b_M_find 28 = .ok (.iload_n 3, 1) := by decide +kernel
theorem d_M_find_29 : decode b_M_find 29 = .ok (.ireturn, 1) := by decide +kernel
theorem d_M_find_30 : decode b_M_find 30 = .ok (.iinc 3 1, 3) := by decide +kernel
theorem d_M_find_33 : decode b_M_find 33 = .ok (.goto (-31), 3) := by decide +kernel
theorem d_M_find_36 : decode b_M_find 36 = .ok (.iconst (-1), 1) := by decide +kernel
theorem d_M_find_37 : decode b_M_find 37 = .ok (.ireturn, 1) := by decide +kernel
theorem d_M_isNode_0 : decode b_M_isNode 0 = .ok (.aload_n 0, 1) := by decide +kernel
theorem d_M_isNode_1 : decode b_M_isNode 1 = .ok (.getfield 40, 3) := by decide +kernel
theorem d_M_isNode_4 : decode b_M_isNode 4 = .ok (.ifCond .eq 26, 3) := by decide +kernel
theorem d_M_isNode_7 : decode b_M_isNode 7 = .ok (.iload_n 1, 1) := by decide +kernel
theorem d_M_isNode_8 : decode b_M_isNode 8 = .ok (.ifCond .lt 22, 3) := by decide +kernel
theorem d_M_isNode_11 : decode b_M_isNode 11 = .ok (.iload_n 1, 1) := by decide +kernel
theorem d_M_isNode_12 : decode b_M_isNode 12 = .ok (.aload_n 0, 1) := by decide +kernel
theorem d_M_isNode_13 : decode b_M_isNode 13 = .ok (.getfield 60, 3) := by decide +kernel
theorem d_M_isNode_16 : decode b_M_isNode 16 = .ok (.if_icmp .ge 14, 3) := by decide +kernel
theorem d_M_isNode_19 : decode b_M_isNode 19 = .ok (.aload_n 0, 1) := by decide +kernel
theorem d_M_isNode_20 : decode b_M_isNode 20 = .ok (.getfield 32, 3) := by decide +kernel
theorem d_M_isNode_23 : decode b_M_isNode 23 = .ok (.ifCond .le 7, 3) := by decide +kernel
theorem d_M_isNode_26 : decode b_M_isNode 26 = .ok (.iconst 1, 1) := by decide +kernel
theorem d_M_isNode_27 : decode b_M_isNode 27 = .ok (.goto 4, 3) := by decide +kernel
theorem d_M_isNode_30 : decode b_M_isNode 30 = .ok (.iconst 0, 1) := by decide +kernel
theorem d_M_isNode_31 : decode b_M_isNode 31 = .ok (.ireturn, 1) := by decide +kernel
theorem d_M_isWord_0 : decode b_M_isWord 0 = .ok (.lload_n 0, 1) := by decide +kernel
theorem d_M_isWord_1 : decode b_M_isWord 1 = .ok (.lconst 0, 1) := by decide +kernel
theorem d_M_isWord_2 : decode b_M_isWord 2 = .ok (.lcmp, 1) := by decide +kernel
theorem d_M_isWord_3 : decode b_M_isWord 3 = .ok (.ifCond .lt 12, 3) := by decide +kernel
theorem d_M_isWord_6 : decode b_M_isWord 6 = .ok (.lload_n 0, 1) := by decide +kernel
theorem d_M_isWord_7 : decode b_M_isWord 7 = .ok (.bipush 60, 2) := by decide +kernel
theorem d_M_isWord_9 : decode b_M_isWord 9 = .ok (.lshr, 1) := by decide +kernel
theorem d_M_isWord_10 : decode b_M_isWord 10 = .ok (.lconst 0, 1) := by decide +kernel
theorem d_M_isWord_11 : decode b_M_isWord 11 = .ok (.lcmp, 1) := by decide +kernel
theorem d_M_isWord_12 : decode b_M_isWord 12 = .ok (.ifCond .eq 5, 3) := by decide +kernel
theorem d_M_isWord_15 : decode b_M_isWord 15 = .ok (.iconst 0, 1) := by decide +kernel
theorem d_M_isWord_16 : decode b_M_isWord 16 = .ok (.ireturn, 1) := by decide +kernel
theorem d_M_isWord_17 : decode b_M_isWord 17 = .ok (.iconst 0, 1) := by decide +kernel
theorem d_M_isWord_18 : decode b_M_isWord 18 = .ok (.istore_n 2, 1) := by decide +kernel
theorem d_M_isWord_19 : decode b_M_isWord 19 = .ok (.iload_n 2, 1) := by decide +kernel
theorem d_M_isWord_20 : decode b_M_isWord 20 = .ok (.bipush 12, 2) := by decide +kernel
theorem d_M_isWord_22 : decode b_M_isWord 22 = .ok (.if_icmp .ge 45, 3) := by decide +kernel
theorem d_M_isWord_25 : decode b_M_isWord 25 = .ok (.lload_n 0, 1) := by decide +kernel
theorem d_M_isWord_26 : decode b_M_isWord 26 = .ok (.iload_n 2, 1) := by decide +kernel
theorem d_M_isWord_27 : decode b_M_isWord 27 = .ok (.invokestatic 36, 3) := by decide +kernel
theorem d_M_isWord_30 : decode b_M_isWord 30 = .ok (.bipush 26, 2) := by decide +kernel
theorem d_M_isWord_32 : decode b_M_isWord 32 = .ok (.if_icmp .le 5, 3) := by decide +kernel
theorem d_M_isWord_35 : decode b_M_isWord 35 = .ok (.iconst 0, 1) := by decide +kernel
theorem d_M_isWord_36 : decode b_M_isWord 36 = .ok (.ireturn, 1) := by decide +kernel
theorem d_M_isWord_37 : decode b_M_isWord 37 = .ok (.iload_n 2, 1) := by decide +kernel
theorem d_M_isWord_38 : decode b_M_isWord 38 = .ok (.ifCond .le 23, 3) := by decide +kernel
theorem d_M_isWord_41 : decode b_M_isWord 41 = .ok (.lload_n 0, 1) := by decide +kernel
theorem d_M_isWord_42 : decode b_M_isWord 42 = .ok (.iload_n 2, 1) := by decide +kernel
theorem d_M_isWord_43 : decode b_M_isWord 43 = .ok (.invokestatic 36, 3) := by decide +kernel
theorem d_M_isWord_46 : decode b_M_isWord 46 = .ok (.ifCond .eq 15, 3) := by decide +kernel
theorem d_M_isWord_49 : decode b_M_isWord 49 = .ok (.lload_n 0, 1) := by decide +kernel
theorem d_M_isWord_50 : decode b_M_isWord 50 = .ok (.iload_n 2, 1) := by decide +kernel
theorem d_M_isWord_51 : decode b_M_isWord 51 = .ok (.iconst 1, 1) := by decide +kernel
theorem d_M_isWord_52 : decode b_M_isWord 52 = .ok (.isub, 1) := by decide +kernel
theorem d_M_isWord_53 : decode b_M_isWord 53 = .ok (.invokestatic 36, 3) := by decide +kernel
theorem d_M_isWord_56 : decode b_M_isWord 56 = .ok (.ifCond .ne 5, 3) := by decide +kernel
theorem d_M_isWord_59 : decode b_M_isWord 59 = .ok (.iconst 0, 1) := by decide +kernel
theorem d_M_isWord_60 : decode b_M_isWord 60 = .ok (.ireturn, 1) := by decide +kernel
theorem d_M_isWord_61 : decode b_M_isWord 61 = .ok (.iinc 2 1, 3) := by decide +kernel
theorem d_M_isWord_64 : decode b_M_isWord 64 = .ok (.goto (-45), 3) := by decide +kernel
theorem d_M_isWord_67 : decode b_M_isWord 67 = .ok (.iconst 1, 1) := by decide +kernel
theorem d_M_isWord_68 : decode b_M_isWord 68 = .ok (.ireturn, 1) := by decide +kernel
theorem d_M_length_0 : decode b_M_length 0 = .ok (.iconst 0, 1) := by decide +kernel
theorem d_M_length_1 : decode b_M_length 1 = .ok (.istore_n 2, 1) := by decide +kernel
theorem d_M_length_2 : decode b_M_length 2 = .ok (.iconst 0, 1) := by decide +kernel
theorem d_M_length_3 : decode b_M_length 3 = .ok (.istore_n 3, 1) := by decide +kernel
theorem d_M_length_4 : decode b_M_length 4 = .ok (.iload_n 3, 1) := by decide +kernel
theorem d_M_length_5 : decode b_M_length 5 = .ok (.bipush 12, 2) := by decide +kernel
theorem d_M_length_7 : decode b_M_length 7 = .ok (.if_icmp .ge 21, 3) := by decide +kernel
theorem d_M_length_10 : decode b_M_length 10 = .ok (.lload_n 0, 1) := by decide +kernel
theorem d_M_length_11 : decode b_M_length 11 = .ok (.iload_n 3, 1) := by decide +kernel
theorem d_M_length_12 : decode b_M_length 12 = .ok (.invokestatic 36, 3) := by decide +kernel
theorem d_M_length_15 : decode b_M_length 15 = .ok (.ifCond .eq 7, 3) := by decide +kernel
theorem d_M_length_18 : decode b_M_length 18 = .ok (.iload_n 2, 1) := by decide +kernel
theorem d_M_length_19 : decode b_M_length 19 = .ok (.iconst 1, 1) := by decide +kernel
theorem d_M_length_20 : decode b_M_length 20 = .ok (.iadd, 1) := by decide +kernel
theorem d_M_length_21 : decode b_M_length 21 = .ok (.istore_n 2, 1) := by decide +kernel
theorem d_M_length_22 : decode b_M_length 22 = .ok (.iinc 3 1, 3) := by decide +kernel
theorem d_M_length_25 : decode b_M_length 25 = .ok (.goto (-21), 3) := by decide +kernel
theorem d_M_length_28 : decode b_M_length 28 = .ok (.iload_n 2, 1) := by decide +kernel
theorem d_M_length_29 : decode b_M_length 29 = .ok (.ireturn, 1) := by decide +kernel
theorem d_M_letter_0 : decode b_M_letter 0 = .ok (.lload_n 0, 1) := by decide +kernel
theorem d_M_letter_1 : decode b_M_letter 1 = .ok (.bipush 55, 2) := by decide +kernel
theorem d_M_letter_3 : decode b_M_letter 3 = .ok (.iconst 5, 1) := by decide +kernel
theorem d_M_letter_4 : decode b_M_letter 4 = .ok (.iload_n 2, 1) := by decide +kernel
theorem d_M_letter_5 : decode b_M_letter 5 = .ok (.imul, 1) := by decide +kernel
theorem d_M_letter_6 : decode b_M_letter 6 = .ok (.isub, 1) := by decide +kernel
theorem d_M_letter_7 : decode b_M_letter 7 = .ok (.lshr, 1) := by decide +kernel
theorem d_M_letter_8 : decode b_M_letter 8 = .ok (.l2i, 1) := by decide +kernel
theorem d_M_letter_9 : decode b_M_letter 9 = .ok (.bipush 31, 2) := by decide +kernel
theorem d_M_letter_11 : decode b_M_letter 11 = .ok (.iand, 1) := by decide +kernel
theorem d_M_letter_12 : decode b_M_letter 12 = .ok (.ireturn, 1) := by decide +kernel
theorem d_M_nodeOf_0 : decode b_M_nodeOf 0 = .ok (.iconst 0, 1) := by decide +kernel
theorem d_M_nodeOf_1 : decode b_M_nodeOf 1 = .ok (.istore_n 3, 1) := by decide +kernel
theorem d_M_nodeOf_2 : decode b_M_nodeOf 2 = .ok (.iload_n 3, 1) := by decide +kernel
theorem d_M_nodeOf_3 : decode b_M_nodeOf 3 = .ok (.aload_n 0, 1) := by decide +kernel
theorem d_M_nodeOf_4 : decode b_M_nodeOf 4 = .ok (.getfield 60, 3) := by decide +kernel
theorem d_M_nodeOf_7 : decode b_M_nodeOf 7 = .ok (.if_icmp .ge 53, 3) := by decide +kernel
theorem d_M_nodeOf_10 : decode b_M_nodeOf 10 = .ok (.aload_n 0, 1) := by decide +kernel
theorem d_M_nodeOf_11 : decode b_M_nodeOf 11 = .ok (.iload_n 1, 1) := by decide +kernel
theorem d_M_nodeOf_12 : decode b_M_nodeOf 12 = .ok (.iload_n 2, 1) := by decide +kernel
theorem d_M_nodeOf_13 : decode b_M_nodeOf 13 = .ok (.aload_n 0, 1) := by decide +kernel
theorem d_M_nodeOf_14 : decode b_M_nodeOf 14 = .ok (.getfield 23, 3) := by decide +kernel
theorem d_M_nodeOf_17 : decode b_M_nodeOf 17 = .ok (.iload_n 3, 1) := by decide +kernel
theorem d_M_nodeOf_18 : decode b_M_nodeOf 18 = .ok (.iaload, 1) := by decide +kernel
theorem d_M_nodeOf_19 : decode b_M_nodeOf 19 = .ok (.aload_n 0, 1) := by decide +kernel
theorem d_M_nodeOf_20 : decode b_M_nodeOf 20 = .ok (.getfield 26, 3) := by decide +kernel
theorem d_M_nodeOf_23 : decode b_M_nodeOf 23 = .ok (.iload_n 3, 1) := by decide +kernel
theorem d_M_nodeOf_24 : decode b_M_nodeOf 24 = .ok (.iaload, 1) := by decide +kernel
theorem d_M_nodeOf_25 : decode b_M_nodeOf 25 = .ok (.invokevirtual 63, 3) := by decide +kernel
theorem d_M_nodeOf_28 : decode b_M_nodeOf 28 = .ok (.ifCond .eq 26, 3) := by decide +kernel
theorem d_M_nodeOf_31 : decode b_M_nodeOf 31 = .ok (.aload_n 0, 1) := by decide +kernel
theorem d_M_nodeOf_32 : decode b_M_nodeOf 32 = .ok (.aload_n 0, 1) := by decide +kernel
theorem d_M_nodeOf_33 : decode b_M_nodeOf 33 = .ok (.getfield 23, 3) := by decide +kernel
theorem d_M_nodeOf_36 : decode b_M_nodeOf 36 = .ok (.iload_n 3, 1) := by decide +kernel
theorem d_M_nodeOf_37 : decode b_M_nodeOf 37 = .ok (.iaload, 1) := by decide +kernel
theorem d_M_nodeOf_38 : decode b_M_nodeOf 38 = .ok (.aload_n 0, 1) := by decide +kernel
theorem d_M_nodeOf_39 : decode b_M_nodeOf 39 = .ok (.getfield 26, 3) := by decide +kernel
theorem d_M_nodeOf_42 : decode b_M_nodeOf 42 = .ok (.iload_n 3, 1) := by decide +kernel
theorem d_M_nodeOf_43 : decode b_M_nodeOf 43 = .ok (.iaload, 1) := by decide +kernel
theorem d_M_nodeOf_44 : decode b_M_nodeOf 44 = .ok (.iload_n 1, 1) := by decide +kernel
theorem d_M_nodeOf_45 : decode b_M_nodeOf 45 = .ok (.iload_n 2, 1) := by decide +kernel
theorem d_M_nodeOf_46 : decode b_M_nodeOf 46 = .ok (.invokevirtual 63, 3) := by decide +kernel
theorem d_M_nodeOf_49 : decode b_M_nodeOf 49 = .ok (.ifCond .eq 5, 3) := by decide +kernel
theorem d_M_nodeOf_52 : decode b_M_nodeOf 52 = .ok (.iload_n 3, 1) := by decide +kernel
theorem d_M_nodeOf_53 : decode b_M_nodeOf 53 = .ok (.ireturn, 1) := by decide +kernel
theorem d_M_nodeOf_54 : decode b_M_nodeOf 54 = .ok (.iinc 3 1, 3) := by decide +kernel
theorem d_M_nodeOf_57 : decode b_M_nodeOf 57 = .ok (.goto (-55), 3) := by decide +kernel
theorem d_M_nodeOf_60 : decode b_M_nodeOf 60 = .ok (.aload_n 0, 1) := by decide +kernel
theorem d_M_nodeOf_61 : decode b_M_nodeOf 61 = .ok (.getfield 23, 3) := by decide +kernel
theorem d_M_nodeOf_64 : decode b_M_nodeOf 64 = .ok (.aload_n 0, 1) := by decide +kernel
theorem d_M_nodeOf_65 : decode b_M_nodeOf 65 = .ok (.getfield 60, 3) := by decide +kernel
theorem d_M_nodeOf_68 : decode b_M_nodeOf 68 = .ok (.iload_n 1, 1) := by decide +kernel
theorem d_M_nodeOf_69 : decode b_M_nodeOf 69 = .ok (.iastore, 1) := by decide +kernel
theorem d_M_nodeOf_70 : decode b_M_nodeOf 70 = .ok (.aload_n 0, 1) := by decide +kernel
theorem d_M_nodeOf_71 : decode b_M_nodeOf 71 = .ok (.getfield 26, 3) := by decide +kernel
theorem d_M_nodeOf_74 : decode b_M_nodeOf 74 = .ok (.aload_n 0, 1) := by decide +kernel
theorem d_M_nodeOf_75 : decode b_M_nodeOf 75 = .ok (.getfield 60, 3) := by decide +kernel
theorem d_M_nodeOf_78 : decode b_M_nodeOf 78 = .ok (.iload_n 2, 1) := by decide +kernel
theorem d_M_nodeOf_79 : decode b_M_nodeOf 79 = .ok (.iastore, 1) := by decide +kernel
theorem d_M_nodeOf_80 : decode b_M_nodeOf 80 = .ok (.aload_n 0, 1) := by decide +kernel
theorem d_M_nodeOf_81 : decode b_M_nodeOf 81 = .ok (.aload_n 0, 1) := by decide +kernel
theorem d_M_nodeOf_82 : decode b_M_nodeOf 82 = .ok (.getfield 60, 3) := by decide +kernel
theorem d_M_nodeOf_85 : decode b_M_nodeOf 85 = .ok (.iconst 1, 1) := by decide +kernel
theorem d_M_nodeOf_86 : decode b_M_nodeOf 86 = .ok (.iadd, 1) := by decide +kernel
theorem d_M_nodeOf_87 : decode b_M_nodeOf 87 = .ok (.putfield 60, 3) := by decide +kernel
theorem d_M_nodeOf_90 : decode b_M_nodeOf 90 = .ok (.aload_n 0, 1) := by decide +kernel
theorem d_M_nodeOf_91 : decode b_M_nodeOf 91 = .ok (.getfield 60, 3) := by decide +kernel
theorem d_M_nodeOf_94 : decode b_M_nodeOf 94 = .ok (.iconst 1, 1) := by decide +kernel
theorem d_M_nodeOf_95 : decode b_M_nodeOf 95 = .ok (.isub, 1) := by decide +kernel
theorem d_M_nodeOf_96 : decode b_M_nodeOf 96 = .ok (.ireturn, 1) := by decide +kernel
theorem d_M_nodes_0 : decode b_M_nodes 0 = .ok (.aload_n 0, 1) := by decide +kernel
theorem d_M_nodes_1 : decode b_M_nodes 1 = .ok (.getfield 40, 3) := by decide +kernel
theorem d_M_nodes_4 : decode b_M_nodes 4 = .ok (.ifCond .eq 10, 3) := by decide +kernel
theorem d_M_nodes_7 : decode b_M_nodes 7 = .ok (.aload_n 0, 1) := by decide +kernel
theorem d_M_nodes_8 : decode b_M_nodes 8 = .ok (.getfield 60, 3) := by decide +kernel
theorem d_M_nodes_11 : decode b_M_nodes 11 = .ok (.goto 4, 3) := by decide +kernel
theorem d_M_nodes_14 : decode b_M_nodes 14 = .ok (.iconst 0, 1) := by decide +kernel
theorem d_M_nodes_15 : decode b_M_nodes 15 = .ok (.ireturn, 1) := by decide +kernel
theorem d_M_result_0 : decode b_M_result 0 = .ok (.iload_n 1, 1) := by decide +kernel
theorem d_M_result_1 : decode b_M_result 1 = .ok (.ifCond .lt 20, 3) := by decide +kernel
theorem d_M_result_4 : decode b_M_result 4 = .ok (.iload_n 1, 1) := by decide +kernel
theorem d_M_result_5 : decode b_M_result 5 = .ok (.aload_n 0, 1) := by decide +kernel
theorem d_M_result_6 : decode b_M_result 6 = .ok (.getfield 70, 3) := by decide +kernel
theorem d_M_result_9 : decode b_M_result 9 = .ok (.if_icmp .ge 12, 3) := by decide +kernel
theorem d_M_result_12 : decode b_M_result 12 = .ok (.aload_n 0, 1) := by decide +kernel
theorem d_M_result_13 : decode b_M_result 13 = .ok (.getfield 13, 3) := by decide +kernel
theorem d_M_result_16 : decode b_M_result 16 = .ok (.iload_n 1, 1) := by decide +kernel
theorem d_M_result_17 : decode b_M_result 17 = .ok (.iaload, 1) := by decide +kernel
theorem d_M_result_18 : decode b_M_result 18 = .ok (.goto 4, 3) := by decide +kernel
theorem d_M_result_21 : decode b_M_result 21 = .ok (.iconst (-1), 1) := by decide +kernel
theorem d_M_result_22 : decode b_M_result 22 = .ok (.ireturn, 1) := by decide +kernel
theorem d_M_seal_0 : decode b_M_seal 0 = .ok (.aload_n 0, 1) := by decide +kernel
theorem d_M_seal_1 : decode b_M_seal 1 = .ok (.getfield 40, 3) := by decide +kernel
theorem d_M_seal_4 : decode b_M_seal 4 = .ok (.ifCond .eq 5, 3) := by decide +kernel
theorem d_M_seal_7 : decode b_M_seal 7 = .ok (.iconst 0, 1) := by decide +kernel
theorem d_M_seal_8 : decode b_M_seal 8 = .ok (.ireturn, 1) := by decide +kernel
theorem d_M_seal_9 : decode b_M_seal 9 = .ok (.aload_n 0, 1) := by decide +kernel
theorem d_M_seal_10 : decode b_M_seal 10 = .ok (.iconst 1, 1) := by decide +kernel
theorem d_M_seal_11 : decode b_M_seal 11 = .ok (.putfield 40, 3) := by decide +kernel
theorem d_M_seal_14 : decode b_M_seal 14 = .ok (.aload_n 0, 1) := by decide +kernel
theorem d_M_seal_15 : decode b_M_seal 15 = .ok (.aload_n 0, 1) := by decide +kernel
theorem d_M_seal_16 : decode b_M_seal 16 = .ok (.getfield 32, 3) := by decide +kernel
theorem d_M_seal_19 : decode b_M_seal 19 = .ok (.ifCond .ne 7, 3) := by decide +kernel
theorem d_M_seal_22 : decode b_M_seal 22 = .ok (.iconst 1, 1) := by decide +kernel
theorem d_M_seal_23 : decode b_M_seal 23 = .ok (.goto 4, 3) := by decide +kernel
theorem d_M_seal_26 : decode b_M_seal 26 = .ok (.iconst 0, 1) := by decide +kernel
theorem d_M_seal_27 : decode b_M_seal 27 = .ok (.putfield 60, 3) := by decide +kernel
theorem d_M_seal_30 : decode b_M_seal 30 = .ok (.iconst 0, 1) := by decide +kernel
theorem d_M_seal_31 : decode b_M_seal 31 = .ok (.istore_n 1, 1) := by decide +kernel
theorem d_M_seal_32 : decode b_M_seal 32 = .ok (.iload_n 1, 1) := by decide +kernel
theorem d_M_seal_33 : decode b_M_seal 33 = .ok (.aload_n 0, 1) := by decide +kernel
theorem d_M_seal_34 : decode b_M_seal 34 = .ok (.getfield 32, 3) := by decide +kernel
theorem d_M_seal_37 : decode b_M_seal 37 = .ok (.if_icmp .ge 47, 3) := by decide +kernel
theorem d_M_seal_40 : decode b_M_seal 40 = .ok (.iconst 0, 1) := by decide +kernel
theorem d_M_seal_41 : decode b_M_seal 41 = .ok (.istore_n 2, 1) := by decide +kernel
theorem d_M_seal_42 : decode b_M_seal 42 = .ok (.iload_n 2, 1) := by decide +kernel
theorem d_M_seal_43 : decode b_M_seal 43 = .ok (.aload_n 0, 1) := by decide +kernel
theorem d_M_seal_44 : decode b_M_seal 44 = .ok (.getfield 7, 3) := by decide +kernel
theorem d_M_seal_47 : decode b_M_seal 47 = .ok (.iload_n 1, 1) := by decide +kernel
theorem d_M_seal_48 : decode b_M_seal 48 = .ok (.laload, 1) := by decide +kernel
theorem d_M_seal_49 : decode b_M_seal 49 = .ok (.invokestatic 52, 3) := by decide +kernel
theorem d_M_seal_52 : decode b_M_seal 52 = .ok (.if_icmp .gt 26, 3) := by decide +kernel
theorem d_M_seal_55 : decode b_M_seal 55 = .ok (.aload_n 0, 1) := by decide +kernel
theorem d_M_seal_56 : decode b_M_seal 56 = .ok (.getfield 20, 3) := by decide +kernel
theorem d_M_seal_59 : decode b_M_seal 59 = .ok (.bipush 13, 2) := by decide +kernel
theorem d_M_seal_61 : decode b_M_seal 61 = .ok (.iload_n 1, 1) := by decide +kernel
theorem d_M_seal_62 : decode b_M_seal 62 = .ok (.imul, 1) := by decide +kernel
theorem d_M_seal_63 : decode b_M_seal 63 = .ok (.iload_n 2, 1) := by decide +kernel
theorem d_M_seal_64 : decode b_M_seal 64 = .ok (.iadd, 1) := by decide +kernel
theorem d_M_seal_65 : decode b_M_seal 65 = .ok (.aload_n 0, 1) := by decide +kernel
theorem d_M_seal_66 : decode b_M_seal 66 = .ok (.iload_n 1, 1) := by decide +kernel
theorem d_M_seal_67 : decode b_M_seal 67 = .ok (.iload_n 2, 1) := by decide +kernel
theorem d_M_seal_68 : decode b_M_seal 68 = .ok (.invokevirtual 66, 3) := by decide +kernel
theorem d_M_seal_71 : decode b_M_seal 71 = .ok (.iastore, 1) := by decide +kernel
theorem d_M_seal_72 : decode b_M_seal 72 = .ok (.iinc 2 1, 3) := by decide +kernel
theorem d_M_seal_75 : decode b_M_seal 75 = .ok (.goto (-33), 3) := by decide +kernel
theorem d_M_seal_78 : decode b_M_seal 78 = .ok (.iinc 1 1, 3) := by decide +kernel
theorem d_M_seal_81 : decode b_M_seal 81 = .ok (.goto (-49), 3) := by decide +kernel
theorem d_M_seal_84 : decode b_M_seal 84 = .ok (.iconst 1, 1) := by decide +kernel
theorem d_M_seal_85 : decode b_M_seal 85 = .ok (.ireturn, 1) := by decide +kernel
theorem d_M_search_0 : decode b_M_search 0 = .ok (.aload_n 0, 1) := by decide +kernel
theorem d_M_search_1 : decode b_M_search 1 = .ok (.getfield 40, 3) := by decide +kernel
theorem d_M_search_4 : decode b_M_search 4 = .ok (.ifCond .ne 5, 3) := by decide +kernel
theorem d_M_search_7 : decode b_M_search 7 = .ok (.iconst (-1), 1) := by decide +kernel
theorem d_M_search_8 : decode b_M_search 8 = .ok (.ireturn, 1) := by decide +kernel
theorem d_M_search_9 : decode b_M_search 9 = .ok (.lload_n 1, 1) := by decide +kernel
theorem d_M_search_10 : decode b_M_search 10 = .ok (.invokestatic 44, 3) := by decide +kernel
theorem d_M_search_13 : decode b_M_search 13 = .ok (.ifCond .eq 12, 3) := by decide +kernel
theorem d_M_search_16 : decode b_M_search 16 = .ok (.iload_n 3, 1) := by decide +kernel
theorem d_M_search_17 : decode b_M_search 17 = .ok (.ifCond .lt 8, 3) := by decide +kernel
theorem d_M_search_20 : decode b_M_search 20 = .ok (.iload_n 3, 1) := by decide +kernel
theorem d_M_search_21 : decode b_M_search 21 = .ok (.iconst 3, 1) := by decide +kernel
theorem d_M_search_22 : decode b_M_search 22 = .ok (.if_icmp .le 6, 3) := by decide +kernel
theorem d_M_search_25 : decode b_M_search 25 = .ok (.bipush (-2), 2) := by decide +kernel
theorem d_M_search_27 : decode b_M_search 27 = .ok (.ireturn, 1) := by decide +kernel
theorem d_M_search_28 : decode b_M_search 28 = .ok (.aload_n 0, 1) := by decide +kernel
theorem d_M_search_29 : decode b_M_search 29 = .ok (.iconst 0, 1) := by decide +kernel
theorem d_M_search_30 : decode b_M_search 30 = .ok (.putfield 70, 3) := by decide +kernel
theorem d_M_search_33 : decode b_M_search 33 = .ok (.iconst 0, 1) := by decide +kernel
theorem d_M_search_34 : decode b_M_search 34 = .ok (.istore 4, 2) := by decide +kernel
theorem d_M_search_36 : decode b_M_search 36 = .ok (.iload 4, 2) := by decide +kernel
theorem d_M_search_38 : decode b_M_search 38 = .ok (.iload_n 3, 1) := by decide +kernel
theorem d_M_search_39 : decode b_M_search 39 = .ok (.if_icmp .gt 76, 3) := by decide +kernel
theorem d_M_search_42 : decode b_M_search 42 = .ok (.iconst 0, 1) := by decide +kernel
theorem d_M_search_43 : decode b_M_search 43 = .ok (.istore 5, 2) := by decide +kernel
theorem d_M_search_45 : decode b_M_search 45 = .ok (.iload 5, 2) := by decide +kernel
theorem d_M_search_47 : decode b_M_search 47 = .ok (.aload_n 0, 1) := by decide +kernel
theorem d_M_search_48 : decode b_M_search 48 = .ok (.getfield 32, 3) := by decide +kernel
theorem d_M_search_51 : decode b_M_search 51 = .ok (.if_icmp .ge 58, 3) := by decide +kernel
theorem d_M_search_54 : decode b_M_search 54 = .ok (.aload_n 0, 1) := by decide +kernel
theorem d_M_search_55 : decode b_M_search 55 = .ok (.lload_n 1, 1) := by decide +kernel
theorem d_M_search_56 : decode b_M_search 56 = .ok (.aload_n 0, 1) := by decide +kernel
theorem d_M_search_57 : decode b_M_search 57 = .ok (.getfield 7, 3) := by decide +kernel
theorem d_M_search_60 : decode b_M_search 60 = .ok (.iload 5, 2) := by decide +kernel
theorem d_M_search_62 : decode b_M_search 62 = .ok (.laload, 1) := by decide +kernel
theorem d_M_search_63 : decode b_M_search 63 = .ok (.invokevirtual 79, 3) := by decide +kernel
theorem d_M_search_66 : decode b_M_search 66 = .ok (.iload 4, 2) := by decide +kernel
theorem d_M_search_68 : decode b_M_search 68 = .ok (.if_icmp .ne 35, 3) := by decide +kernel
theorem d_M_search_71 : decode b_M_search 71 = .ok (.aload_n 0, 1) := by decide +kernel
theorem d_M_search_72 : decode b_M_search 72 = .ok (.getfield 13, 3) := by decide +kernel
theorem d_M_search_75 : decode b_M_search 75 = .ok (.aload_n 0, 1) := by decide +kernel
theorem d_M_search_76 : decode b_M_search 76 = .ok (.getfield 70, 3) := by decide +kernel
theorem d_M_search_79 : decode b_M_search 79 = .ok (.iload 5, 2) := by decide +kernel
theorem d_M_search_81 : decode b_M_search 81 = .ok (.iastore, 1) := by decide +kernel
theorem d_M_search_82 : decode b_M_search 82 = .ok (.aload_n 0, 1) := by decide +kernel
theorem d_M_search_83 : decode b_M_search 83 = .ok (.getfield 17, 3) := by decide +kernel
theorem d_M_search_86 : decode b_M_search 86 = .ok (.aload_n 0, 1) := by decide +kernel
theorem d_M_search_87 : decode b_M_search 87 = .ok (.getfield 70, 3) := by decide +kernel
theorem d_M_search_90 : decode b_M_search 90 = .ok (.iload 4, 2) := by decide +kernel
theorem d_M_search_92 : decode b_M_search 92 = .ok (.iastore, 1) := by decide +kernel
theorem d_M_search_93 : decode b_M_search 93 = .ok (.aload_n 0, 1) := by decide +kernel
theorem d_M_search_94 : decode b_M_search 94 = .ok (.aload_n 0, 1) := by decide +kernel
theorem d_M_search_95 : decode b_M_search 95 = .ok (.getfield 70, 3) := by decide +kernel
theorem d_M_search_98 : decode b_M_search 98 = .ok (.iconst 1, 1) := by decide +kernel
theorem d_M_search_99 : decode b_M_search 99 = .ok (.iadd, 1) := by decide +kernel
theorem d_M_search_100 : decode b_M_search 100 = .ok (.putfield 70, 3) := by decide +kernel
theorem d_M_search_103 : decode b_M_search 103 = .ok (.iinc 5 1, 3) := by decide +kernel
theorem d_M_search_106 : decode b_M_search 106 = .ok (.goto (-61), 3) := by decide +kernel
theorem d_M_search_109 : decode b_M_search 109 = .ok (.iinc 4 1, 3) := by decide +kernel
theorem d_M_search_112 : decode b_M_search 112 = .ok (.goto (-76), 3) := by decide +kernel
theorem d_M_search_115 : decode b_M_search 115 = .ok (.aload_n 0, 1) := by decide +kernel
theorem d_M_search_116 : decode b_M_search 116 = .ok (.getfield 70, 3) := by decide +kernel
theorem d_M_search_119 : decode b_M_search 119 = .ok (.ireturn, 1) := by decide +kernel
theorem d_M_share_0 : decode b_M_share 0 = .ok (.iconst 0, 1) := by decide +kernel
theorem d_M_share_1 : decode b_M_share 1 = .ok (.istore 4, 2) := by decide +kernel
theorem d_M_share_3 : decode b_M_share 3 = .ok (.iload 4, 2) := by decide +kernel
theorem d_M_share_5 : decode b_M_share 5 = .ok (.iload_n 3, 1) := by decide +kernel
theorem d_M_share_6 : decode b_M_share 6 = .ok (.if_icmp .ge 50, 3) := by decide +kernel
theorem d_M_share_9 : decode b_M_share 9 = .ok (.aload_n 0, 1) := by decide +kernel
theorem d_M_share_10 : decode b_M_share 10 = .ok (.getfield 7, 3) := by decide +kernel
theorem d_M_share_13 : decode b_M_share 13 = .ok (.iload_n 1, 1) := by decide +kernel
theorem d_M_share_14 : decode b_M_share 14 = .ok (.laload, 1) := by decide +kernel
theorem d_M_share_15 : decode b_M_share 15 = .ok (.iload 4, 2) := by decide +kernel
theorem d_M_share_17 : decode b_M_share 17 = .ok (.invokestatic 36, 3) := by decide +kernel
theorem d_M_share_20 : decode b_M_share 20 = .ok (.ifCond .eq 28, 3) := by decide +kernel
theorem d_M_share_23 : decode b_M_share 23 = .ok (.aload_n 0, 1) := by decide +kernel
theorem d_M_share_24 : decode b_M_share 24 = .ok (.getfield 7, 3) := by decide +kernel
theorem d_M_share_27 : decode b_M_share 27 = .ok (.iload_n 1, 1) := by decide +kernel
theorem d_M_share_28 : decode b_M_share 28 = .ok (.laload, 1) := by decide +kernel
theorem d_M_share_29 : decode b_M_share 29 = .ok (.iload 4, 2) := by decide +kernel
theorem d_M_share_31 : decode b_M_share 31 = .ok (.invokestatic 36, 3) := by decide +kernel
theorem d_M_share_34 : decode b_M_share 34 = .ok (.aload_n 0, 1) := by decide +kernel
theorem d_M_share_35 : decode b_M_share 35 = .ok (.getfield 7, 3) := by decide +kernel
theorem d_M_share_38 : decode b_M_share 38 = .ok (.iload_n 2, 1) := by decide +kernel
theorem d_M_share_39 : decode b_M_share 39 = .ok (.laload, 1) := by decide +kernel
theorem d_M_share_40 : decode b_M_share 40 = .ok (.iload 4, 2) := by decide +kernel
theorem d_M_share_42 : decode b_M_share 42 = .ok (.invokestatic 36, 3) := by decide +kernel
theorem d_M_share_45 : decode b_M_share 45 = .ok (.if_icmp .eq 5, 3) := by decide +kernel
theorem d_M_share_48 : decode b_M_share 48 = .ok (.iconst 0, 1) := by decide +kernel
theorem d_M_share_49 : decode b_M_share 49 = .ok (.ireturn, 1) := by decide +kernel
theorem d_M_share_50 : decode b_M_share 50 = .ok (.iinc 4 1, 3) := by decide +kernel
theorem d_M_share_53 : decode b_M_share 53 = .ok (.goto (-50), 3) := by decide +kernel
theorem d_M_share_56 : decode b_M_share 56 = .ok (.iconst 1, 1) := by decide +kernel
theorem d_M_share_57 : decode b_M_share 57 = .ok (.ireturn, 1) := by decide +kernel
theorem d_M_size_0 : decode b_M_size 0 = .ok (.aload_n 0, 1) := by decide +kernel
theorem d_M_size_1 : decode b_M_size 1 = .ok (.getfield 32, 3) := by decide +kernel
theorem d_M_size_4 : decode b_M_size 4 = .ok (.ireturn, 1) := by decide +kernel
theorem d_M_step_0 : decode b_M_step 0 = .ok (.aload_n 0, 1) := by decide +kernel
theorem d_M_step_1 : decode b_M_step 1 = .ok (.iload_n 1, 1) := by decide +kernel
theorem d_M_step_2 : decode b_M_step 2 = .ok (.invokevirtual 75, 3) := by decide +kernel
theorem d_M_step_5 : decode b_M_step 5 = .ok (.ifCond .eq 25, 3) := by decide +kernel
theorem d_M_step_8 : decode b_M_step 8 = .ok (.iload_n 2, 1) := by decide +kernel
theorem d_M_step_9 : decode b_M_step 9 = .ok (.iconst 1, 1) := by decide +kernel
theorem d_M_step_10 : decode b_M_step 10 = .ok (.if_icmp .lt 20, 3) := by decide +kernel
theorem d_M_step_13 : decode b_M_step 13 = .ok (.iload_n 2, 1) := by decide +kernel
theorem d_M_step_14 : decode b_M_step 14 = .ok (.bipush 26, 2) := by decide +kernel
theorem d_M_step_16 : decode b_M_step 16 = .ok (.if_icmp .gt 14, 3) := by decide +kernel
theorem d_M_step_19 : decode b_M_step 19 = .ok (.aload_n 0, 1) := by decide +kernel
theorem d_M_step_20 : decode b_M_step 20 = .ok (.getfield 26, 3) := by decide +kernel
theorem d_M_step_23 : decode b_M_step 23 = .ok (.iload_n 1, 1) := by decide +kernel
theorem d_M_step_24 : decode b_M_step 24 = .ok (.iaload, 1) := by decide +kernel
theorem d_M_step_25 : decode b_M_step 25 = .ok (.bipush 12, 2) := by decide +kernel
theorem d_M_step_27 : decode b_M_step 27 = .ok (.if_icmp .ne 5, 3) := by decide +kernel
theorem d_M_step_30 : decode b_M_step 30 = .ok (.iconst (-1), 1) := by decide +kernel
theorem d_M_step_31 : decode b_M_step 31 = .ok (.ireturn, 1) := by decide +kernel
theorem d_M_step_32 : decode b_M_step 32 = .ok (.iconst 0, 1) := by decide +kernel
theorem d_M_step_33 : decode b_M_step 33 = .ok (.istore_n 3, 1) := by decide +kernel
theorem d_M_step_34 : decode b_M_step 34 = .ok (.iload_n 3, 1) := by decide +kernel
theorem d_M_step_35 : decode b_M_step 35 = .ok (.aload_n 0, 1) := by decide +kernel
theorem d_M_step_36 : decode b_M_step 36 = .ok (.getfield 32, 3) := by decide +kernel
theorem d_M_step_39 : decode b_M_step 39 = .ok (.if_icmp .ge 67, 3) := by decide +kernel
theorem d_M_step_42 : decode b_M_step 42 = .ok (.aload_n 0, 1) := by decide +kernel
theorem d_M_step_43 : decode b_M_step 43 = .ok (.iload_n 3, 1) := by decide +kernel
theorem d_M_step_44 : decode b_M_step 44 = .ok (.aload_n 0, 1) := by decide +kernel
theorem d_M_step_45 : decode b_M_step 45 = .ok (.getfield 23, 3) := by decide +kernel
theorem d_M_step_48 : decode b_M_step 48 = .ok (.iload_n 1, 1) := by decide +kernel
theorem d_M_step_49 : decode b_M_step 49 = .ok (.iaload, 1) := by decide +kernel
theorem d_M_step_50 : decode b_M_step 50 = .ok (.aload_n 0, 1) := by decide +kernel
theorem d_M_step_51 : decode b_M_step 51 = .ok (.getfield 26, 3) := by decide +kernel
theorem d_M_step_54 : decode b_M_step 54 = .ok (.iload_n 1, 1) := by decide +kernel
theorem d_M_step_55 : decode b_M_step 55 = .ok (.iaload, 1) := by decide +kernel
theorem d_M_step_56 : decode b_M_step 56 = .ok (.invokevirtual 48, 3) := by decide +kernel
theorem d_M_step_59 : decode b_M_step 59 = .ok (.ifCond .eq 41, 3) := by decide +kernel
theorem d_M_step_62 : decode b_M_step 62 = .ok (.aload_n 0, 1) := by decide +kernel
theorem d_M_step_63 : decode b_M_step 63 = .ok (.getfield 7, 3) := by decide +kernel
theorem d_M_step_66 : decode b_M_step 66 = .ok (.iload_n 3, 1) := by decide +kernel
theorem d_M_step_67 : decode b_M_step 67 = .ok (.laload, 1) := by decide +kernel
theorem d_M_step_68 : decode b_M_step 68 = .ok (.aload_n 0, 1) := by decide +kernel
theorem d_M_step_69 : decode b_M_step 69 = .ok (.getfield 26, 3) := by decide +kernel
theorem d_M_step_72 : decode b_M_step 72 = .ok (.iload_n 1, 1) := by decide +kernel
theorem d_M_step_73 : decode b_M_step 73 = .ok (.iaload, 1) := by decide +kernel
theorem d_M_step_74 : decode b_M_step 74 = .ok (.invokestatic 36, 3) := by decide +kernel
theorem d_M_step_77 : decode b_M_step 77 = .ok (.iload_n 2, 1) := by decide +kernel
theorem d_M_step_78 : decode b_M_step 78 = .ok (.if_icmp .ne 22, 3) := by decide +kernel
theorem d_M_step_81 : decode b_M_step 81 = .ok (.aload_n 0, 1) := by decide +kernel
theorem d_M_step_82 : decode b_M_step 82 = .ok (.getfield 20, 3) := by decide +kernel
theorem d_M_step_85 : decode b_M_step 85 = .ok (.bipush 13, 2) := by decide +kernel
theorem d_M_step_87 : decode b_M_step 87 = .ok (.iload_n 3, 1) := by decide +kernel
theorem d_M_step_88 : decode b_M_step 88 = .ok (.imul, 1) := by decide +kernel
theorem d_M_step_89 : decode b_M_step 89 = .ok (.aload_n 0, 1) := by decide +kernel
theorem d_M_step_90 : decode b_M_step 90 = .ok (.getfield 26, 3) := by decide +kernel
theorem d_M_step_93 : decode b_M_step 93 = .ok (.iload_n 1, 1) := by decide +kernel
theorem d_M_step_94 : decode b_M_step 94 = .ok (.iaload, 1) := by decide +kernel
theorem d_M_step_95 : decode b_M_step 95 = .ok (.iadd, 1) := by decide +kernel
theorem d_M_step_96 : decode b_M_step 96 = .ok (.iconst 1, 1) := by decide +kernel
theorem d_M_step_97 : decode b_M_step 97 = .ok (.iadd, 1) := by decide +kernel
theorem d_M_step_98 : decode b_M_step 98 = .ok (.iaload, 1) := by decide +kernel
theorem d_M_step_99 : decode b_M_step 99 = .ok (.ireturn, 1) := by decide +kernel
theorem d_M_step_100 : decode b_M_step 100 = .ok (.iinc 3 1, 3) := by decide +kernel
theorem d_M_step_103 : decode b_M_step 103 = .ok (.goto (-69), 3) := by decide +kernel
theorem d_M_step_106 : decode b_M_step 106 = .ok (.iconst (-1), 1) := by decide +kernel
theorem d_M_step_107 : decode b_M_step 107 = .ok (.ireturn, 1) := by decide +kernel
theorem d_M_within_0 : decode b_M_within 0 = .ok (.iconst 0, 1) := by decide +kernel
theorem d_M_within_1 : decode b_M_within 1 = .ok (.istore 5, 2) := by decide +kernel
theorem d_M_within_3 : decode b_M_within 3 = .ok (.iload 5, 2) := by decide +kernel
theorem d_M_within_5 : decode b_M_within 5 = .ok (.aload_n 0, 1) := by decide +kernel
theorem d_M_within_6 : decode b_M_within 6 = .ok (.getfield 32, 3) := by decide +kernel
theorem d_M_within_9 : decode b_M_within 9 = .ok (.if_icmp .ge 35, 3) := by decide +kernel
theorem d_M_within_12 : decode b_M_within 12 = .ok (.aload_n 0, 1) := by decide +kernel
theorem d_M_within_13 : decode b_M_within 13 = .ok (.iload 5, 2) := by decide +kernel
theorem d_M_within_15 : decode b_M_within 15 = .ok (.iload_n 1, 1) := by decide +kernel
theorem d_M_within_16 : decode b_M_within 16 = .ok (.iload_n 2, 1) := by decide +kernel
theorem d_M_within_17 : decode b_M_within 17 = .ok (.invokevirtual 48, 3) := by decide +kernel
theorem d_M_within_20 : decode b_M_within 20 = .ok (.ifCond .eq 18, 3) := by decide +kernel
theorem d_M_within_23 : decode b_M_within 23 = .ok (.aload_n 0, 1) := by decide +kernel
theorem d_M_within_24 : decode b_M_within 24 = .ok (.iload 5, 2) := by decide +kernel
theorem d_M_within_26 : decode b_M_within 26 = .ok (.iload_n 2, 1) := by decide +kernel
theorem d_M_within_27 : decode b_M_within 27 = .ok (.iload_n 3, 1) := by decide +kernel
theorem d_M_within_28 : decode b_M_within 28 = .ok (.iload 4, 2) := by decide +kernel
theorem d_M_within_30 : decode b_M_within 30 = .ok (.invokevirtual 56, 3) := by decide +kernel
theorem d_M_within_33 : decode b_M_within 33 = .ok (.ifCond .ne 5, 3) := by decide +kernel
theorem d_M_within_36 : decode b_M_within 36 = .ok (.iconst 0, 1) := by decide +kernel
theorem d_M_within_37 : decode b_M_within 37 = .ok (.ireturn, 1) := by decide +kernel
theorem d_M_within_38 : decode b_M_within 38 = .ok (.iinc 5 1, 3) := by decide +kernel
theorem d_M_within_41 : decode b_M_within 41 = .ok (.goto (-38), 3) := by decide +kernel
theorem d_M_within_44 : decode b_M_within 44 = .ok (.iconst 1, 1) := by decide +kernel
theorem d_M_within_45 : decode b_M_within 45 = .ok (.ireturn, 1) := by decide +kernel
theorem d_M_word_0 : decode b_M_word 0 = .ok (.iload_n 1, 1) := by decide +kernel
theorem d_M_word_1 : decode b_M_word 1 = .ok (.ifCond .lt 20, 3) := by decide +kernel
theorem d_M_word_4 : decode b_M_word 4 = .ok (.iload_n 1, 1) := by decide +kernel
theorem d_M_word_5 : decode b_M_word 5 = .ok (.aload_n 0, 1) := by decide +kernel
theorem d_M_word_6 : decode b_M_word 6 = .ok (.getfield 32, 3) := by decide +kernel
theorem d_M_word_9 : decode b_M_word 9 = .ok (.if_icmp .ge 12, 3) := by decide +kernel
theorem d_M_word_12 : decode b_M_word 12 = .ok (.aload_n 0, 1) := by decide +kernel
theorem d_M_word_13 : decode b_M_word 13 = .ok (.getfield 7, 3) := by decide +kernel
theorem d_M_word_16 : decode b_M_word 16 = .ok (.iload_n 1, 1) := by decide +kernel
theorem d_M_word_17 : decode b_M_word 17 = .ok (.laload, 1) := by decide +kernel
theorem d_M_word_18 : decode b_M_word 18 = .ok (.goto 6, 3) := by decide +kernel
theorem d_M_word_21 : decode b_M_word 21 = .ok (.ldc2_w 73, 3) := by decide +kernel
theorem d_M_word_24 : decode b_M_word 24 = .ok (.lreturn, 1) := by decide +kernel
end
section
theorem d_L_law_0 : decode code 0 = .ok (.new 7, 3) := by decide +kernel
theorem d_L_law_3 : decode code 3 = .ok (.dup, 1) := by decide +kernel
theorem d_L_law_4 : decode code 4 = .ok (.invokespecial 9, 3) := by decide +kernel
theorem d_L_law_7 : decode code 7 = .ok (.astore_n 1, 1) := by decide +kernel
theorem d_L_law_8 : decode code 8 = .ok (.new 10, 3) := by decide +kernel
theorem d_L_law_11 : decode code 11 = .ok (.dup, 1) := by decide +kernel
theorem d_L_law_12 : decode code 12 = .ok (.invokespecial 12, 3) := by decide +kernel
theorem d_L_law_15 : decode code 15 = .ok (.astore_n 2, 1) := by decide +kernel
theorem d_L_law_16 : decode code 16 = .ok (.iconst 0, 1) := by decide +kernel
theorem d_L_law_17 : decode code 17 = .ok (.istore_n 3, 1) := by decide +kernel
theorem d_L_law_18 : decode code 18 = .ok (.iload_n 3, 1) := by decide +kernel
theorem d_L_law_19 : decode code 19 = .ok (.aload_n 0, 1) := by decide +kernel
theorem d_L_law_20 : decode code 20 = .ok (.arraylength, 1) := by decide +kernel
theorem d_L_law_21 : decode code 21 = .ok (.iconst 4, 1) := by decide +kernel
theorem d_L_law_22 : decode code 22 = .ok (.isub, 1) := by decide +kernel
theorem d_L_law_23 : decode code 23 = .ok (.if_icmp .gt 518, 3) := by decide +kernel
theorem d_L_law_26 : decode code 26 = .ok (.aload_n 0, 1) := by decide +kernel
theorem d_L_law_27 : decode code 27 = .ok (.iload_n 3, 1) := by decide +kernel
theorem d_L_law_28 : decode code 28 = .ok (.iaload, 1) := by decide +kernel
theorem d_L_law_29 : decode code 29 = .ok (.bipush 15, 2) := by decide +kernel
theorem d_L_law_31 : decode code 31 = .ok (.iand, 1) := by decide +kernel
theorem d_L_law_32 : decode code 32 = .ok (.tableswitch 503 0 13 #[72, 125, 138, 149, 162, 186, 239, 252, 285, 308, 331, 394, 457, 480], 72) := by decide +kernel
theorem d_L_law_104 : decode code 104 = .ok (.aload_n 1, 1) := by decide +kernel
theorem d_L_law_105 : decode code 105 = .ok (.aload_n 0, 1) := by decide +kernel
theorem d_L_law_106 : decode code 106 = .ok (.iload_n 3, 1) := by decide +kernel
theorem d_L_law_107 : decode code 107 = .ok (.iconst 1, 1) := by decide +kernel
theorem d_L_law_108 : decode code 108 = .ok (.iadd, 1) := by decide +kernel
theorem d_L_law_109 : decode code 109 = .ok (.iaload, 1) := by decide +kernel
theorem d_L_law_110 : decode code 110 = .ok (.i2l, 1) := by decide +kernel
theorem d_L_law_111 : decode code 111 = .ok (.bipush 32, 2) := by decide +kernel
theorem d_L_law_113 : decode code 113 = .ok (.lshl, 1) := by decide +kernel
theorem d_L_law_114 : decode code 114 = .ok (.aload_n 0, 1) := by decide +kernel
theorem d_L_law_115 : decode code 115 = .ok (.iload_n 3, 1) := by decide +kernel
theorem d_L_law_116 : decode code 116 = .ok (.iconst 2, 1) := by decide +kernel
theorem d_L_law_117 : decode code 117 = .ok (.iadd, 1) := by decide +kernel
theorem d_L_law_118 : decode code 118 = .ok (.iaload, 1) := by decide +kernel
theorem d_L_law_119 : decode code 119 = .ok (.i2l, 1) := by decide +kernel
theorem d_L_law_120 : decode code 120 = .ok (.ldc2_w 13, 3) := by decide +kernel
theorem d_L_law_123 : decode code 123 = .ok (.land, 1) := by decide +kernel
theorem d_L_law_124 : decode code 124 = .ok (.lor, 1) := by decide +kernel
theorem d_L_law_125 : decode code 125 = .ok (.invokevirtual 15, 3) := by decide +kernel
theorem d_L_law_128 : decode code 128 = .ok (.pop, 1) := by decide +kernel
theorem d_L_law_129 : decode code 129 = .ok (.aload_n 2, 1) := by decide +kernel
theorem d_L_law_130 : decode code 130 = .ok (.aload_n 0, 1) := by decide +kernel
theorem d_L_law_131 : decode code 131 = .ok (.iload_n 3, 1) := by decide +kernel
theorem d_L_law_132 : decode code 132 = .ok (.iconst 1, 1) := by decide +kernel
theorem d_L_law_133 : decode code 133 = .ok (.iadd, 1) := by decide +kernel
theorem d_L_law_134 : decode code 134 = .ok (.iaload, 1) := by decide +kernel
theorem d_L_law_135 : decode code 135 = .ok (.i2l, 1) := by decide +kernel
theorem d_L_law_136 : decode code 136 = .ok (.bipush 32, 2) := by decide +kernel
theorem d_L_law_138 : decode code 138 = .ok (.lshl, 1) := by decide +kernel
theorem d_L_law_139 : decode code 139 = .ok (.aload_n 0, 1) := by decide +kernel
theorem d_L_law_140 : decode code 140 = .ok (.iload_n 3, 1) := by decide +kernel
theorem d_L_law_141 : decode code 141 = .ok (.iconst 2, 1) := by decide +kernel
theorem d_L_law_142 : decode code 142 = .ok (.iadd, 1) := by decide +kernel
theorem d_L_law_143 : decode code 143 = .ok (.iaload, 1) := by decide +kernel
theorem d_L_law_144 : decode code 144 = .ok (.i2l, 1) := by decide +kernel
theorem d_L_law_145 : decode code 145 = .ok (.ldc2_w 13, 3) := by decide +kernel
theorem d_L_law_148 : decode code 148 = .ok (.land, 1) := by decide +kernel
theorem d_L_law_149 : decode code 149 = .ok (.lor, 1) := by decide +kernel
theorem d_L_law_150 : decode code 150 = .ok (.invokevirtual 19, 3) := by decide +kernel
theorem d_L_law_153 : decode code 153 = .ok (.pop, 1) := by decide +kernel
theorem d_L_law_154 : decode code 154 = .ok (.goto 381, 3) := by decide +kernel
theorem d_L_law_157 : decode code 157 = .ok (.aload_n 1, 1) := by decide +kernel
theorem d_L_law_158 : decode code 158 = .ok (.invokevirtual 20, 3) := by decide +kernel
theorem d_L_law_161 : decode code 161 = .ok (.pop, 1) := by decide +kernel
theorem d_L_law_162 : decode code 162 = .ok (.aload_n 2, 1) := by decide +kernel
theorem d_L_law_163 : decode code 163 = .ok (.invokevirtual 24, 3) := by decide +kernel
theorem d_L_law_166 : decode code 166 = .ok (.pop, 1) := by decide +kernel
theorem d_L_law_167 : decode code 167 = .ok (.goto 368, 3) := by decide +kernel
theorem d_L_law_170 : decode code 170 = .ok (.aload_n 1, 1) := by decide +kernel
theorem d_L_law_171 : decode code 171 = .ok (.invokevirtual 25, 3) := by decide +kernel
theorem d_L_law_174 : decode code 174 = .ok (.aload_n 2, 1) := by decide +kernel
theorem d_L_law_175 : decode code 175 = .ok (.invokevirtual 28, 3) := by decide +kernel
theorem d_L_law_178 : decode code 178 = .ok (.goto 357, 3) := by decide +kernel
theorem d_L_law_181 : decode code 181 = .ok (.aload_n 1, 1) := by decide +kernel
theorem d_L_law_182 : decode code 182 = .ok (.invokevirtual 29, 3) := by decide +kernel
theorem d_L_law_185 : decode code 185 = .ok (.pop, 1) := by decide +kernel
theorem d_L_law_186 : decode code 186 = .ok (.aload_n 2, 1) := by decide +kernel
theorem d_L_law_187 : decode code 187 = .ok (.invokevirtual 33, 3) := by decide +kernel
theorem d_L_law_190 : decode code 190 = .ok (.pop, 1) := by decide +kernel
theorem d_L_law_191 : decode code 191 = .ok (.goto 344, 3) := by decide +kernel
theorem d_L_law_194 : decode code 194 = .ok (.aload_n 1, 1) := by decide +kernel
theorem d_L_law_195 : decode code 195 = .ok (.aload_n 0, 1) := by decide +kernel
theorem d_L_law_196 : decode code 196 = .ok (.iload_n 3, 1) := by decide +kernel
theorem d_L_law_197 : decode code 197 = .ok (.iconst 1, 1) := by decide +kernel
theorem d_L_law_198 : decode code 198 = .ok (.iadd, 1) := by decide +kernel
theorem d_L_law_199 : decode code 199 = .ok (.iaload, 1) := by decide +kernel
theorem d_L_law_200 : decode code 200 = .ok (.invokevirtual 34, 3) := by decide +kernel
theorem d_L_law_203 : decode code 203 = .ok (.aload_n 2, 1) := by decide +kernel
theorem d_L_law_204 : decode code 204 = .ok (.aload_n 0, 1) := by decide +kernel
theorem d_L_law_205 : decode code 205 = .ok (.iload_n 3, 1) := by decide +kernel
theorem d_L_law_206 : decode code 206 = .ok (.iconst 1, 1) := by decide +kernel
theorem d_L_law_207 : decode code 207 = .ok (.iadd, 1) := by decide +kernel
theorem d_L_law_208 : decode code 208 = .ok (.iaload, 1) := by decide +kernel
theorem d_L_law_209 : decode code 209 = .ok (.invokevirtual 38, 3) := by decide +kernel
theorem d_L_law_212 : decode code 212 = .ok (.lcmp, 1) := by decide +kernel
theorem d_L_law_213 : decode code 213 = .ok (.ifCond .eq 322, 3) := by decide +kernel
theorem d_L_law_216 : decode code 216 = .ok (.iconst 0, 1) := by decide +kernel
theorem d_L_law_217 : decode code 217 = .ok (.ireturn, 1) := by decide +kernel
theorem d_L_law_218 : decode code 218 = .ok (.aload_n 1, 1) := by decide +kernel
theorem d_L_law_219 : decode code 219 = .ok (.aload_n 0, 1) := by decide +kernel
theorem d_L_law_220 : decode code 220 = .ok (.iload_n 3, 1) := by decide +kernel
theorem d_L_law_221 : decode code 221 = .ok (.iconst 1, 1) := by decide +kernel
theorem d_L_law_222 : decode code 222 = .ok (.iadd, 1) := by decide +kernel
theorem d_L_law_223 : decode code 223 = .ok (.iaload, 1) := by decide +kernel
theorem d_L_law_224 : decode code 224 = .ok (.i2l, 1) := by decide +kernel
theorem d_L_law_225 : decode code 225 = .ok (.bipush 32, 2) := by decide +kernel
theorem d_L_law_227 : decode code 227 = .ok (.lshl, 1) := by decide +kernel
theorem d_L_law_228 : decode code 228 = .ok (.aload_n 0, 1) := by decide +kernel
theorem d_L_law_229 : decode code 229 = .ok (.iload_n 3, 1) := by decide +kernel
theorem d_L_law_230 : decode code 230 = .ok (.iconst 2, 1) := by decide +kernel
theorem d_L_law_231 : decode code 231 = .ok (.iadd, 1) := by decide +kernel
theorem d_L_law_232 : decode code 232 = .ok (.iaload, 1) := by decide +kernel
theorem d_L_law_233 : decode code 233 = .ok (.i2l, 1) := by decide +kernel
theorem d_L_law_234 : decode code 234 = .ok (.ldc2_w 13, 3) := by decide +kernel
theorem d_L_law_237 : decode code 237 = .ok (.land, 1) := by decide +kernel
theorem d_L_law_238 : decode code 238 = .ok (.lor, 1) := by decide +kernel
theorem d_L_law_239 : decode code 239 = .ok (.invokevirtual 39, 3) := by decide +kernel
theorem d_L_law_242 : decode code 242 = .ok (.pop, 1) := by decide +kernel
theorem d_L_law_243 : decode code 243 = .ok (.aload_n 2, 1) := by decide +kernel
theorem d_L_law_244 : decode code 244 = .ok (.aload_n 0, 1) := by decide +kernel
theorem d_L_law_245 : decode code 245 = .ok (.iload_n 3, 1) := by decide +kernel
theorem d_L_law_246 : decode code 246 = .ok (.iconst 1, 1) := by decide +kernel
theorem d_L_law_247 : decode code 247 = .ok (.iadd, 1) := by decide +kernel
theorem d_L_law_248 : decode code 248 = .ok (.iaload, 1) := by decide +kernel
theorem d_L_law_249 : decode code 249 = .ok (.i2l, 1) := by decide +kernel
theorem d_L_law_250 : decode code 250 = .ok (.bipush 32, 2) := by decide +kernel
theorem d_L_law_252 : decode code 252 = .ok (.lshl, 1) := by decide +kernel
theorem d_L_law_253 : decode code 253 = .ok (.aload_n 0, 1) := by decide +kernel
theorem d_L_law_254 : decode code 254 = .ok (.iload_n 3, 1) := by decide +kernel
theorem d_L_law_255 : decode code 255 = .ok (.iconst 2, 1) := by decide +kernel
theorem d_L_law_256 : decode code 256 = .ok (.iadd, 1) := by decide +kernel
theorem d_L_law_257 : decode code 257 = .ok (.iaload, 1) := by decide +kernel
theorem d_L_law_258 : decode code 258 = .ok (.i2l, 1) := by decide +kernel
theorem d_L_law_259 : decode code 259 = .ok (.ldc2_w 13, 3) := by decide +kernel
theorem d_L_law_262 : decode code 262 = .ok (.land, 1) := by decide +kernel
theorem d_L_law_263 : decode code 263 = .ok (.lor, 1) := by decide +kernel
theorem d_L_law_264 : decode code 264 = .ok (.invokevirtual 42, 3) := by decide +kernel
theorem d_L_law_267 : decode code 267 = .ok (.pop, 1) := by decide +kernel
theorem d_L_law_268 : decode code 268 = .ok (.goto 267, 3) := by decide +kernel
theorem d_L_law_271 : decode code 271 = .ok (.aload_n 1, 1) := by decide +kernel
theorem d_L_law_272 : decode code 272 = .ok (.invokevirtual 43, 3) := by decide +kernel
theorem d_L_law_275 : decode code 275 = .ok (.pop, 1) := by decide +kernel
theorem d_L_law_276 : decode code 276 = .ok (.aload_n 2, 1) := by decide +kernel
theorem d_L_law_277 : decode code 277 = .ok (.invokevirtual 46, 3) := by decide +kernel
theorem d_L_law_280 : decode code 280 = .ok (.pop, 1) := by decide +kernel
theorem d_L_law_281 : decode code 281 = .ok (.goto 254, 3) := by decide +kernel
theorem d_L_law_284 : decode code 284 = .ok (.aload_n 1, 1) := by decide +kernel
theorem d_L_law_285 : decode code 285 = .ok (.aload_n 0, 1) := by decide +kernel
theorem d_L_law_286 : decode code 286 = .ok (.iload_n 3, 1) := by decide +kernel
theorem d_L_law_287 : decode code 287 = .ok (.iconst 1, 1) := by decide +kernel
theorem d_L_law_288 : decode code 288 = .ok (.iadd, 1) := by decide +kernel
theorem d_L_law_289 : decode code 289 = .ok (.iaload, 1) := by decide +kernel
theorem d_L_law_290 : decode code 290 = .ok (.aload_n 0, 1) := by decide +kernel
theorem d_L_law_291 : decode code 291 = .ok (.iload_n 3, 1) := by decide +kernel
theorem d_L_law_292 : decode code 292 = .ok (.iconst 2, 1) := by decide +kernel
theorem d_L_law_293 : decode code 293 = .ok (.iadd, 1) := by decide +kernel
theorem d_L_law_294 : decode code 294 = .ok (.iaload, 1) := by decide +kernel
theorem d_L_law_295 : decode code 295 = .ok (.invokevirtual 47, 3) := by decide +kernel
theorem d_L_law_298 : decode code 298 = .ok (.pop, 1) := by decide +kernel
theorem d_L_law_299 : decode code 299 = .ok (.aload_n 2, 1) := by decide +kernel
theorem d_L_law_300 : decode code 300 = .ok (.aload_n 0, 1) := by decide +kernel
theorem d_L_law_301 : decode code 301 = .ok (.iload_n 3, 1) := by decide +kernel
theorem d_L_law_302 : decode code 302 = .ok (.iconst 1, 1) := by decide +kernel
theorem d_L_law_303 : decode code 303 = .ok (.iadd, 1) := by decide +kernel
theorem d_L_law_304 : decode code 304 = .ok (.iaload, 1) := by decide +kernel
theorem d_L_law_305 : decode code 305 = .ok (.aload_n 0, 1) := by decide +kernel
theorem d_L_law_306 : decode code 306 = .ok (.iload_n 3, 1) := by decide +kernel
theorem d_L_law_307 : decode code 307 = .ok (.iconst 2, 1) := by decide +kernel
theorem d_L_law_308 : decode code 308 = .ok (.iadd, 1) := by decide +kernel
theorem d_L_law_309 : decode code 309 = .ok (.iaload, 1) := by decide +kernel
theorem d_L_law_310 : decode code 310 = .ok (.invokevirtual 51, 3) := by decide +kernel
theorem d_L_law_313 : decode code 313 = .ok (.pop, 1) := by decide +kernel
theorem d_L_law_314 : decode code 314 = .ok (.goto 221, 3) := by decide +kernel
theorem d_L_law_317 : decode code 317 = .ok (.aload_n 1, 1) := by decide +kernel
theorem d_L_law_318 : decode code 318 = .ok (.aload_n 0, 1) := by decide +kernel
theorem d_L_law_319 : decode code 319 = .ok (.iload_n 3, 1) := by decide +kernel
theorem d_L_law_320 : decode code 320 = .ok (.iconst 1, 1) := by decide +kernel
theorem d_L_law_321 : decode code 321 = .ok (.iadd, 1) := by decide +kernel
theorem d_L_law_322 : decode code 322 = .ok (.iaload, 1) := by decide +kernel
theorem d_L_law_323 : decode code 323 = .ok (.invokevirtual 52, 3) := by decide +kernel
theorem d_L_law_326 : decode code 326 = .ok (.pop, 1) := by decide +kernel
theorem d_L_law_327 : decode code 327 = .ok (.aload_n 2, 1) := by decide +kernel
theorem d_L_law_328 : decode code 328 = .ok (.aload_n 0, 1) := by decide +kernel
theorem d_L_law_329 : decode code 329 = .ok (.iload_n 3, 1) := by decide +kernel
theorem d_L_law_330 : decode code 330 = .ok (.iconst 1, 1) := by decide +kernel
theorem d_L_law_331 : decode code 331 = .ok (.iadd, 1) := by decide +kernel
theorem d_L_law_332 : decode code 332 = .ok (.iaload, 1) := by decide +kernel
theorem d_L_law_333 : decode code 333 = .ok (.invokevirtual 56, 3) := by decide +kernel
theorem d_L_law_336 : decode code 336 = .ok (.pop, 1) := by decide +kernel
theorem d_L_law_337 : decode code 337 = .ok (.goto 198, 3) := by decide +kernel
theorem d_L_law_340 : decode code 340 = .ok (.aload_n 1, 1) := by decide +kernel
theorem d_L_law_341 : decode code 341 = .ok (.aload_n 0, 1) := by decide +kernel
theorem d_L_law_342 : decode code 342 = .ok (.iload_n 3, 1) := by decide +kernel
theorem d_L_law_343 : decode code 343 = .ok (.iconst 1, 1) := by decide +kernel
theorem d_L_law_344 : decode code 344 = .ok (.iadd, 1) := by decide +kernel
theorem d_L_law_345 : decode code 345 = .ok (.iaload, 1) := by decide +kernel
theorem d_L_law_346 : decode code 346 = .ok (.invokevirtual 57, 3) := by decide +kernel
theorem d_L_law_349 : decode code 349 = .ok (.pop, 1) := by decide +kernel
theorem d_L_law_350 : decode code 350 = .ok (.aload_n 2, 1) := by decide +kernel
theorem d_L_law_351 : decode code 351 = .ok (.aload_n 0, 1) := by decide +kernel
theorem d_L_law_352 : decode code 352 = .ok (.iload_n 3, 1) := by decide +kernel
theorem d_L_law_353 : decode code 353 = .ok (.iconst 1, 1) := by decide +kernel
theorem d_L_law_354 : decode code 354 = .ok (.iadd, 1) := by decide +kernel
theorem d_L_law_355 : decode code 355 = .ok (.iaload, 1) := by decide +kernel
theorem d_L_law_356 : decode code 356 = .ok (.invokevirtual 61, 3) := by decide +kernel
theorem d_L_law_359 : decode code 359 = .ok (.pop, 1) := by decide +kernel
theorem d_L_law_360 : decode code 360 = .ok (.goto 175, 3) := by decide +kernel
theorem d_L_law_363 : decode code 363 = .ok (.aload_n 1, 1) := by decide +kernel
theorem d_L_law_364 : decode code 364 = .ok (.aload_n 0, 1) := by decide +kernel
theorem d_L_law_365 : decode code 365 = .ok (.iload_n 3, 1) := by decide +kernel
theorem d_L_law_366 : decode code 366 = .ok (.iconst 1, 1) := by decide +kernel
theorem d_L_law_367 : decode code 367 = .ok (.iadd, 1) := by decide +kernel
theorem d_L_law_368 : decode code 368 = .ok (.iaload, 1) := by decide +kernel
theorem d_L_law_369 : decode code 369 = .ok (.i2l, 1) := by decide +kernel
theorem d_L_law_370 : decode code 370 = .ok (.bipush 32, 2) := by decide +kernel
theorem d_L_law_372 : decode code 372 = .ok (.lshl, 1) := by decide +kernel
theorem d_L_law_373 : decode code 373 = .ok (.aload_n 0, 1) := by decide +kernel
theorem d_L_law_374 : decode code 374 = .ok (.iload_n 3, 1) := by decide +kernel
theorem d_L_law_375 : decode code 375 = .ok (.iconst 2, 1) := by decide +kernel
theorem d_L_law_376 : decode code 376 = .ok (.iadd, 1) := by decide +kernel
theorem d_L_law_377 : decode code 377 = .ok (.iaload, 1) := by decide +kernel
theorem d_L_law_378 : decode code 378 = .ok (.i2l, 1) := by decide +kernel
theorem d_L_law_379 : decode code 379 = .ok (.ldc2_w 13, 3) := by decide +kernel
theorem d_L_law_382 : decode code 382 = .ok (.land, 1) := by decide +kernel
theorem d_L_law_383 : decode code 383 = .ok (.lor, 1) := by decide +kernel
theorem d_L_law_384 : decode code 384 = .ok (.aload_n 0, 1) := by decide +kernel
theorem d_L_law_385 : decode code 385 = .ok (.iload_n 3, 1) := by decide +kernel
theorem d_L_law_386 : decode code 386 = .ok (.iconst 3, 1) := by decide +kernel
theorem d_L_law_387 : decode code 387 = .ok (.iadd, 1) := by decide +kernel
theorem d_L_law_388 : decode code 388 = .ok (.iaload, 1) := by decide +kernel
theorem d_L_law_389 : decode code 389 = .ok (.invokevirtual 62, 3) := by decide +kernel
theorem d_L_law_392 : decode code 392 = .ok (.pop, 1) := by decide +kernel
theorem d_L_law_393 : decode code 393 = .ok (.aload_n 2, 1) := by decide +kernel
theorem d_L_law_394 : decode code 394 = .ok (.aload_n 0, 1) := by decide +kernel
theorem d_L_law_395 : decode code 395 = .ok (.iload_n 3, 1) := by decide +kernel
theorem d_L_law_396 : decode code 396 = .ok (.iconst 1, 1) := by decide +kernel
theorem d_L_law_397 : decode code 397 = .ok (.iadd, 1) := by decide +kernel
theorem d_L_law_398 : decode code 398 = .ok (.iaload, 1) := by decide +kernel
theorem d_L_law_399 : decode code 399 = .ok (.i2l, 1) := by decide +kernel
theorem d_L_law_400 : decode code 400 = .ok (.bipush 32, 2) := by decide +kernel
theorem d_L_law_402 : decode code 402 = .ok (.lshl, 1) := by decide +kernel
theorem d_L_law_403 : decode code 403 = .ok (.aload_n 0, 1) := by decide +kernel
theorem d_L_law_404 : decode code 404 = .ok (.iload_n 3, 1) := by decide +kernel
theorem d_L_law_405 : decode code 405 = .ok (.iconst 2, 1) := by decide +kernel
theorem d_L_law_406 : decode code 406 = .ok (.iadd, 1) := by decide +kernel
theorem d_L_law_407 : decode code 407 = .ok (.iaload, 1) := by decide +kernel
theorem d_L_law_408 : decode code 408 = .ok (.i2l, 1) := by decide +kernel
theorem d_L_law_409 : decode code 409 = .ok (.ldc2_w 13, 3) := by decide +kernel
theorem d_L_law_412 : decode code 412 = .ok (.land, 1) := by decide +kernel
theorem d_L_law_413 : decode code 413 = .ok (.lor, 1) := by decide +kernel
theorem d_L_law_414 : decode code 414 = .ok (.aload_n 0, 1) := by decide +kernel
theorem d_L_law_415 : decode code 415 = .ok (.iload_n 3, 1) := by decide +kernel
theorem d_L_law_416 : decode code 416 = .ok (.iconst 3, 1) := by decide +kernel
theorem d_L_law_417 : decode code 417 = .ok (.iadd, 1) := by decide +kernel
theorem d_L_law_418 : decode code 418 = .ok (.iaload, 1) := by decide +kernel
theorem d_L_law_419 : decode code 419 = .ok (.invokevirtual 66, 3) := by decide +kernel
theorem d_L_law_422 : decode code 422 = .ok (.pop, 1) := by decide +kernel
theorem d_L_law_423 : decode code 423 = .ok (.goto 112, 3) := by decide +kernel
theorem d_L_law_426 : decode code 426 = .ok (.aload_n 1, 1) := by decide +kernel
theorem d_L_law_427 : decode code 427 = .ok (.aload_n 0, 1) := by decide +kernel
theorem d_L_law_428 : decode code 428 = .ok (.iload_n 3, 1) := by decide +kernel
theorem d_L_law_429 : decode code 429 = .ok (.iconst 1, 1) := by decide +kernel
theorem d_L_law_430 : decode code 430 = .ok (.iadd, 1) := by decide +kernel
theorem d_L_law_431 : decode code 431 = .ok (.iaload, 1) := by decide +kernel
theorem d_L_law_432 : decode code 432 = .ok (.i2l, 1) := by decide +kernel
theorem d_L_law_433 : decode code 433 = .ok (.bipush 32, 2) := by decide +kernel
theorem d_L_law_435 : decode code 435 = .ok (.lshl, 1) := by decide +kernel
theorem d_L_law_436 : decode code 436 = .ok (.aload_n 0, 1) := by decide +kernel
theorem d_L_law_437 : decode code 437 = .ok (.iload_n 3, 1) := by decide +kernel
theorem d_L_law_438 : decode code 438 = .ok (.iconst 2, 1) := by decide +kernel
theorem d_L_law_439 : decode code 439 = .ok (.iadd, 1) := by decide +kernel
theorem d_L_law_440 : decode code 440 = .ok (.iaload, 1) := by decide +kernel
theorem d_L_law_441 : decode code 441 = .ok (.i2l, 1) := by decide +kernel
theorem d_L_law_442 : decode code 442 = .ok (.ldc2_w 13, 3) := by decide +kernel
theorem d_L_law_445 : decode code 445 = .ok (.land, 1) := by decide +kernel
theorem d_L_law_446 : decode code 446 = .ok (.lor, 1) := by decide +kernel
theorem d_L_law_447 : decode code 447 = .ok (.aload_n 0, 1) := by decide +kernel
theorem d_L_law_448 : decode code 448 = .ok (.iload_n 3, 1) := by decide +kernel
theorem d_L_law_449 : decode code 449 = .ok (.iconst 3, 1) := by decide +kernel
theorem d_L_law_450 : decode code 450 = .ok (.iadd, 1) := by decide +kernel
theorem d_L_law_451 : decode code 451 = .ok (.iaload, 1) := by decide +kernel
theorem d_L_law_452 : decode code 452 = .ok (.invokevirtual 67, 3) := by decide +kernel
theorem d_L_law_455 : decode code 455 = .ok (.pop, 1) := by decide +kernel
theorem d_L_law_456 : decode code 456 = .ok (.aload_n 2, 1) := by decide +kernel
theorem d_L_law_457 : decode code 457 = .ok (.aload_n 0, 1) := by decide +kernel
theorem d_L_law_458 : decode code 458 = .ok (.iload_n 3, 1) := by decide +kernel
theorem d_L_law_459 : decode code 459 = .ok (.iconst 1, 1) := by decide +kernel
theorem d_L_law_460 : decode code 460 = .ok (.iadd, 1) := by decide +kernel
theorem d_L_law_461 : decode code 461 = .ok (.iaload, 1) := by decide +kernel
theorem d_L_law_462 : decode code 462 = .ok (.i2l, 1) := by decide +kernel
theorem d_L_law_463 : decode code 463 = .ok (.bipush 32, 2) := by decide +kernel
theorem d_L_law_465 : decode code 465 = .ok (.lshl, 1) := by decide +kernel
theorem d_L_law_466 : decode code 466 = .ok (.aload_n 0, 1) := by decide +kernel
theorem d_L_law_467 : decode code 467 = .ok (.iload_n 3, 1) := by decide +kernel
theorem d_L_law_468 : decode code 468 = .ok (.iconst 2, 1) := by decide +kernel
theorem d_L_law_469 : decode code 469 = .ok (.iadd, 1) := by decide +kernel
theorem d_L_law_470 : decode code 470 = .ok (.iaload, 1) := by decide +kernel
theorem d_L_law_471 : decode code 471 = .ok (.i2l, 1) := by decide +kernel
theorem d_L_law_472 : decode code 472 = .ok (.ldc2_w 13, 3) := by decide +kernel
theorem d_L_law_475 : decode code 475 = .ok (.land, 1) := by decide +kernel
theorem d_L_law_476 : decode code 476 = .ok (.lor, 1) := by decide +kernel
theorem d_L_law_477 : decode code 477 = .ok (.aload_n 0, 1) := by decide +kernel
theorem d_L_law_478 : decode code 478 = .ok (.iload_n 3, 1) := by decide +kernel
theorem d_L_law_479 : decode code 479 = .ok (.iconst 3, 1) := by decide +kernel
theorem d_L_law_480 : decode code 480 = .ok (.iadd, 1) := by decide +kernel
theorem d_L_law_481 : decode code 481 = .ok (.iaload, 1) := by decide +kernel
theorem d_L_law_482 : decode code 482 = .ok (.invokevirtual 70, 3) := by decide +kernel
theorem d_L_law_485 : decode code 485 = .ok (.pop, 1) := by decide +kernel
theorem d_L_law_486 : decode code 486 = .ok (.goto 49, 3) := by decide +kernel
theorem d_L_law_489 : decode code 489 = .ok (.aload_n 1, 1) := by decide +kernel
theorem d_L_law_490 : decode code 490 = .ok (.aload_n 0, 1) := by decide +kernel
theorem d_L_law_491 : decode code 491 = .ok (.iload_n 3, 1) := by decide +kernel
theorem d_L_law_492 : decode code 492 = .ok (.iconst 1, 1) := by decide +kernel
theorem d_L_law_493 : decode code 493 = .ok (.iadd, 1) := by decide +kernel
theorem d_L_law_494 : decode code 494 = .ok (.iaload, 1) := by decide +kernel
theorem d_L_law_495 : decode code 495 = .ok (.invokevirtual 71, 3) := by decide +kernel
theorem d_L_law_498 : decode code 498 = .ok (.pop, 1) := by decide +kernel
theorem d_L_law_499 : decode code 499 = .ok (.aload_n 2, 1) := by decide +kernel
theorem d_L_law_500 : decode code 500 = .ok (.aload_n 0, 1) := by decide +kernel
theorem d_L_law_501 : decode code 501 = .ok (.iload_n 3, 1) := by decide +kernel
theorem d_L_law_502 : decode code 502 = .ok (.iconst 1, 1) := by decide +kernel
theorem d_L_law_503 : decode code 503 = .ok (.iadd, 1) := by decide +kernel
theorem d_L_law_504 : decode code 504 = .ok (.iaload, 1) := by decide +kernel
theorem d_L_law_505 : decode code 505 = .ok (.invokevirtual 74, 3) := by decide +kernel
theorem d_L_law_508 : decode code 508 = .ok (.pop, 1) := by decide +kernel
theorem d_L_law_509 : decode code 509 = .ok (.goto 26, 3) := by decide +kernel
theorem d_L_law_512 : decode code 512 = .ok (.aload_n 1, 1) := by decide +kernel
theorem d_L_law_513 : decode code 513 = .ok (.aload_n 0, 1) := by decide +kernel
theorem d_L_law_514 : decode code 514 = .ok (.iload_n 3, 1) := by decide +kernel
theorem d_L_law_515 : decode code 515 = .ok (.iconst 1, 1) := by decide +kernel
theorem d_L_law_516 : decode code 516 = .ok (.iadd, 1) := by decide +kernel
theorem d_L_law_517 : decode code 517 = .ok (.iaload, 1) := by decide +kernel
theorem d_L_law_518 : decode code 518 = .ok (.invokevirtual 75, 3) := by decide +kernel
theorem d_L_law_521 : decode code 521 = .ok (.pop, 1) := by decide +kernel
theorem d_L_law_522 : decode code 522 = .ok (.aload_n 2, 1) := by decide +kernel
theorem d_L_law_523 : decode code 523 = .ok (.aload_n 0, 1) := by decide +kernel
theorem d_L_law_524 : decode code 524 = .ok (.iload_n 3, 1) := by decide +kernel
theorem d_L_law_525 : decode code 525 = .ok (.iconst 1, 1) := by decide +kernel
theorem d_L_law_526 : decode code 526 = .ok (.iadd, 1) := by decide +kernel
theorem d_L_law_527 : decode code 527 = .ok (.iaload, 1) := by decide +kernel
theorem d_L_law_528 : decode code 528 = .ok (.invokevirtual 78, 3) := by decide +kernel
theorem d_L_law_531 : decode code 531 = .ok (.pop, 1) := by decide +kernel
theorem d_L_law_532 : decode code 532 = .ok (.goto 3, 3) := by decide +kernel
theorem d_L_law_535 : decode code 535 = .ok (.iinc 3 4, 3) := by decide +kernel
theorem d_L_law_538 : decode code 538 = .ok (.goto (-520), 3) := by decide +kernel
theorem d_L_law_541 : decode code 541 = .ok (.iconst 1, 1) := by decide +kernel
theorem d_L_law_542 : decode code 542 = .ok (.ireturn, 1) := by decide +kernel
end
section
theorem wb_tb (n : Nat) : (lN n).toBitVec = BitVec.ofNat 64 n := rfl
theorem wb_inj {a b : Int64} (h : a.toBitVec = b.toBitVec) : a = b := Int64.toBitVec_inj.mp h
theorem wb_tn {n : Nat} (h : n < 2 ^ 64) : (lN n).toBitVec.toNat = n := by rw [wb_tb, BitVec.toNat_ofNat, Nat.mod_eq_of_lt h]
theorem wb_of (x : Int64) : ∃ n, n < 2 ^ 64 ∧ x = lN n := ⟨x.toBitVec.toNat, x.toBitVec.isLt, wb_inj (by rw [wb_tb]; simp)⟩
theorem wb_of32 (x : Int32) : ∃ n, n < 2 ^ 32 ∧ x = nI n := ⟨x.toBitVec.toNat, x.toBitVec.isLt, Int32.toBitVec_inj.mp (by show _ = BitVec.ofNat 32 _; simp)⟩
theorem wb_c : ∀ k, k < 64 → ((nI k).toInt64 &&& 63) = lN k := by decide +kernel
theorem wb_cu : ∀ k, k < 64 → ((nI k).toInt64.toUInt64 &&& Int64.toUInt64 63) = UInt64.ofNat k := by decide +kernel
theorem wb_sm : ∀ k, k < 64 → (BitVec.ofNat 64 k).smod 64 = BitVec.ofNat 64 k := by decide +kernel
theorem wb_pw {a b : Nat} (h : a ≤ b) : 2 ^ b = 2 ^ a * 2 ^ (b - a) := by rw [← Nat.pow_add]; congr 1; omega
theorem wb_lt2 {a b : Nat} (h : a < b) : 2 ^ a < 2 ^ b := Nat.pow_lt_pow_right (by decide) h
theorem wb_mod (n : Nat) : lN n = lN (n % 2 ^ 64) := wb_inj (by rw [wb_tb, wb_tb]; apply BitVec.eq_of_toNat_eq; rw [BitVec.toNat_ofNat, BitVec.toNat_ofNat, Nat.mod_mod])
theorem wb_shr {n k : Nat} (hn : n < 2 ^ 64) (hk : k < 64) : ((lN n).toUInt64 >>> ((nI k).toInt64.toUInt64 &&& Int64.toUInt64 63)).toInt64 = lN (n / 2 ^ k) := by
  rw [wb_cu k hk]
  apply wb_inj
  apply BitVec.eq_of_toNat_eq
  show ((lN n).toUInt64 >>> UInt64.ofNat k).toNat = (BitVec.ofNat 64 _).toNat
  have h1 : (UInt64.ofNat k).toNat = k := by
    show (BitVec.ofNat 64 k).toNat = k
    rw [BitVec.toNat_ofNat, Nat.mod_eq_of_lt (by omega)]
  have h2 : (lN n).toUInt64.toNat = n := wb_tn hn
  rw [UInt64.toNat_shiftRight, h1, h2, Nat.mod_eq_of_lt hk, Nat.shiftRight_eq_div_pow, BitVec.toNat_ofNat, Nat.mod_eq_of_lt (Nat.lt_of_le_of_lt (Nat.div_le_self _ _) hn)]
theorem wb_shl (n : Nat) {k : Nat} (hk : k < 64) : lN n <<< ((nI k).toInt64 &&& 63) = lN (n * 2 ^ k) := by
  rw [wb_c k hk]
  apply wb_inj
  rw [Int64.toBitVec_shiftLeft, wb_tb, wb_tb, wb_tb, wb_sm k hk]
  apply BitVec.eq_of_toNat_eq
  rw [BitVec.shiftLeft_eq', BitVec.toNat_shiftLeft, BitVec.toNat_ofNat, BitVec.toNat_ofNat, BitVec.toNat_ofNat, Nat.mod_eq_of_lt (show k < 2 ^ 64 by omega), Nat.shiftLeft_eq, Nat.mul_mod, Nat.mod_mod, ← Nat.mul_mod]
theorem wb_and {a b : Nat} (ha : a < 2 ^ 64) (hb : b < 2 ^ 64) : lN a &&& lN b = lN (a &&& b) := by
  apply wb_inj
  rw [Int64.toBitVec_and, wb_tb, wb_tb, wb_tb]
  apply BitVec.eq_of_toNat_eq
  rw [BitVec.toNat_and, BitVec.toNat_ofNat, BitVec.toNat_ofNat, BitVec.toNat_ofNat, Nat.mod_eq_of_lt ha, Nat.mod_eq_of_lt hb, Nat.mod_eq_of_lt (Nat.and_lt_two_pow _ hb)]
theorem wb_or {a b : Nat} (ha : a < 2 ^ 64) (hb : b < 2 ^ 64) : lN a ||| lN b = lN (a ||| b) := by
  apply wb_inj
  rw [Int64.toBitVec_or, wb_tb, wb_tb, wb_tb]
  apply BitVec.eq_of_toNat_eq
  rw [BitVec.toNat_or, BitVec.toNat_ofNat, BitVec.toNat_ofNat, BitVec.toNat_ofNat, Nat.mod_eq_of_lt ha, Nat.mod_eq_of_lt hb, Nat.mod_eq_of_lt (Nat.or_lt_two_pow ha hb)]
theorem wb_mask {n k : Nat} (hn : n < 2 ^ 64) (hk : k < 64) : lN n &&& lN (2 ^ k - 1) = lN (n % 2 ^ k) := by
  rw [wb_and hn (by have := wb_lt2 hk; omega), Nat.and_two_pow_sub_one_eq_mod]
/-! Numbers, letters, words, distances: nothing of the machine. -/
theorem wg_z0 {a : Nat} (h : a < 2 ^ 31) : nI a = 0 ↔ a = 0 := by rw [← nI_0, nI_eq h (by decide)]
theorem wg_le0 {a : Nat} (h : a < 2 ^ 31) : nI a ≤ 0 ↔ a = 0 := by rw [← nI_0, nI_leI h (by decide)]; omega
theorem wg_gt0 {a : Nat} (h : a < 2 ^ 31) : 0 < nI a ↔ 0 < a := by rw [← nI_0, nI_ltI (by decide) h]
theorem wg_DleN {a b i : Nat} (ha : a < 2 ^ 30) (hb : b < 2 ^ 30) (hi : i < 2 ^ 30) : nI a - nI b ≤ nI i ↔ a ≤ i + b := by
  rw [Int32.le_iff_toInt_le, pk_sub_toInt ha hb, nI_toInt (by omega)]; omega
theorem wg_DltN {a b i : Nat} (ha : a < 2 ^ 30) (hb : b < 2 ^ 30) (hi : i < 2 ^ 30) : nI a - nI b < nI i ↔ a < i + b := by
  rw [Int32.lt_iff_toInt_lt, pk_sub_toInt ha hb, nI_toInt (by omega)]; omega
theorem wg_Deq {a m b n : Nat} (ha : a < 2 ^ 30) (hm : m < 2 ^ 30) (hb : b < 2 ^ 30) (hn : n < 2 ^ 30) : nI a - nI m = nI b - nI n ↔ a + n = b + m := by
  rw [← Int32.toInt_inj, pk_sub_toInt ha hm, pk_sub_toInt hb hn]; omega
theorem wg_min {a b : Nat} (ha : a < 2 ^ 31) (hb : b < 2 ^ 31) : (if nI b < nI a then nI b else nI a) = nI (min a b) := by
  by_cases h : b < a
  · rw [if_pos ((nI_ltI hb ha).mpr h), Nat.min_eq_right (Nat.le_of_lt h)]
  · rw [if_neg (fun q => h ((nI_ltI hb ha).mp q)), Nat.min_eq_left (Nat.not_lt.mp h)]
theorem wg_and31 (x : Nat) : nI x &&& nI 31 = nI (x % 32) := by
  rw [pk_and _ 5 (by decide)]
  show nI ((BitVec.ofNat 32 x).toNat % 2 ^ 5) = _
  rw [BitVec.toNat_ofNat]
  congr 1
  omega
theorem wg_land60 (x : Nat) : lN x &&& lN 1152921504606846975 = lN (x % 2 ^ 60) := by
  rw [wb_mod x, show (1152921504606846975 : Nat) = 2 ^ 60 - 1 from rfl, wb_mask (k := 60) (Nat.mod_lt _ (by decide)) (by decide)]
  congr 1
  omega
theorem wg_lxor {a b : Nat} (ha : a < 2 ^ 64) (hb : b < 2 ^ 64) : lN a ^^^ lN b = lN (a ^^^ b) := by
  apply wb_inj
  rw [Int64.toBitVec_xor, wb_tb, wb_tb, wb_tb]
  apply BitVec.eq_of_toNat_eq
  rw [BitVec.toNat_xor, BitVec.toNat_ofNat, BitVec.toNat_ofNat, BitVec.toNat_ofNat, Nat.mod_eq_of_lt ha, Nat.mod_eq_of_lt hb, Nat.mod_eq_of_lt (Nat.xor_lt_two_pow ha hb)]
theorem wg_lshr {n k : Nat} (hn : n < 2 ^ 63) (hk : k < 64) : lN n >>> ((nI k).toInt64 &&& 63) = lN (n / 2 ^ k) := by
  rw [wb_c k hk]
  have hd : n / 2 ^ k ≤ n := Nat.div_le_self _ _
  apply Int64.toInt_inj.mp
  have h1 : ((lN k).toBitVec.smod 64).toNat = k := by
    rw [wb_tb, wb_sm k hk, BitVec.toNat_ofNat, Nat.mod_eq_of_lt (by omega)]
  have e : ∀ (D : Int64) (d : Nat), (D.toBitVec.smod 64).toNat = d → (lN n >>> D).toInt = (lN n).toInt >>> d := by
    intro D d hD
    rw [← hD]
    exact BitVec.toInt_sshiftRight ..
  rw [e (lN k) k h1, Int.shiftRight_eq_div_pow, pk_lT hn, pk_lT (by omega)]
  rfl
theorem wg_lneg {n : Nat} (hn : n < 2 ^ 64) : lN n < lN 0 ↔ 2 ^ 63 ≤ n := by
  constructor
  · intro h
    apply Nat.not_lt.mp
    intro q
    rw [pk_lLT q (by decide)] at h
    omega
  · intro h
    rw [Int64.lt_iff_toInt_lt]
    show (BitVec.ofNat 64 n).toInt < (lN 0).toInt
    rw [pk_lT (by decide), BitVec.toInt_eq_toNat_cond, BitVec.toNat_ofNat, Nat.mod_eq_of_lt hn, if_neg (by omega)]
    omega
theorem wg_xor64 {a b : Nat} (ha : a < 2 ^ 60) (hb : b < 2 ^ 60) : a ^^^ b < 2 ^ 60 := Nat.xor_lt_two_pow ha hb
-- letters
def wg_lt (n i : Nat) : Nat := n / 2 ^ (55 - 5 * i) % 32
def wg_la (n i : Nat) : Nat := if i < 12 then wg_lt n i else 0
theorem wg_lt_le (n i : Nat) : wg_lt n i ≤ 31 := by unfold wg_lt; omega
theorem wg_la_le (n i : Nat) : wg_la n i ≤ 31 := by
  unfold wg_la
  split
  · exact wg_lt_le n i
  · omega
theorem wg_la_lt {n i : Nat} (h : i < 12) : wg_la n i = wg_lt n i := by unfold wg_la; rw [if_pos h]
theorem wg_la_12 {n i : Nat} (h : ¬ i < 12) : wg_la n i = 0 := by unfold wg_la; rw [if_neg h]
theorem wg_step12 {n t : Nat} {c : Int32} (h1 : ¬ c < nI 1) (h2 : nI (wg_la n t) = c) : t < 12 := by
  apply Nat.not_le.mp
  intro h
  rw [wg_la_12 (Nat.not_lt.mpr h)] at h2
  subst h2
  exact h1 (by decide +kernel)
/-- how far a property holds from i on, at most f steps -/
def wg_run (q : Nat → Bool) : Nat → Nat → Nat
  | 0, i => i
  | f + 1, i => if q i = true then wg_run q f (i + 1) else i
theorem wg_run_t {q : Nat → Bool} {N i : Nat} (h : i < N) (hq : q i = true) : wg_run q (N - i) i = wg_run q (N - (i + 1)) (i + 1) := by
  rw [show N - i = (N - (i + 1)) + 1 by omega, wg_run, if_pos hq]
theorem wg_run_f {q : Nat → Bool} {N i : Nat} (hq : ¬ q i = true) : wg_run q (N - i) i = i := by
  cases h : N - i with
  | zero => rfl
  | succ k => rw [wg_run, if_neg hq]
theorem wg_run_e {q : Nat → Bool} {N i : Nat} (h : N ≤ i) : wg_run q (N - i) i = i := by
  rw [show N - i = 0 by omega, wg_run]
theorem wg_run_le (q : Nat → Bool) : ∀ f i, wg_run q f i ≤ i + f := by
  intro f
  induction f with
  | zero => intro i; rw [wg_run]; omega
  | succ f ih =>
    intro i
    rw [wg_run]
    split
    · have := ih (i + 1); omega
    · omega
theorem wg_run_all (q : Nat → Bool) : ∀ f i j, i ≤ j → j < wg_run q f i → q j = true := by
  intro f
  induction f with
  | zero => intro i j h1 h2; rw [wg_run] at h2; omega
  | succ f ih =>
    intro i j h1 h2
    rw [wg_run] at h2
    split at h2
    · next hq =>
      rcases Nat.eq_or_lt_of_le h1 with rfl | h
      · exact hq
      · exact ih (i + 1) j h h2
    · omega
theorem wg_run_stop (q : Nat → Bool) : ∀ f i, wg_run q f i < i + f → ¬ q (wg_run q f i) = true := by
  intro f
  induction f with
  | zero => intro i h; rw [wg_run] at h; omega
  | succ f ih =>
    intro i h
    rw [wg_run] at h ⊢
    split
    · next hq => rw [if_pos hq] at h; exact ih (i + 1) (by omega)
    · next hq => exact hq
def wg_len (n : Nat) : Nat := wg_run (fun i => !(wg_lt n i == 0)) 12 0
theorem wg_len_le (n : Nat) : wg_len n ≤ 12 := by have := wg_run_le (fun i => !(wg_lt n i == 0)) 12 0; unfold wg_len; omega
def wg_shd (a b : Nat) : Nat := wg_run (fun i => wg_lt a i == wg_lt b i) 12 0
theorem wg_shd_le (a b : Nat) : wg_shd a b ≤ 12 := by have := wg_run_le (fun i => wg_lt a i == wg_lt b i) 12 0; unfold wg_shd; omega
/-- a word: at most 60 bits, letters up to 26, none behind a gap -/
def wg_ok (n : Nat) : Prop := n < 2 ^ 60 ∧ ∀ i, i < 12 → wg_lt n i ≤ 26 ∧ (0 < i → ¬ wg_lt n i = 0 → ¬ wg_lt n (i - 1) = 0)
theorem wg_low (n : Nat) : ∀ k, k ≤ 12 → (n % 2 ^ (5 * k) = 0 ↔ ∀ i, 12 - k ≤ i → i < 12 → wg_lt n i = 0) := by
  intro k
  induction k with
  | zero => intro _; constructor
            · intro _ i h1 h2; omega
            · intro _; simp [Nat.mod_one]
  | succ k ih =>
    intro hk
    have ih := ih (by omega)
    have e : n % 2 ^ (5 * (k + 1)) = n % 2 ^ (5 * k) + 2 ^ (5 * k) * (n / 2 ^ (5 * k) % 32) := by
      rw [show 5 * (k + 1) = 5 * k + 5 by omega, Nat.pow_add, Nat.mod_mul]
    have el : wg_lt n (12 - (k + 1)) = n / 2 ^ (5 * k) % 32 := by
      unfold wg_lt
      rw [show 55 - 5 * (12 - (k + 1)) = 5 * k by omega]
    have hp : 0 < 2 ^ (5 * k) := Nat.two_pow_pos _
    constructor
    · intro h i h1 h2
      rw [e] at h
      have ha : n % 2 ^ (5 * k) = 0 := by omega
      have hb : 2 ^ (5 * k) * (n / 2 ^ (5 * k) % 32) = 0 := by omega
      rcases Nat.eq_or_lt_of_le h1 with rfl | hlt
      · rw [el]
        rcases Nat.mul_eq_zero.mp hb with hz | hz
        · omega
        · exact hz
      · exact (ih.mp ha) i (by omega) h2
    · intro h
      rw [e, ih.mpr (fun i h1 h2 => h i (by omega) h2), ← el, h (12 - (k + 1)) (Nat.le_refl _) (by omega)]
      omega
theorem wg_rest0 {n L : Nat} (hL : L ≤ 12) : n * 2 ^ (5 * L) % 2 ^ 60 = 0 ↔ ∀ i, L ≤ i → i < 12 → wg_lt n i = 0 := by
  have e : n * 2 ^ (5 * L) % 2 ^ 60 = 2 ^ (5 * L) * (n % 2 ^ (5 * (12 - L))) := by
    rw [show (2 : Nat) ^ 60 = 2 ^ (5 * L) * 2 ^ (5 * (12 - L)) by rw [← Nat.pow_add]; congr 1; omega, Nat.mul_comm n, Nat.mul_mod_mul_left]
  have hp : 0 < 2 ^ (5 * L) := Nat.two_pow_pos _
  have h := wg_low n (12 - L) (by omega)
  rw [show 12 - (12 - L) = L by omega] at h
  rw [← h, e]
  constructor
  · intro q
    rcases Nat.mul_eq_zero.mp q with hz | hz
    · omega
    · exact hz
  · intro q
    rw [q, Nat.mul_zero]
theorem wg_len_ne {n i : Nat} (h : i < wg_len n) : ¬ wg_lt n i = 0 := by
  have := wg_run_all (fun i => !(wg_lt n i == 0)) 12 0 i (Nat.zero_le _) h
  simpa using this
theorem wg_len_z {n : Nat} (h : wg_len n < 12) : wg_lt n (wg_len n) = 0 := by
  have := wg_run_stop (fun i => !(wg_lt n i == 0)) 12 0 (by have h' : wg_len n < 12 := h; unfold wg_len at h'; omega)
  simpa [wg_len] using this
theorem wg_ok_tail {n : Nat} (h : wg_ok n) : ∀ i, wg_len n ≤ i → i < 12 → wg_lt n i = 0 := by
  intro i
  induction i with
  | zero => intro h1 h2
            have e : wg_len n = 0 := by omega
            have := wg_len_z (n := n) (by omega)
            rw [e] at this
            exact this
  | succ i ih =>
    intro h1 h2
    rcases Nat.eq_or_lt_of_le h1 with e | hlt
    · have := wg_len_z (n := n) (by omega)
      rw [e] at this
      exact this
    · have hz := ih (by omega) (by omega)
      apply Classical.byContradiction
      intro q
      have := (h.2 (i + 1) h2).2 (by omega) q
      exact this hz
theorem wg_ok_of {n : Nat} (hn : n < 2 ^ 60) (h1 : ∀ i, i < wg_len n → wg_lt n i ≤ 26) (h2 : n * 2 ^ (5 * wg_len n) % 2 ^ 60 = 0) : wg_ok n := by
  have hz := (wg_rest0 (wg_len_le n)).mp h2
  refine ⟨hn, fun i hi => ⟨?_, fun h0 hne => ?_⟩⟩
  · by_cases h : i < wg_len n
    · exact h1 i h
    · rw [hz i (by omega) hi]; omega
  · have hlt : i < wg_len n := by
      apply Nat.not_le.mp
      intro h
      exact hne (hz i h hi)
    exact wg_len_ne (by omega)
theorem wg_ok_no {n : Nat} (h2 : ¬ n * 2 ^ (5 * wg_len n) % 2 ^ 60 = 0) : ¬ wg_ok n := fun h => h2 ((wg_rest0 (wg_len_le n)).mpr (wg_ok_tail h))
theorem wg_ok_big {n i : Nat} (hi : i < 12) (h : ¬ wg_lt n i ≤ 26) : ¬ wg_ok n := fun q => h (q.2 i hi).1
-- the reference's length: how many letters aren't 0
def wg_cn (n : Nat) : Nat → Nat
  | 0 => 0
  | i + 1 => if wg_lt n i = 0 then wg_cn n i else wg_cn n i + 1
theorem wg_cn_s (n i : Nat) : (wg_lt n i = 0 → wg_cn n (i + 1) = wg_cn n i) ∧ (¬ wg_lt n i = 0 → wg_cn n (i + 1) = wg_cn n i + 1) := ⟨fun h => by rw [wg_cn, if_pos h], fun h => by rw [wg_cn, if_neg h]⟩
theorem wg_cn_le (n : Nat) : ∀ i, wg_cn n i ≤ i := by
  intro i
  induction i with
  | zero => exact Nat.le_refl _
  | succ i ih => have := wg_cn_s n i; by_cases h : wg_lt n i = 0 <;> simp only [h, true_implies, not_true, not_false_iff, false_implies, and_true, true_and] at this <;> omega
def wg_ln (n : Nat) : Nat := wg_cn n 12
theorem wg_ln_le (n : Nat) : wg_ln n ≤ 12 := wg_cn_le n 12
-- the distance's table
def wg_bt (u v : Nat) : Nat → Nat → Nat
  | 0, j => j
  | i + 1, 0 => i + 1
  | i + 1, j + 1 => min (wg_bt u v i j + (if wg_lt u i = wg_lt v j then 0 else 1)) (min (wg_bt u v i (j + 1) + 1) (wg_bt u v (i + 1) j + 1))
theorem wg_bt_0 (u v j : Nat) : wg_bt u v 0 j = j := by rw [wg_bt]
theorem wg_bt_i (u v i : Nat) : wg_bt u v i 0 = i := by cases i <;> rw [wg_bt]
theorem wg_bt_s (u v i j : Nat) : wg_bt u v (i + 1) (j + 1) = min (wg_bt u v i j + (if wg_lt u i = wg_lt v j then 0 else 1)) (min (wg_bt u v i (j + 1) + 1) (wg_bt u v (i + 1) j + 1)) := by rw [wg_bt]
theorem wg_bt_le (u v : Nat) : ∀ i j, wg_bt u v i j ≤ i + j := by
  intro i
  induction i with
  | zero => intro j; rw [wg_bt_0]; omega
  | succ i ih =>
    intro j
    induction j with
    | zero => rw [wg_bt_i]; omega
    | succ j ihj => rw [wg_bt_s]; have := ih (j + 1); omega
-- counting
def wg_cq (f : Nat → Nat) (e : Nat) : Nat → Nat
  | 0 => 0
  | k + 1 => wg_cq f e k + (if f k = e then 1 else 0)
def wg_ct (f : Nat → Nat) (e : Nat) : Nat → Nat
  | 0 => 0
  | k + 1 => wg_ct f e k + (if f k < e then 1 else 0)
theorem wg_ct_0 (f : Nat → Nat) : ∀ k, wg_ct f 0 k = 0 := by
  intro k
  induction k with
  | zero => rfl
  | succ k ih => rw [wg_ct, ih, if_neg (by omega)]
theorem wg_ct_s (f : Nat → Nat) (e : Nat) : ∀ k, wg_ct f (e + 1) k = wg_ct f e k + wg_cq f e k := by
  intro k
  induction k with
  | zero => rfl
  | succ k ih =>
    rw [wg_ct, wg_ct, wg_cq, ih]
    by_cases h1 : f k < e
    · rw [if_pos (show f k < e + 1 by omega), if_pos h1, if_neg (show ¬ f k = e by omega)]; omega
    · by_cases h2 : f k = e
      · rw [if_pos (show f k < e + 1 by omega), if_neg h1, if_pos h2]; omega
      · rw [if_neg (show ¬ f k < e + 1 by omega), if_neg h1, if_neg h2]; omega
theorem wg_cc_le (f : Nat → Nat) (e : Nat) : ∀ k, wg_ct f e k + wg_cq f e k ≤ k := by
  intro k
  induction k with
  | zero => exact Nat.le_refl _
  | succ k ih =>
    rw [wg_ct, wg_cq]
    by_cases h1 : f k < e
    · rw [if_pos h1, if_neg (show ¬ f k = e by omega)]; omega
    · rw [if_neg h1]
      split <;> omega
theorem wg_cq_mono (f : Nat → Nat) (e : Nat) {a b : Nat} (h : a ≤ b) : wg_cq f e a ≤ wg_cq f e b := by
  induction b with
  | zero => rw [show a = 0 by omega]; exact Nat.le_refl _
  | succ b ih =>
    rcases Nat.eq_or_lt_of_le h with rfl | q
    · exact Nat.le_refl _
    · rw [wg_cq]
      have := ih (by omega)
      omega
theorem wg_cc_lt {f : Nat → Nat} {e k n : Nat} (hk : k < n) (h : f k = e) : wg_ct f e n + wg_cq f e k < n := by
  have h1 := wg_cc_le f e n
  have h2 := wg_cq_mono f e (show k + 1 ≤ n by omega)
  rw [wg_cq, if_pos h] at h2
  omega
theorem wg_cq_t {f : Nat → Nat} {e k : Nat} (h : f k = e) : wg_cq f e (k + 1) = wg_cq f e k + 1 := by rw [wg_cq, if_pos h]
theorem wg_cq_f {f : Nat → Nat} {e k : Nat} (h : ¬ f k = e) : wg_cq f e (k + 1) = wg_cq f e k := by rw [wg_cq, if_neg h]; rfl
end
section
/-! The worlds of the two objects, a state of naturals for each, and rows over them. -/
abbrev wg_S : Type := Nat → Nat → Nat
def wg_st (I : wg_S) (k j v : Nat) : wg_S := fun a => if a = k then (fun b => if b = j then v else I a b) else I a
theorem wg_st_s (I : wg_S) (k j v : Nat) : wg_st I k j v k j = v := by simp [wg_st]
theorem wg_st_n (I : wg_S) (k j v : Nat) {b : Nat} (h : b ≠ j) : wg_st I k j v k b = I k b := by simp [wg_st, h]
theorem wg_st_o (I : wg_S) (k j v : Nat) {a : Nat} (h : a ≠ k) : wg_st I k j v a = I a := by simp [wg_st, h]
def wg_ai (cI : ClassId) (n : Nat) (f : Nat → Nat) : va_E := .inl (cI, n, .inl (fun j => nI (f j)))
def wg_aj (cJ : ClassId) (n : Nat) (f : Nat → Nat) : va_E := .inl (cJ, n, .inr (.inl (fun j => lN (f j))))
def wg_FX (ad : Nat → Nat) (I : wg_S) : List Value := [.ref (ad 0), .ref (ad 1), .ref (ad 2), .int (nI (I 3 0)), .int (nI (I 4 0)), .ref (ad 5), .ref (ad 6), .ref (ad 7), .int (nI (I 8 0)), .ref (ad 9), .ref (ad 10), .int (nI (I 11 0)), .ref (ad 12), .ref (ad 13)]
def wg_WX (cJ cI : ClassId) (h0 : Nat) (ad : Nat → Nat) (I : wg_S) : va_W := [(h0, .inr (0, wg_FX ad I)), (ad 0, wg_aj cJ 48 (I 0)), (ad 1, wg_ai cI 48 (I 1)), (ad 2, wg_ai cI 48 (I 2)), (ad 5, wg_ai cI 624 (I 5)), (ad 6, wg_ai cI 577 (I 6)), (ad 7, wg_ai cI 577 (I 7)), (ad 9, wg_ai cI 48 (I 9)), (ad 10, wg_ai cI 48 (I 10)), (ad 12, wg_ai cI 169 (I 12)), (ad 13, wg_ai cI 48 (I 13))]
def wg_FM (ad : Nat → Nat) (I : wg_S) : List Value := [.ref (ad 0), .int (nI (I 1 0)), .int (nI (I 2 0)), .int (nI (I 3 0)), .ref (ad 4), .ref (ad 5), .ref (ad 6), .ref (ad 7), .ref (ad 8), .int (nI (I 9 0)), .ref (ad 10)]
def wg_WM (cJ cI : ClassId) (h0 : Nat) (ad : Nat → Nat) (I : wg_S) : va_W := [(h0, .inr (1, wg_FM ad I)), (ad 0, wg_aj cJ 48 (I 0)), (ad 4, wg_ai cI 48 (I 4)), (ad 5, wg_ai cI 48 (I 5)), (ad 6, wg_ai cI 624 (I 6)), (ad 7, wg_ai cI 625 (I 7)), (ad 8, wg_ai cI 625 (I 8)), (ad 10, wg_ai cI 169 (I 10))]
def wg_W0 (_ : wg_S) : va_W := []
abbrev wg_cl : List vw_C := [(R_X, F_X, 14), (R_M, F_M, 11)]
abbrev wg_ty (cJ cI : ClassId) : List (ClassId × FieldType) := [(cJ, .long), (cI, .int)]
def wg_ws (y : MethodName) (b : ByteArray) (n : Nat) (ret : Option FieldType) : List Cond := .code y b n ret :: wg_tbl
theorem wg_good (w : Cond) (h : w ∈ wg_tbl) : (w.onTables && w.keeps) = true ∨ ∃ ty, w = .arrayClass ty := by
  have h1 := (List.mem_filter.mp h).2
  by_cases hc : k2_isCode w = true
  · cases w <;> first | (simp [k2_isCode] at hc; done) | exact Or.inl rfl
  · simp only [Bool.or_eq_true] at h1
    exact good_of_word (h1.resolve_left hc)
theorem wg_GI {y : MethodName} {b : ByteArray} {n : Nat} {ret : Option FieldType} (h : Cond.code y b n ret ∈ wg_tbl) : GoodIn wg_tbl (wg_ws y b n ret) := by
  intro w hw
  rcases List.mem_cons.mp hw with rfl | hw
  · exact ⟨h, Or.inl rfl⟩
  · exact ⟨hw, wg_good w hw⟩
/-- what a call of y by the pool's place 'index' of own needs of the tables -/
def wg_OKb (own : String) (index : Nat) (y : MethodName) (b : ByteArray) (maxL : Nat) (ret : Option FieldType) (n : Nat) : Prop :=
  Cond.code y b maxL ret ∈ wg_tbl ∧ Cond.methodLink own index y ∈ wg_tbl ∧ Cond.initialized y.cls ∈ wg_tbl ∧ (y.cls ≠ "java/lang/invoke/MethodHandle" ∧ y.cls ≠ "java/lang/invoke/VarHandle" ∧ (parseMethodDescriptor y.desc).map (fun d => d.parameters.length) = some n)
def wg_OKs (own : String) (index : Nat) (y : MethodName) (b : ByteArray) (maxL : Nat) (ret : Option FieldType) (n : Nat) : Prop := wg_OKb own index y b maxL ret n ∧ Cond.static y ∈ wg_tbl
def wg_OKv (own : String) (index : Nat) (y : MethodName) (b : ByteArray) (maxL : Nat) (ret : Option FieldType) (n : Nat) : Prop := wg_OKb own index y b maxL ret n ∧ Cond.instanceMethod y ∈ wg_tbl ∧ Cond.selects y.cls y y ∈ wg_tbl
/-- a contract's start -/
def wg_Pc (D : va_G) (cJ cI : ClassId) (ws : va_W) (sz : Nat) (U : State) : Prop := U.heap.size = sz ∧ va_P D wg_cl ws U.heap ∧ va_K D wg_cl (wg_ty cJ cI) U ∧ va_D (fun _ => True) ws
theorem wg_blind {D : va_G} {cJ cI : ClassId} {ws : va_W} {sz : Nat} {av : List Value} : FrameBlind (va_Pc av (wg_Pc D cJ cI ws sz)) := fun a U g mk q => by
  obtain ⟨q0, q1, qP, qK, qD⟩ := q
  exact ⟨q0, q1, qP, va_K.moved (u := U) (U := U.calling g mk a) (Vm.Alike.refl U.vm) qK, qD⟩
theorem wg_pre {D : va_G} {cJ cI : ClassId} {ws : va_W} {av : List Value} {s : State} {H : Heap} {A : Nat → Prop} (hK : va_K D wg_cl (wg_ty cJ cI) s) (hP : va_P D wg_cl ws H) (hD : va_D A ws) : ∀ U : State, U.heap = H → s.WarmedH U.vm → va_Pc av (wg_Pc D cJ cI ws H.size) av.toArray U :=
  fun U hU hW => ⟨rfl, by rw [hU], by rw [hU]; exact hP, va_K.moved hW.alike hK, hD.weaken (fun _ _ _ _ => trivial)⟩
theorem wg_free {A : Nat → Prop} {ws : va_W} {H0 H : Heap} {locs : List Loc} (hD : va_D A ws) (hS : va_S A H0 H locs) (hA : ∀ q, H0.size ≤ q → A q) : ∀ q, va_A ws H.size q → A q := by
  rintro q (⟨k, e, h⟩ | h)
  · exact hD.2 k _ h
  · exact hA q (Nat.le_trans hS.1 h)
/-- worlds of the same addresses -/
def wg_same (w1 w2 : va_W) : Prop := w1.map (fun q => q.1) = w2.map (fun q => q.1)
theorem wg_same_at {w1 w2 : va_W} (h : wg_same w1 w2) {k : Nat} {q : Nat × va_E} (hq : w2[k]? = some q) : ∃ r, w1[k]? = some r ∧ r.1 = q.1 := by
  have h1 : (w1.map (fun q => q.1))[k]? = some q.1 := by
    have h0 : w1.map (fun q => q.1) = w2.map (fun q => q.1) := h
    rw [h0, List.getElem?_map, hq]
    rfl
  rw [List.getElem?_map] at h1
  cases hw : w1[k]? with
  | none => rw [hw] at h1; cases h1
  | some r => rw [hw] at h1; exact ⟨r, rfl, Option.some.inj h1⟩
theorem wg_same_D {w1 w2 : va_W} {A : Nat → Prop} (h : wg_same w1 w2) (hD : va_D A w1) : va_D A w2 := by
  refine ⟨fun i j p q hp hq e => ?_, fun k q hk => ?_⟩
  · obtain ⟨p', h1, e1⟩ := wg_same_at h hp
    obtain ⟨q', h2, e2⟩ := wg_same_at h hq
    exact hD.1 i j p' q' h1 h2 (by rw [e1, e2, e])
  · obtain ⟨r, h1, e1⟩ := wg_same_at h hk
    rw [← e1]
    exact hD.2 k r h1
theorem wg_same_X {cJ cI : ClassId} {h0 : Nat} {ad : Nat → Nat} (I J : wg_S) : wg_same (wg_WX cJ cI h0 ad I) (wg_WX cJ cI h0 ad J) := rfl
theorem wg_same_M {cJ cI : ClassId} {h0 : Nat} {ad : Nat → Nat} (I J : wg_S) : wg_same (wg_WM cJ cI h0 ad I) (wg_WM cJ cI h0 ad J) := rfl
theorem wg_same_0 (I J : wg_S) : wg_same (wg_W0 I) (wg_W0 J) := rfl
theorem wg_h {D : va_G} {ws : va_W} {t : State} {H : Heap} (ht : t.heap = H) (hP : va_P D wg_cl ws H) : va_P D wg_cl ws t.heap := by rw [ht]; exact hP
/-- the head of any method over a world -/
theorem wg_head {l : Launch} {y : MethodName} {b : ByteArray} {nL mc ms : Nat} {ret : Option FieldType} {rm : Room} {D : va_G} {cJ cI : ClassId} {Wd : wg_S → va_W} {I : wg_S} {sz : Nat} {av : List Value} (Qf : (Nat → Prop) → Array Value → State → Outcome → State → Prop) (C : String) (hy : plainName y.cls = true) (hC : y.cls = C) (hlen : (lg_sl av).length ≤ nL) (hWd : ∀ I J, wg_same (Wd I) (Wd J))
    (body : ∀ (p : Program) (e : Env) (s : State) (m : MethodId) (below : List Frame) (meth : Method) (c : Code) (A : Nat → Prop) (ls : Array Slot), p.tables.exec = Jvm.exec → c.code = b → meth.sig.returnType = ret → meth.locks = false → c.maxLocals = nL → s.vm.findClass C = some m.cls → meth.name = y.name → (∀ w ∈ wg_tbl, w.before av.toArray s = true) →
      (∀ q, s.heap.size ≤ q → A q) → va_K D wg_cl (wg_ty cJ cI) s → (∀ J, va_D A (Wd J)) → va_P D wg_cl (Wd I) s.heap → va_S A s.heap s.heap [] → lv_has ls nL (lv_args 0 av) → s.heap.size = sz →
      W p l e (headSpec (wg_ws y b nL ret) rm).room s m av.toArray below meth c s.heap [] 0 0 (MQ below (Qf A) av.toArray s mc ms A) (F0 m 0 ls [])) :
    Met l y (wg_ws y b nL ret) rm (va_Pc av (wg_Pc D cJ cI (Wd I) sz)) (Qf (va_A (Wd I) sz)) mc ms (va_A (Wd I) sz) := by
  refine Met.ofW (cc := b) (maxL := nL) (ret := ret) hy rfl ?_
  intro p e s m args below meth c s₁ B hml hv
  obtain ⟨rfl, hsz, hP, hK, hD0⟩ := hv
  have hts := atoms_spec (ws := wg_ws y b nL ret) B.pre
  have hown : s.vm.findClass C = some m.cls := hC ▸ findClass_of_methodNamed B.named
  have hl := lv_entry av (n := nL) hlen
  rw [lg_entry_eq]
  subst hsz
  exact body p e s m below meth c (va_A (Wd I) s.heap.size) _ B.exec B.bytes B.returns B.notSynchronized hml hown (name_of_methodNamed B.named B.method).1 (fun w h => hts w (List.mem_cons_of_mem _ h)) (fun q h => Or.inr h) hK (fun J => wg_same_D (hWd I J) (hD0.self (sz := s.heap.size))) hP va_S.rf hl rfl
section WG
variable {p : Program} {l : Launch} {e : Env} {R : Room} {s : State} {m : MethodId} {args : Array Value} {below : List Frame} {meth : Method} {c : Code} {H : Heap} {locs : List Loc} {cells slots : Nat} {Q : State → Prop}
variable {cc : ByteArray} {pc : Nat} {ls : Array Slot} {rest : List Value} {D : va_G} {A : Nat → Prop} {a : Nat} {cJ cI : ClassId} {ws : va_W} {H0 : Heap}
/-- a loop: three naturals and a state that change, a measure that falls -/
theorem wg_loop (Inv : Nat → Nat → Nat → wg_S → Heap → List Loc → Array Slot → Prop) (mu : Nat → Nat → Nat → wg_S → Nat)
    (step : ∀ (x y z : Nat) (I : wg_S) (H : Heap) (locs : List Loc) (ls : Array Slot), Inv x y z I H locs ls → (∀ (x' y' z' : Nat) (I' : wg_S) (H' : Heap) (locs' : List Loc) (ls' : Array Slot), Inv x' y' z' I' H' locs' ls' → mu x' y' z' I' < mu x y z I → W p l e R s m args below meth c H' locs' cells slots Q (F0 m pc ls' rest)) → W p l e R s m args below meth c H locs cells slots Q (F0 m pc ls rest))
    (x y z : Nat) (I : wg_S) (H : Heap) (locs : List Loc) (ls : Array Slot) (h : Inv x y z I H locs ls) : W p l e R s m args below meth c H locs cells slots Q (F0 m pc ls rest) := by
  have key : ∀ (n x y z : Nat) (I : wg_S) (H : Heap) (locs : List Loc) (ls : Array Slot), mu x y z I < n → Inv x y z I H locs ls → W p l e R s m args below meth c H locs cells slots Q (F0 m pc ls rest) := by
    intro n
    induction n with
    | zero => intro x y z I H locs ls h; omega
    | succ n ih => intro x y z I H locs ls h hI; exact step x y z I H locs ls hI (fun x' y' z' I' H' locs' ls' hI' hm => ih x' y' z' I' H' locs' ls' (by omega) hI')
  exact key _ x y z I H locs ls (Nat.lt_succ_self _) h
theorem wg_ild (hx : p.tables.exec = Jvm.exec) (hb : c.code = cc) (hK : va_K D wg_cl (wg_ty cJ cI) s) (hP : va_P D wg_cl ws H) (q0 : Nat) {n : Nat} {f : Nat → Nat} (ha : ws[q0]? = some (a, wg_ai cI n f)) {j : Nat} (hj : j < n) (hn : n < 2 ^ 31) (hdg : decode cc pc = .ok (.iaload, 1))
    (kk : W p l e R s m args below meth c H locs cells slots Q (F0 m (pc + 1) ls (.int (nI (f j)) :: rest))) : W p l e R s m args below meth c H locs cells slots Q (F0 m pc ls (.int (nI j) :: .ref a :: rest)) := by
  refine va_iald hx hb hK hP q0 1 (f := fun j => nI (f j)) ha rfl (vp_in_nI hj hn) hdg ?_
  rw [nI_clamp (Nat.lt_trans hj hn)]
  exact kk
theorem wg_lld (hx : p.tables.exec = Jvm.exec) (hb : c.code = cc) (hK : va_K D wg_cl (wg_ty cJ cI) s) (hP : va_P D wg_cl ws H) (q0 : Nat) {n : Nat} {f : Nat → Nat} (ha : ws[q0]? = some (a, wg_aj cJ n f)) {j : Nat} (hj : j < n) (hn : n < 2 ^ 31) (hdg : decode cc pc = .ok (.laload, 1))
    (kk : W p l e R s m args below meth c H locs cells slots Q (F0 m (pc + 1) ls (.long (lN (f j)) :: rest))) : W p l e R s m args below meth c H locs cells slots Q (F0 m pc ls (.int (nI j) :: .ref a :: rest)) := by
  refine va_lald hx hb hK hP q0 0 (f := fun j => lN (f j)) ha rfl (vp_in_nI hj hn) hdg ?_
  rw [nI_clamp (Nat.lt_trans hj hn)]
  exact kk
theorem wg_ist (hx : p.tables.exec = Jvm.exec) (hb : c.code = cc) (hK : va_K D wg_cl (wg_ty cJ cI) s) (hP : va_P D wg_cl ws H) (hD : va_D A ws) (hS : va_S A H0 H locs) (q0 : Nat) {n : Nat} {f : Nat → Nat} (ha : ws[q0]? = some (a, wg_ai cI n f)) {j x : Nat} (hj : j < n) (hn : n < 2 ^ 31) (hdg : decode cc pc = .ok (.iastore, 1))
    (kk : ∀ (H1 : Heap) (locs1 : List Loc), va_P D wg_cl (ws.set q0 (a, wg_ai cI n (fun b => if b = j then x else f b))) H1 → va_S A H0 H1 locs1 → W p l e R s m args below meth c H1 locs1 cells slots Q (F0 m (pc + 1) ls rest)) : W p l e R s m args below meth c H locs cells slots Q (F0 m pc ls (.int (nI x) :: .int (nI j) :: .ref a :: rest)) := by
  refine va_iast hx hb hK hP hD hS q0 1 (f := fun j => nI (f j)) ha rfl (vp_in_nI hj hn) hdg (fun H1 locs1 h1 _ h3 => kk H1 locs1 ?_ h3)
  have e : upd (fun j => nI (f j)) (nI j).toNatClampNeg (nI x) = fun b => nI (if b = j then x else f b) := by
    funext b
    rw [nI_clamp (Nat.lt_trans hj hn)]
    unfold upd
    split <;> rfl
  rw [e] at h1
  exact h1
theorem wg_lst (hx : p.tables.exec = Jvm.exec) (hb : c.code = cc) (hK : va_K D wg_cl (wg_ty cJ cI) s) (hP : va_P D wg_cl ws H) (hD : va_D A ws) (hS : va_S A H0 H locs) (q0 : Nat) {n : Nat} {f : Nat → Nat} (ha : ws[q0]? = some (a, wg_aj cJ n f)) {j x : Nat} (hj : j < n) (hn : n < 2 ^ 31) (hdg : decode cc pc = .ok (.lastore, 1))
    (kk : ∀ (H1 : Heap) (locs1 : List Loc), va_P D wg_cl (ws.set q0 (a, wg_aj cJ n (fun b => if b = j then x else f b))) H1 → va_S A H0 H1 locs1 → W p l e R s m args below meth c H1 locs1 cells slots Q (F0 m (pc + 1) ls rest)) : W p l e R s m args below meth c H locs cells slots Q (F0 m pc ls (.long (lN x) :: .int (nI j) :: .ref a :: rest)) := by
  refine va_last hx hb hK hP hD hS q0 0 (f := fun j => lN (f j)) ha rfl (vp_in_nI hj hn) hdg (fun H1 locs1 h1 _ h3 => kk H1 locs1 ?_ h3)
  have e : vp_updL (fun j => lN (f j)) (nI j).toNatClampNeg (lN x) = fun b => lN (if b = j then x else f b) := by
    funext b
    rw [nI_clamp (Nat.lt_trans hj hn)]
    unfold vp_updL
    split <;> rfl
  rw [e] at h1
  exact h1
theorem wg_kept {H1 : Heap} (hP : va_P D wg_cl ws H) (h : ∀ q : Nat, q < H.size → ¬ va_A (wg_W0 fun _ _ => 0) H.size q → H1[q]? = H[q]?) : va_P D wg_cl ws H1 := hP.kept (fun k q hk => h q.1 (hP k q hk).lt (by
  rintro (⟨k', e', h'⟩ | h')
  · cases h'
  · exact absurd (hP k q hk).lt (Nat.not_lt.mpr h')))
section CALLS
variable {own : String} {index maxL n nL : Nat} {y : MethodName} {bytes : ByteArray} {ret : Option FieldType} {rm : Room} {As st0 : List Value} {St : Type} {ci h0 : Nat} {fs : List Value}
theorem wg_runs {Pc : Array Value → State → Prop} {Qc : Array Value → State → Outcome → State → Prop} {free : Addr → Prop} (hx : p.tables.exec = Jvm.exec) (hb : c.code = cc) (hml : c.maxLocals = nL) (hown : s.vm.findClass own = some m.cls) (hts : ∀ w ∈ wg_tbl, w.before args s = true) (hM : Met l y (wg_ws y bytes maxL ret) rm Pc Qc 0 0 free) (ok : wg_OKs own index y bytes maxL ret n) (hp : PreS s H Pc As) (hrc : rm.cells = 0 ∧ rm.slots = 0) (hR : rm.frames + 1 ≤ R.frames ∧ 8 + (maxL + 11) + rm.locals ≤ R.locals) (hn : As.length = n) (hsz : ls.size = nL) (hst : st0 = As.reverse ++ rest) (hrm : (rest.map fun v => v.category).sum ≤ 8) (hdg : decode cc pc = .ok (.invokestatic index, 3)) (hcs : cells ≤ R.cells ∧ slots ≤ R.slots) :
    va_Run p l e R s m args below meth c H locs cells slots 0 0 (F0 m pc ls st0) rest (Qc As.toArray) free := by
  obtain ⟨⟨h1, h2, h3, h4⟩, h5⟩ := ok
  exact va_runS ⟨hx, hb, hml, hown, hts⟩ hM ⟨callB_of n hts (wg_GI h1) rfl hrc.1 hrc.2 (hts _ h3) (hts _ h2) h4 hR, hts _ h5⟩ hp rfl hn hsz hst (lv_room hrm) hdg hcs
theorem wg_runv {Pc : Array Value → State → Prop} {Qc : Array Value → State → Outcome → State → Prop} {free : Addr → Prop} (hx : p.tables.exec = Jvm.exec) (hb : c.code = cc) (hml : c.maxLocals = nL) (hown : s.vm.findClass own = some m.cls) (hts : ∀ w ∈ wg_tbl, w.before args s = true) (hM : Met l y (wg_ws y bytes maxL ret) rm Pc Qc 0 0 free) (ok : wg_OKv own index y bytes maxL ret n) (hp : PreV s H y.cls a Pc As) (hrc : rm.cells = 0 ∧ rm.slots = 0) (hR : rm.frames + 1 ≤ R.frames ∧ 8 + (maxL + 11) + rm.locals ≤ R.locals) (hn : As.length = n) (hsz : ls.size = nL) (hst : st0 = As.reverse ++ .ref a :: rest) (hrm : (rest.map fun v => v.category).sum ≤ 8) (hdg : decode cc pc = .ok (.invokevirtual index, 3)) (hcs : cells ≤ R.cells ∧ slots ≤ R.slots) :
    va_Run p l e R s m args below meth c H locs cells slots 0 0 (F0 m pc ls st0) rest (Qc (Value.ref a :: As).toArray) free := by
  obtain ⟨⟨h1, h2, h3, h4⟩, h5, h6⟩ := ok
  exact va_runV ⟨hx, hb, hml, hown, hts⟩ hM ⟨callB_of n hts (wg_GI h1) rfl hrc.1 hrc.2 (hts _ h3) (hts _ h2) h4 hR, hts _ h5, hts _ h6⟩ hp rfl hn hsz hst (lv_room hrm) hdg hcs
/-- a static call that answers an int -/
theorem wg_csi {post : Int32 → Unit → Prop} (hx : p.tables.exec = Jvm.exec) (hb : c.code = cc) (hml : c.maxLocals = nL) (hown : s.vm.findClass own = some m.cls) (hts : ∀ w ∈ wg_tbl, w.before args s = true) (hK : va_K D wg_cl (wg_ty cJ cI) s) (hP : va_P D wg_cl ws H) (hS : va_S A H0 H locs) (hA : ∀ q, H0.size ≤ q → A q)
    (hM : Met l y (wg_ws y bytes maxL ret) rm (va_Pc As (wg_Pc D cJ cI (wg_W0 fun _ _ => 0) H.size)) (va_Qi post (fun (_ : Unit) _ => True) (va_A (wg_W0 fun _ _ => 0) H.size)) 0 0 (va_A (wg_W0 fun _ _ => 0) H.size))
    (ok : wg_OKs own index y bytes maxL ret n) (hrc : rm.cells = 0 ∧ rm.slots = 0) (hR : rm.frames + 1 ≤ R.frames ∧ 8 + (maxL + 11) + rm.locals ≤ R.locals) (hn : As.length = n) (hsz : ls.size = nL) (hst : st0 = As.reverse ++ rest) (hrm : (rest.map fun v => v.category).sum ≤ 8) (hdg : decode cc pc = .ok (.invokestatic index, 3)) (hcs : cells ≤ R.cells ∧ slots ≤ R.slots)
    (kk : ∀ (r : Int32) (H1 : Heap) (locs1 : List Loc), post r () → va_P D wg_cl ws H1 → va_S A H0 H1 locs1 → W p l e R s m args below meth c H1 locs1 cells slots Q (F0 m (pc + 3) ls (.int r :: rest))) : W p l e R s m args below meth c H locs cells slots Q (F0 m pc ls st0) := by
  have hF : ∀ q, va_A (wg_W0 fun _ _ => 0) H.size q → A q := by
    rintro q (⟨k', e', h'⟩ | h')
    · cases h'
    · exact hA q (Nat.le_trans hS.1 h')
  have hD0 : va_D A (wg_W0 fun _ _ => 0) := ⟨fun i j p q h => (by cases h), fun k q h => (by cases h)⟩
  have hP0 : va_P D wg_cl (wg_W0 fun _ _ => 0) H := fun k q h => by cases h
  exact va_calli (wg_runs hx hb hml hown hts hM ok ⟨wg_blind, wg_pre hK hP0 hD0⟩ hrc hR hn hsz hst hrm hdg hcs) hS (fun q _ h => hF q h) hF (fun r u t H1 locs1 ht hvm hq hB hz1 hk1 hS1 => kk r H1 locs1 hq (wg_kept hP hk1) hS1)
/-- a static call that answers a long -/
theorem wg_csl {post : Int64 → Unit → Prop} (hx : p.tables.exec = Jvm.exec) (hb : c.code = cc) (hml : c.maxLocals = nL) (hown : s.vm.findClass own = some m.cls) (hts : ∀ w ∈ wg_tbl, w.before args s = true) (hK : va_K D wg_cl (wg_ty cJ cI) s) (hP : va_P D wg_cl ws H) (hS : va_S A H0 H locs) (hA : ∀ q, H0.size ≤ q → A q)
    (hM : Met l y (wg_ws y bytes maxL ret) rm (va_Pc As (wg_Pc D cJ cI (wg_W0 fun _ _ => 0) H.size)) (va_Ql post (fun (_ : Unit) _ => True) (va_A (wg_W0 fun _ _ => 0) H.size)) 0 0 (va_A (wg_W0 fun _ _ => 0) H.size))
    (ok : wg_OKs own index y bytes maxL ret n) (hrc : rm.cells = 0 ∧ rm.slots = 0) (hR : rm.frames + 1 ≤ R.frames ∧ 8 + (maxL + 11) + rm.locals ≤ R.locals) (hn : As.length = n) (hsz : ls.size = nL) (hst : st0 = As.reverse ++ rest) (hrm : (rest.map fun v => v.category).sum ≤ 8) (hdg : decode cc pc = .ok (.invokestatic index, 3)) (hcs : cells ≤ R.cells ∧ slots ≤ R.slots)
    (kk : ∀ (r : Int64) (H1 : Heap) (locs1 : List Loc), post r () → va_P D wg_cl ws H1 → va_S A H0 H1 locs1 → W p l e R s m args below meth c H1 locs1 cells slots Q (F0 m (pc + 3) ls (.long r :: rest))) : W p l e R s m args below meth c H locs cells slots Q (F0 m pc ls st0) := by
  have hF : ∀ q, va_A (wg_W0 fun _ _ => 0) H.size q → A q := by
    rintro q (⟨k', e', h'⟩ | h')
    · cases h'
    · exact hA q (Nat.le_trans hS.1 h')
  have hD0 : va_D A (wg_W0 fun _ _ => 0) := ⟨fun i j p q h => (by cases h), fun k q h => (by cases h)⟩
  have hP0 : va_P D wg_cl (wg_W0 fun _ _ => 0) H := fun k q h => by cases h
  exact va_calll (wg_runs hx hb hml hown hts hM ok ⟨wg_blind, wg_pre hK hP0 hD0⟩ hrc hR hn hsz hst hrm hdg hcs) hS (fun q _ h => hF q h) hF (fun r u t H1 locs1 ht hvm hq hB hz1 hk1 hS1 => kk r H1 locs1 hq (wg_kept hP hk1) hS1)
/-- a call on an object whose whole world is handed in, answers: int, long, none -/
theorem wg_cvi {post : Int32 → St → Prop} {Bw : St → State → Prop} {qc : vw_C} (hx : p.tables.exec = Jvm.exec) (hb : c.code = cc) (hml : c.maxLocals = nL) (hown : s.vm.findClass own = some m.cls) (hts : ∀ w ∈ wg_tbl, w.before args s = true) (hK : va_K D wg_cl (wg_ty cJ cI) s) (hP : va_P D wg_cl ws H) (hD : va_D A ws) (hS : va_S A H0 H locs) (hA : ∀ q, H0.size ≤ q → A q) (hc : wg_cl[ci]? = some qc) (hqy : qc.1 = y.cls) (he : ws[0]? = some (a, .inr (ci, fs)))
    (hM : Met l y (wg_ws y bytes maxL ret) rm (va_Pc (.ref a :: As) (wg_Pc D cJ cI ws H.size)) (va_Qi post Bw (va_A ws H.size)) 0 0 (va_A ws H.size))
    (ok : wg_OKv own index y bytes maxL ret n) (hrc : rm.cells = 0 ∧ rm.slots = 0) (hR : rm.frames + 1 ≤ R.frames ∧ 8 + (maxL + 11) + rm.locals ≤ R.locals) (hn : As.length = n) (hsz : ls.size = nL) (hst : st0 = As.reverse ++ .ref a :: rest) (hrm : (rest.map fun v => v.category).sum ≤ 8) (hdg : decode cc pc = .ok (.invokevirtual index, 3)) (hcs : cells ≤ R.cells ∧ slots ≤ R.slots)
    (kk : ∀ (r : Int32) (u : St) (t : State) (H1 : Heap) (locs1 : List Loc), t.heap = H1 → post r u → Bw u t → H.size ≤ H1.size → (∀ q : Nat, q < H.size → ¬ va_A ws H.size q → H1[q]? = H[q]?) → va_S A H0 H1 locs1 → W p l e R s m args below meth c H1 locs1 cells slots Q (F0 m (pc + 3) ls (.int r :: rest))) : W p l e R s m args below meth c H locs cells slots Q (F0 m pc ls st0) :=
  va_calli (wg_runv hx hb hml hown hts hM ok ⟨wg_blind, hqy ▸ va_recv hK hP hc he, wg_pre hK hP hD⟩ hrc hR hn hsz hst hrm hdg hcs) hS (fun q _ h => wg_free hD hS hA q h) (wg_free hD hS hA) (fun r u t H1 locs1 ht hvm hq hB hz1 hk1 hS1 => kk r u t H1 locs1 ht hq hB hz1 hk1 hS1)
theorem wg_cvl {post : Int64 → St → Prop} {Bw : St → State → Prop} {qc : vw_C} (hx : p.tables.exec = Jvm.exec) (hb : c.code = cc) (hml : c.maxLocals = nL) (hown : s.vm.findClass own = some m.cls) (hts : ∀ w ∈ wg_tbl, w.before args s = true) (hK : va_K D wg_cl (wg_ty cJ cI) s) (hP : va_P D wg_cl ws H) (hD : va_D A ws) (hS : va_S A H0 H locs) (hA : ∀ q, H0.size ≤ q → A q) (hc : wg_cl[ci]? = some qc) (hqy : qc.1 = y.cls) (he : ws[0]? = some (a, .inr (ci, fs)))
    (hM : Met l y (wg_ws y bytes maxL ret) rm (va_Pc (.ref a :: As) (wg_Pc D cJ cI ws H.size)) (va_Ql post Bw (va_A ws H.size)) 0 0 (va_A ws H.size))
    (ok : wg_OKv own index y bytes maxL ret n) (hrc : rm.cells = 0 ∧ rm.slots = 0) (hR : rm.frames + 1 ≤ R.frames ∧ 8 + (maxL + 11) + rm.locals ≤ R.locals) (hn : As.length = n) (hsz : ls.size = nL) (hst : st0 = As.reverse ++ .ref a :: rest) (hrm : (rest.map fun v => v.category).sum ≤ 8) (hdg : decode cc pc = .ok (.invokevirtual index, 3)) (hcs : cells ≤ R.cells ∧ slots ≤ R.slots)
    (kk : ∀ (r : Int64) (u : St) (t : State) (H1 : Heap) (locs1 : List Loc), t.heap = H1 → post r u → Bw u t → H.size ≤ H1.size → (∀ q : Nat, q < H.size → ¬ va_A ws H.size q → H1[q]? = H[q]?) → va_S A H0 H1 locs1 → W p l e R s m args below meth c H1 locs1 cells slots Q (F0 m (pc + 3) ls (.long r :: rest))) : W p l e R s m args below meth c H locs cells slots Q (F0 m pc ls st0) :=
  va_calll (wg_runv hx hb hml hown hts hM ok ⟨wg_blind, hqy ▸ va_recv hK hP hc he, wg_pre hK hP hD⟩ hrc hR hn hsz hst hrm hdg hcs) hS (fun q _ h => wg_free hD hS hA q h) (wg_free hD hS hA) (fun r u t H1 locs1 ht hvm hq hB hz1 hk1 hS1 => kk r u t H1 locs1 ht hq hB hz1 hk1 hS1)
theorem wg_cvv {post : St → Prop} {Bw : St → State → Prop} {qc : vw_C} (hx : p.tables.exec = Jvm.exec) (hb : c.code = cc) (hml : c.maxLocals = nL) (hown : s.vm.findClass own = some m.cls) (hts : ∀ w ∈ wg_tbl, w.before args s = true) (hK : va_K D wg_cl (wg_ty cJ cI) s) (hP : va_P D wg_cl ws H) (hD : va_D A ws) (hS : va_S A H0 H locs) (hA : ∀ q, H0.size ≤ q → A q) (hc : wg_cl[ci]? = some qc) (hqy : qc.1 = y.cls) (he : ws[0]? = some (a, .inr (ci, fs)))
    (hM : Met l y (wg_ws y bytes maxL ret) rm (va_Pc (.ref a :: As) (wg_Pc D cJ cI ws H.size)) (va_Qv post Bw (va_A ws H.size)) 0 0 (va_A ws H.size))
    (ok : wg_OKv own index y bytes maxL ret n) (hrc : rm.cells = 0 ∧ rm.slots = 0) (hR : rm.frames + 1 ≤ R.frames ∧ 8 + (maxL + 11) + rm.locals ≤ R.locals) (hn : As.length = n) (hsz : ls.size = nL) (hst : st0 = As.reverse ++ .ref a :: rest) (hrm : (rest.map fun v => v.category).sum ≤ 8) (hdg : decode cc pc = .ok (.invokevirtual index, 3)) (hcs : cells ≤ R.cells ∧ slots ≤ R.slots)
    (kk : ∀ (u : St) (t : State) (H1 : Heap) (locs1 : List Loc), t.heap = H1 → post u → Bw u t → H.size ≤ H1.size → (∀ q : Nat, q < H.size → ¬ va_A ws H.size q → H1[q]? = H[q]?) → va_S A H0 H1 locs1 → W p l e R s m args below meth c H1 locs1 cells slots Q (F0 m (pc + 3) ls rest)) : W p l e R s m args below meth c H locs cells slots Q (F0 m pc ls st0) :=
  va_callv (wg_runv hx hb hml hown hts hM ok ⟨wg_blind, hqy ▸ va_recv hK hP hc he, wg_pre hK hP hD⟩ hrc hR hn hsz hst hrm hdg hcs) hS (fun q _ h => wg_free hD hS hA q h) (wg_free hD hS hA) (fun u t H1 locs1 ht hvm hq hB hz1 hk1 hS1 => kk u t H1 locs1 ht hq hB hz1 hk1 hS1)
end CALLS
theorem wg_newi (hx : p.tables.exec = Jvm.exec) (hb : c.code = cc) (hts : ∀ w ∈ wg_tbl, w.before args s = true) (harr : Cond.arrayClass .int ∈ wg_tbl) (hK : va_K D wg_cl (wg_ty cJ cI) s) (hP : va_P D wg_cl ws H) (hD : va_D A ws) (hS : va_S A H0 H locs) (hA : ∀ q, H0.size ≤ q → A q) {N : Nat} (hN : N < 2 ^ 20) (hcells : cells + 1 ≤ R.cells) (hslots : slots + N ≤ R.slots) (hdg : decode cc pc = .ok (.newarray .int, 2))
    (kk : ∀ (q : Nat) (H1 : Heap), va_P D wg_cl (ws ++ [(q, wg_ai cI N (fun _ => 0))]) H1 → va_D A (ws ++ [(q, wg_ai cI N (fun _ => 0))]) → va_S A H0 H1 locs → W p l e R s m args below meth c H1 locs (cells + 1) (slots + N) Q (F0 m (pc + 2) ls (.ref q :: rest))) : W p l e R s m args below meth c H locs cells slots Q (F0 m pc ls (.int (nI N) :: rest)) := by
  refine va_newa (atype := .int) (a0 := (N, .inl (fun _ => nI 0))) hx hb (hts _ harr) rfl hK hP hD hS hA (fun cA => ?_) (nI_pos (by omega)) (nI_clamp (by omega)) (by show N * 4 ≤ _; omega) hcells hslots hdg (fun q cA H1 hK1 hP1 hD1 hS1 => ?_)
  · rw [vp_cell_i, nI_0]; rfl
  · have e : cA = cI := by
      have h1 : s.vm.findClass ("[" ++ FieldType.int.toString) = some cA := (hK1.2 2 (cA, .int) rfl).2
      have h2 : s.vm.findClass ("[" ++ FieldType.int.toString) = some cI := (hK.2 1 (cI, .int) rfl).2
      exact Option.some.inj (h1.symm.trans h2)
    subst e
    exact kk q H1 hP1 hD1 hS1
theorem wg_newj (hx : p.tables.exec = Jvm.exec) (hb : c.code = cc) (hts : ∀ w ∈ wg_tbl, w.before args s = true) (harr : Cond.arrayClass .long ∈ wg_tbl) (hK : va_K D wg_cl (wg_ty cJ cI) s) (hP : va_P D wg_cl ws H) (hD : va_D A ws) (hS : va_S A H0 H locs) (hA : ∀ q, H0.size ≤ q → A q) {N : Nat} (hN : N < 2 ^ 20) (hcells : cells + 1 ≤ R.cells) (hslots : slots + N ≤ R.slots) (hdg : decode cc pc = .ok (.newarray .long, 2))
    (kk : ∀ (q : Nat) (H1 : Heap), va_P D wg_cl (ws ++ [(q, wg_aj cJ N (fun _ => 0))]) H1 → va_D A (ws ++ [(q, wg_aj cJ N (fun _ => 0))]) → va_S A H0 H1 locs → W p l e R s m args below meth c H1 locs (cells + 1) (slots + N) Q (F0 m (pc + 2) ls (.ref q :: rest))) : W p l e R s m args below meth c H locs cells slots Q (F0 m pc ls (.int (nI N) :: rest)) := by
  refine va_newa (atype := .long) (a0 := (N, .inr (.inl (fun _ => lN 0)))) hx hb (hts _ harr) rfl hK hP hD hS hA (fun cA => ?_) (nI_pos (by omega)) (nI_clamp (by omega)) (by show N * 8 ≤ _; omega) hcells hslots hdg (fun q cA H1 hK1 hP1 hD1 hS1 => ?_)
  · rw [vp_cell_l]; rfl
  · have e : cA = cJ := by
      have h1 : s.vm.findClass ("[" ++ FieldType.long.toString) = some cA := (hK1.2 2 (cA, .long) rfl).2
      have h2 : s.vm.findClass ("[" ++ FieldType.long.toString) = some cJ := (hK.2 0 (cJ, .long) rfl).2
      exact Option.some.inj (h1.symm.trans h2)
    subst e
    exact kk q H1 hP1 hD1 hS1
end WG
def wg_Z : wg_S := fun _ _ => 0
def wg_BX : List Value := [.null, .null, .null, .int (nI 0), .int (nI 0), .null, .null, .null, .int (nI 0), .null, .null, .int (nI 0), .null, .null]
def wg_BM : List Value := [.null, .int (nI 0), .int (nI 0), .int (nI 0), .null, .null, .null, .null, .null, .int (nI 0), .null]
def wg_cX : wg_S := wg_st (wg_st (wg_st (wg_st wg_Z 3 0 0) 4 0 0) 8 0 0) 11 0 0
def wg_cM : wg_S := wg_st wg_Z 1 0 0
theorem kc_X_41 : wg_OKv R_X 41 y_X_clear b_X_clear 1 none 0 := ⟨⟨kd_X_clear, List.mem_filter.mpr ⟨List.mem_append_right _ (List.mem_of_getElem? (i := 12) (by decide +kernel)), rfl⟩, kz_X, by decide +kernel⟩, List.mem_filter.mpr ⟨List.mem_append_right _ (List.mem_of_getElem? (i := 13) (by decide +kernel)), rfl⟩, List.mem_filter.mpr ⟨List.mem_append_right _ (List.mem_of_getElem? (i := 14) (by decide +kernel)), rfl⟩⟩
theorem kc_X_48 : wg_OKs R_X 48 y_X_isWord b_X_isWord 4 (some .boolean) 1 := ⟨⟨kd_X_isWord, List.mem_filter.mpr ⟨List.mem_append_right _ (List.mem_of_getElem? (i := 65) (by decide +kernel)), rfl⟩, kz_X, by decide +kernel⟩, List.mem_filter.mpr ⟨List.mem_append_right _ (List.mem_of_getElem? (i := 66) (by decide +kernel)), rfl⟩⟩
theorem kc_X_56 : wg_OKs R_X 56 y_X_lengthOf b_X_lengthOf 3 (some .int) 1 := ⟨⟨kd_X_lengthOf, List.mem_filter.mpr ⟨List.mem_append_right _ (List.mem_of_getElem? (i := 69) (by decide +kernel)), rfl⟩, kz_X, by decide +kernel⟩, List.mem_filter.mpr ⟨List.mem_append_right _ (List.mem_of_getElem? (i := 70) (by decide +kernel)), rfl⟩⟩
theorem kc_X_60 : wg_OKs R_X 60 y_X_sharedLetters b_X_sharedLetters 5 (some .int) 2 := ⟨⟨kd_X_sharedLetters, List.mem_filter.mpr ⟨List.mem_append_right _ (List.mem_of_getElem? (i := 78) (by decide +kernel)), rfl⟩, kz_X, by decide +kernel⟩, List.mem_filter.mpr ⟨List.mem_append_right _ (List.mem_of_getElem? (i := 79) (by decide +kernel)), rfl⟩⟩
theorem kc_X_64 : wg_OKv R_X 64 y_X_makeNode b_X_makeNode 3 (some .int) 2 := ⟨⟨kd_X_makeNode, List.mem_filter.mpr ⟨List.mem_append_right _ (List.mem_of_getElem? (i := 85) (by decide +kernel)), rfl⟩, kz_X, by decide +kernel⟩, List.mem_filter.mpr ⟨List.mem_append_right _ (List.mem_of_getElem? (i := 87) (by decide +kernel)), rfl⟩, List.mem_filter.mpr ⟨List.mem_append_left _ (List.mem_of_getElem? (i := 0) (by decide +kernel)), rfl⟩⟩
theorem kc_X_68 : wg_OKv R_X 68 y_X_numberBeginnings b_X_numberBeginnings 4 none 1 := ⟨⟨kd_X_numberBeginnings, List.mem_filter.mpr ⟨List.mem_append_right _ (List.mem_of_getElem? (i := 89) (by decide +kernel)), rfl⟩, kz_X, by decide +kernel⟩, List.mem_filter.mpr ⟨List.mem_append_right _ (List.mem_of_getElem? (i := 91) (by decide +kernel)), rfl⟩, List.mem_filter.mpr ⟨List.mem_append_left _ (List.mem_of_getElem? (i := 1) (by decide +kernel)), rfl⟩⟩
theorem kc_X_78 : wg_OKv R_X 78 y_X_hasWord b_X_hasWord 2 (some .boolean) 1 := ⟨⟨kd_X_hasWord, List.mem_filter.mpr ⟨List.mem_append_right _ (List.mem_of_getElem? (i := 114) (by decide +kernel)), rfl⟩, kz_X, by decide +kernel⟩, List.mem_filter.mpr ⟨List.mem_append_right _ (List.mem_of_getElem? (i := 116) (by decide +kernel)), rfl⟩, List.mem_filter.mpr ⟨List.mem_append_left _ (List.mem_of_getElem? (i := 5) (by decide +kernel)), rfl⟩⟩
theorem kc_X_84 : wg_OKv R_X 84 y_X_hasNode b_X_hasNode 2 (some .boolean) 1 := ⟨⟨kd_X_hasNode, List.mem_filter.mpr ⟨List.mem_append_right _ (List.mem_of_getElem? (i := 131) (by decide +kernel)), rfl⟩, kz_X, by decide +kernel⟩, List.mem_filter.mpr ⟨List.mem_append_right _ (List.mem_of_getElem? (i := 133) (by decide +kernel)), rfl⟩, List.mem_filter.mpr ⟨List.mem_append_left _ (List.mem_of_getElem? (i := 6) (by decide +kernel)), rfl⟩⟩
theorem kc_X_87 : wg_OKv R_X 87 y_X_beginsAs b_X_beginsAs 4 (some .boolean) 3 := ⟨⟨kd_X_beginsAs, List.mem_filter.mpr ⟨List.mem_append_right _ (List.mem_of_getElem? (i := 101) (by decide +kernel)), rfl⟩, kz_X, by decide +kernel⟩, List.mem_filter.mpr ⟨List.mem_append_right _ (List.mem_of_getElem? (i := 103) (by decide +kernel)), rfl⟩, List.mem_filter.mpr ⟨List.mem_append_left _ (List.mem_of_getElem? (i := 4) (by decide +kernel)), rfl⟩⟩
theorem kc_X_91 : wg_OKs R_X 91 y_X_letterAt b_X_letterAt 3 (some .int) 2 := ⟨⟨kd_X_letterAt, List.mem_filter.mpr ⟨List.mem_append_right _ (List.mem_of_getElem? (i := 72) (by decide +kernel)), rfl⟩, kz_X, by decide +kernel⟩, List.mem_filter.mpr ⟨List.mem_append_right _ (List.mem_of_getElem? (i := 73) (by decide +kernel)), rfl⟩⟩
theorem kc_X_95 : wg_OKv R_X 95 y_X_fillFirstRow b_X_fillFirstRow 3 none 1 := ⟨⟨kd_X_fillFirstRow, List.mem_filter.mpr ⟨List.mem_append_right _ (List.mem_of_getElem? (i := 147) (by decide +kernel)), rfl⟩, kz_X, by decide +kernel⟩, List.mem_filter.mpr ⟨List.mem_append_right _ (List.mem_of_getElem? (i := 149) (by decide +kernel)), rfl⟩, List.mem_filter.mpr ⟨List.mem_append_left _ (List.mem_of_getElem? (i := 7) (by decide +kernel)), rfl⟩⟩
theorem kc_X_98 : wg_OKv R_X 98 y_X_farOfWord b_X_farOfWord 7 (some .int) 4 := ⟨⟨kd_X_farOfWord, List.mem_filter.mpr ⟨List.mem_append_right _ (List.mem_of_getElem? (i := 151) (by decide +kernel)), rfl⟩, kz_X, by decide +kernel⟩, List.mem_filter.mpr ⟨List.mem_append_right _ (List.mem_of_getElem? (i := 153) (by decide +kernel)), rfl⟩, List.mem_filter.mpr ⟨List.mem_append_left _ (List.mem_of_getElem? (i := 8) (by decide +kernel)), rfl⟩⟩
theorem kc_X_102 : wg_OKv R_X 102 y_X_measureAll b_X_measureAll 5 none 1 := ⟨⟨kd_X_measureAll, List.mem_filter.mpr ⟨List.mem_append_right _ (List.mem_of_getElem? (i := 166) (by decide +kernel)), rfl⟩, kz_X, by decide +kernel⟩, List.mem_filter.mpr ⟨List.mem_append_right _ (List.mem_of_getElem? (i := 168) (by decide +kernel)), rfl⟩, List.mem_filter.mpr ⟨List.mem_append_left _ (List.mem_of_getElem? (i := 10) (by decide +kernel)), rfl⟩⟩
theorem kc_X_106 : wg_OKv R_X 106 y_X_takeResults b_X_takeResults 3 none 1 := ⟨⟨kd_X_takeResults, List.mem_filter.mpr ⟨List.mem_append_right _ (List.mem_of_getElem? (i := 173) (by decide +kernel)), rfl⟩, kz_X, by decide +kernel⟩, List.mem_filter.mpr ⟨List.mem_append_right _ (List.mem_of_getElem? (i := 175) (by decide +kernel)), rfl⟩, List.mem_filter.mpr ⟨List.mem_append_left _ (List.mem_of_getElem? (i := 11) (by decide +kernel)), rfl⟩⟩
theorem kc_X_109 : wg_OKv R_X 109 y_X_hasResult b_X_hasResult 2 (some .boolean) 1 := ⟨⟨kd_X_hasResult, List.mem_filter.mpr ⟨List.mem_append_right _ (List.mem_of_getElem? (i := 181) (by decide +kernel)), rfl⟩, kz_X, by decide +kernel⟩, List.mem_filter.mpr ⟨List.mem_append_right _ (List.mem_of_getElem? (i := 183) (by decide +kernel)), rfl⟩, List.mem_filter.mpr ⟨List.mem_append_left _ (List.mem_of_getElem? (i := 12) (by decide +kernel)), rfl⟩⟩
theorem kc_X_114 : wg_OKs R_X 114 y_X_restOf b_X_restOf 3 (some .long) 2 := ⟨⟨kd_X_restOf, List.mem_filter.mpr ⟨List.mem_append_right _ (List.mem_of_getElem? (i := 75) (by decide +kernel)), rfl⟩, kz_X, by decide +kernel⟩, List.mem_filter.mpr ⟨List.mem_append_right _ (List.mem_of_getElem? (i := 76) (by decide +kernel)), rfl⟩⟩
theorem kc_X_118 : wg_OKv R_X 118 y_X_earlierNode b_X_earlierNode 6 (some .int) 2 := ⟨⟨kd_X_earlierNode, List.mem_filter.mpr ⟨List.mem_append_right _ (List.mem_of_getElem? (i := 93) (by decide +kernel)), rfl⟩, kz_X, by decide +kernel⟩, List.mem_filter.mpr ⟨List.mem_append_right _ (List.mem_of_getElem? (i := 95) (by decide +kernel)), rfl⟩, List.mem_filter.mpr ⟨List.mem_append_left _ (List.mem_of_getElem? (i := 2) (by decide +kernel)), rfl⟩⟩
theorem kc_X_121 : wg_OKv R_X 121 y_X_sameEndings b_X_sameEndings 8 (some .boolean) 4 := ⟨⟨kd_X_sameEndings, List.mem_filter.mpr ⟨List.mem_append_right _ (List.mem_of_getElem? (i := 97) (by decide +kernel)), rfl⟩, kz_X, by decide +kernel⟩, List.mem_filter.mpr ⟨List.mem_append_right _ (List.mem_of_getElem? (i := 99) (by decide +kernel)), rfl⟩, List.mem_filter.mpr ⟨List.mem_append_left _ (List.mem_of_getElem? (i := 3) (by decide +kernel)), rfl⟩⟩
theorem kc_X_130 : wg_OKv R_X 130 y_X_fillRow b_X_fillRow 11 none 4 := ⟨⟨kd_X_fillRow, List.mem_filter.mpr ⟨List.mem_append_right _ (List.mem_of_getElem? (i := 155) (by decide +kernel)), rfl⟩, kz_X, by decide +kernel⟩, List.mem_filter.mpr ⟨List.mem_append_right _ (List.mem_of_getElem? (i := 157) (by decide +kernel)), rfl⟩, List.mem_filter.mpr ⟨List.mem_append_left _ (List.mem_of_getElem? (i := 9) (by decide +kernel)), rfl⟩⟩
theorem kc_M_36 : wg_OKs R_M 36 y_M_letter b_M_letter 3 (some .int) 2 := ⟨⟨kd_M_letter, List.mem_filter.mpr ⟨List.mem_append_right _ (List.mem_of_getElem? (i := 236) (by decide +kernel)), rfl⟩, kz_M, by decide +kernel⟩, List.mem_filter.mpr ⟨List.mem_append_right _ (List.mem_of_getElem? (i := 237) (by decide +kernel)), rfl⟩⟩
theorem kc_M_44 : wg_OKs R_M 44 y_M_isWord b_M_isWord 3 (some .boolean) 1 := ⟨⟨kd_M_isWord, List.mem_filter.mpr ⟨List.mem_append_right _ (List.mem_of_getElem? (i := 233) (by decide +kernel)), rfl⟩, kz_M, by decide +kernel⟩, List.mem_filter.mpr ⟨List.mem_append_right _ (List.mem_of_getElem? (i := 234) (by decide +kernel)), rfl⟩⟩
theorem kc_M_48 : wg_OKv R_M 48 y_M_share b_M_share 5 (some .boolean) 3 := ⟨⟨kd_M_share, List.mem_filter.mpr ⟨List.mem_append_right _ (List.mem_of_getElem? (i := 254) (by decide +kernel)), rfl⟩, kz_M, by decide +kernel⟩, List.mem_filter.mpr ⟨List.mem_append_right _ (List.mem_of_getElem? (i := 256) (by decide +kernel)), rfl⟩, List.mem_filter.mpr ⟨List.mem_append_left _ (List.mem_of_getElem? (i := 15) (by decide +kernel)), rfl⟩⟩
theorem kc_M_52 : wg_OKs R_M 52 y_M_length b_M_length 4 (some .int) 1 := ⟨⟨kd_M_length, List.mem_filter.mpr ⟨List.mem_append_right _ (List.mem_of_getElem? (i := 243) (by decide +kernel)), rfl⟩, kz_M, by decide +kernel⟩, List.mem_filter.mpr ⟨List.mem_append_right _ (List.mem_of_getElem? (i := 244) (by decide +kernel)), rfl⟩⟩
theorem kc_M_56 : wg_OKv R_M 56 y_M_also b_M_also 8 (some .boolean) 4 := ⟨⟨kd_M_also, List.mem_filter.mpr ⟨List.mem_append_right _ (List.mem_of_getElem? (i := 258) (by decide +kernel)), rfl⟩, kz_M, by decide +kernel⟩, List.mem_filter.mpr ⟨List.mem_append_right _ (List.mem_of_getElem? (i := 260) (by decide +kernel)), rfl⟩, List.mem_filter.mpr ⟨List.mem_append_left _ (List.mem_of_getElem? (i := 16) (by decide +kernel)), rfl⟩⟩
theorem kc_M_63 : wg_OKv R_M 63 y_M_within b_M_within 6 (some .boolean) 4 := ⟨⟨kd_M_within, List.mem_filter.mpr ⟨List.mem_append_right _ (List.mem_of_getElem? (i := 250) (by decide +kernel)), rfl⟩, kz_M, by decide +kernel⟩, List.mem_filter.mpr ⟨List.mem_append_right _ (List.mem_of_getElem? (i := 252) (by decide +kernel)), rfl⟩, List.mem_filter.mpr ⟨List.mem_append_left _ (List.mem_of_getElem? (i := 14) (by decide +kernel)), rfl⟩⟩
theorem kc_M_66 : wg_OKv R_M 66 y_M_nodeOf b_M_nodeOf 4 (some .int) 2 := ⟨⟨kd_M_nodeOf, List.mem_filter.mpr ⟨List.mem_append_right _ (List.mem_of_getElem? (i := 246) (by decide +kernel)), rfl⟩, kz_M, by decide +kernel⟩, List.mem_filter.mpr ⟨List.mem_append_right _ (List.mem_of_getElem? (i := 248) (by decide +kernel)), rfl⟩, List.mem_filter.mpr ⟨List.mem_append_left _ (List.mem_of_getElem? (i := 13) (by decide +kernel)), rfl⟩⟩
theorem kc_M_75 : wg_OKv R_M 75 y_M_isNode b_M_isNode 2 (some .boolean) 1 := ⟨⟨kd_M_isNode, List.mem_filter.mpr ⟨List.mem_append_right _ (List.mem_of_getElem? (i := 287) (by decide +kernel)), rfl⟩, kz_M, by decide +kernel⟩, List.mem_filter.mpr ⟨List.mem_append_right _ (List.mem_of_getElem? (i := 289) (by decide +kernel)), rfl⟩, List.mem_filter.mpr ⟨List.mem_append_left _ (List.mem_of_getElem? (i := 17) (by decide +kernel)), rfl⟩⟩
theorem kc_M_79 : wg_OKv R_M 79 y_M_between b_M_between 10 (some .int) 2 := ⟨⟨kd_M_between, List.mem_filter.mpr ⟨List.mem_append_right _ (List.mem_of_getElem? (i := 303) (by decide +kernel)), rfl⟩, kz_M, by decide +kernel⟩, List.mem_filter.mpr ⟨List.mem_append_right _ (List.mem_of_getElem? (i := 305) (by decide +kernel)), rfl⟩, List.mem_filter.mpr ⟨List.mem_append_left _ (List.mem_of_getElem? (i := 18) (by decide +kernel)), rfl⟩⟩
theorem kc_L_15 : wg_OKv R_law 15 y_X_add b_X_add 3 (some .int) 1 := ⟨⟨kd_X_add, List.mem_filter.mpr ⟨List.mem_append_right _ (List.mem_of_getElem? (i := 61) (by decide +kernel)), rfl⟩, kz_X, by decide +kernel⟩, List.mem_filter.mpr ⟨List.mem_append_right _ (List.mem_of_getElem? (i := 62) (by decide +kernel)), rfl⟩, List.mem_filter.mpr ⟨List.mem_append_right _ (List.mem_of_getElem? (i := 63) (by decide +kernel)), rfl⟩⟩
theorem kc_L_19 : wg_OKv R_law 19 y_M_add b_M_add 3 (some .int) 1 := ⟨⟨kd_M_add, List.mem_filter.mpr ⟨List.mem_append_right _ (List.mem_of_getElem? (i := 229) (by decide +kernel)), rfl⟩, kz_M, by decide +kernel⟩, List.mem_filter.mpr ⟨List.mem_append_right _ (List.mem_of_getElem? (i := 230) (by decide +kernel)), rfl⟩, List.mem_filter.mpr ⟨List.mem_append_right _ (List.mem_of_getElem? (i := 231) (by decide +kernel)), rfl⟩⟩
theorem kc_L_20 : wg_OKv R_law 20 y_X_seal b_X_seal 2 (some .boolean) 0 := ⟨⟨kd_X_seal, List.mem_filter.mpr ⟨List.mem_append_right _ (List.mem_of_getElem? (i := 81) (by decide +kernel)), rfl⟩, kz_X, by decide +kernel⟩, List.mem_filter.mpr ⟨List.mem_append_right _ (List.mem_of_getElem? (i := 82) (by decide +kernel)), rfl⟩, List.mem_filter.mpr ⟨List.mem_append_right _ (List.mem_of_getElem? (i := 83) (by decide +kernel)), rfl⟩⟩
theorem kc_L_24 : wg_OKv R_law 24 y_M_seal b_M_seal 3 (some .boolean) 0 := ⟨⟨kd_M_seal, List.mem_filter.mpr ⟨List.mem_append_right _ (List.mem_of_getElem? (i := 239) (by decide +kernel)), rfl⟩, kz_M, by decide +kernel⟩, List.mem_filter.mpr ⟨List.mem_append_right _ (List.mem_of_getElem? (i := 240) (by decide +kernel)), rfl⟩, List.mem_filter.mpr ⟨List.mem_append_right _ (List.mem_of_getElem? (i := 241) (by decide +kernel)), rfl⟩⟩
theorem kc_L_25 : wg_OKv R_law 25 y_X_clear b_X_clear 1 none 0 := ⟨⟨kd_X_clear, List.mem_filter.mpr ⟨List.mem_append_right _ (List.mem_of_getElem? (i := 105) (by decide +kernel)), rfl⟩, kz_X, by decide +kernel⟩, List.mem_filter.mpr ⟨List.mem_append_right _ (List.mem_of_getElem? (i := 13) (by decide +kernel)), rfl⟩, List.mem_filter.mpr ⟨List.mem_append_right _ (List.mem_of_getElem? (i := 14) (by decide +kernel)), rfl⟩⟩
theorem kc_L_28 : wg_OKv R_law 28 y_M_clear b_M_clear 1 none 0 := ⟨⟨kd_M_clear, List.mem_filter.mpr ⟨List.mem_append_right _ (List.mem_of_getElem? (i := 262) (by decide +kernel)), rfl⟩, kz_M, by decide +kernel⟩, List.mem_filter.mpr ⟨List.mem_append_right _ (List.mem_of_getElem? (i := 263) (by decide +kernel)), rfl⟩, List.mem_filter.mpr ⟨List.mem_append_right _ (List.mem_of_getElem? (i := 264) (by decide +kernel)), rfl⟩⟩
theorem kc_L_29 : wg_OKv R_law 29 y_X_size b_X_size 1 (some .int) 0 := ⟨⟨kd_X_size, List.mem_filter.mpr ⟨List.mem_append_right _ (List.mem_of_getElem? (i := 106) (by decide +kernel)), rfl⟩, kz_X, by decide +kernel⟩, List.mem_filter.mpr ⟨List.mem_append_right _ (List.mem_of_getElem? (i := 107) (by decide +kernel)), rfl⟩, List.mem_filter.mpr ⟨List.mem_append_right _ (List.mem_of_getElem? (i := 108) (by decide +kernel)), rfl⟩⟩
theorem kc_L_33 : wg_OKv R_law 33 y_M_size b_M_size 1 (some .int) 0 := ⟨⟨kd_M_size, List.mem_filter.mpr ⟨List.mem_append_right _ (List.mem_of_getElem? (i := 266) (by decide +kernel)), rfl⟩, kz_M, by decide +kernel⟩, List.mem_filter.mpr ⟨List.mem_append_right _ (List.mem_of_getElem? (i := 267) (by decide +kernel)), rfl⟩, List.mem_filter.mpr ⟨List.mem_append_right _ (List.mem_of_getElem? (i := 268) (by decide +kernel)), rfl⟩⟩
theorem kc_L_34 : wg_OKv R_law 34 y_X_word b_X_word 2 (some .long) 1 := ⟨⟨kd_X_word, List.mem_filter.mpr ⟨List.mem_append_right _ (List.mem_of_getElem? (i := 110) (by decide +kernel)), rfl⟩, kz_X, by decide +kernel⟩, List.mem_filter.mpr ⟨List.mem_append_right _ (List.mem_of_getElem? (i := 111) (by decide +kernel)), rfl⟩, List.mem_filter.mpr ⟨List.mem_append_right _ (List.mem_of_getElem? (i := 112) (by decide +kernel)), rfl⟩⟩
theorem kc_L_38 : wg_OKv R_law 38 y_M_word b_M_word 2 (some .long) 1 := ⟨⟨kd_M_word, List.mem_filter.mpr ⟨List.mem_append_right _ (List.mem_of_getElem? (i := 270) (by decide +kernel)), rfl⟩, kz_M, by decide +kernel⟩, List.mem_filter.mpr ⟨List.mem_append_right _ (List.mem_of_getElem? (i := 271) (by decide +kernel)), rfl⟩, List.mem_filter.mpr ⟨List.mem_append_right _ (List.mem_of_getElem? (i := 272) (by decide +kernel)), rfl⟩⟩
theorem kc_L_39 : wg_OKv R_law 39 y_X_find b_X_find 4 (some .int) 1 := ⟨⟨kd_X_find, List.mem_filter.mpr ⟨List.mem_append_right _ (List.mem_of_getElem? (i := 119) (by decide +kernel)), rfl⟩, kz_X, by decide +kernel⟩, List.mem_filter.mpr ⟨List.mem_append_right _ (List.mem_of_getElem? (i := 120) (by decide +kernel)), rfl⟩, List.mem_filter.mpr ⟨List.mem_append_right _ (List.mem_of_getElem? (i := 121) (by decide +kernel)), rfl⟩⟩
theorem kc_L_42 : wg_OKv R_law 42 y_M_find b_M_find 4 (some .int) 1 := ⟨⟨kd_M_find, List.mem_filter.mpr ⟨List.mem_append_right _ (List.mem_of_getElem? (i := 275) (by decide +kernel)), rfl⟩, kz_M, by decide +kernel⟩, List.mem_filter.mpr ⟨List.mem_append_right _ (List.mem_of_getElem? (i := 276) (by decide +kernel)), rfl⟩, List.mem_filter.mpr ⟨List.mem_append_right _ (List.mem_of_getElem? (i := 277) (by decide +kernel)), rfl⟩⟩
theorem kc_L_43 : wg_OKv R_law 43 y_X_nodes b_X_nodes 1 (some .int) 0 := ⟨⟨kd_X_nodes, List.mem_filter.mpr ⟨List.mem_append_right _ (List.mem_of_getElem? (i := 123) (by decide +kernel)), rfl⟩, kz_X, by decide +kernel⟩, List.mem_filter.mpr ⟨List.mem_append_right _ (List.mem_of_getElem? (i := 124) (by decide +kernel)), rfl⟩, List.mem_filter.mpr ⟨List.mem_append_right _ (List.mem_of_getElem? (i := 125) (by decide +kernel)), rfl⟩⟩
theorem kc_L_46 : wg_OKv R_law 46 y_M_nodes b_M_nodes 1 (some .int) 0 := ⟨⟨kd_M_nodes, List.mem_filter.mpr ⟨List.mem_append_right _ (List.mem_of_getElem? (i := 279) (by decide +kernel)), rfl⟩, kz_M, by decide +kernel⟩, List.mem_filter.mpr ⟨List.mem_append_right _ (List.mem_of_getElem? (i := 280) (by decide +kernel)), rfl⟩, List.mem_filter.mpr ⟨List.mem_append_right _ (List.mem_of_getElem? (i := 281) (by decide +kernel)), rfl⟩⟩
theorem kc_L_47 : wg_OKv R_law 47 y_X_step b_X_step 6 (some .int) 2 := ⟨⟨kd_X_step, List.mem_filter.mpr ⟨List.mem_append_right _ (List.mem_of_getElem? (i := 127) (by decide +kernel)), rfl⟩, kz_X, by decide +kernel⟩, List.mem_filter.mpr ⟨List.mem_append_right _ (List.mem_of_getElem? (i := 128) (by decide +kernel)), rfl⟩, List.mem_filter.mpr ⟨List.mem_append_right _ (List.mem_of_getElem? (i := 129) (by decide +kernel)), rfl⟩⟩
theorem kc_L_51 : wg_OKv R_law 51 y_M_step b_M_step 4 (some .int) 2 := ⟨⟨kd_M_step, List.mem_filter.mpr ⟨List.mem_append_right _ (List.mem_of_getElem? (i := 283) (by decide +kernel)), rfl⟩, kz_M, by decide +kernel⟩, List.mem_filter.mpr ⟨List.mem_append_right _ (List.mem_of_getElem? (i := 284) (by decide +kernel)), rfl⟩, List.mem_filter.mpr ⟨List.mem_append_right _ (List.mem_of_getElem? (i := 285) (by decide +kernel)), rfl⟩⟩
theorem kc_L_52 : wg_OKv R_law 52 y_X_ends b_X_ends 3 (some .boolean) 1 := ⟨⟨kd_X_ends, List.mem_filter.mpr ⟨List.mem_append_right _ (List.mem_of_getElem? (i := 135) (by decide +kernel)), rfl⟩, kz_X, by decide +kernel⟩, List.mem_filter.mpr ⟨List.mem_append_right _ (List.mem_of_getElem? (i := 136) (by decide +kernel)), rfl⟩, List.mem_filter.mpr ⟨List.mem_append_right _ (List.mem_of_getElem? (i := 137) (by decide +kernel)), rfl⟩⟩
theorem kc_L_56 : wg_OKv R_law 56 y_M_ends b_M_ends 3 (some .boolean) 1 := ⟨⟨kd_M_ends, List.mem_filter.mpr ⟨List.mem_append_right _ (List.mem_of_getElem? (i := 291) (by decide +kernel)), rfl⟩, kz_M, by decide +kernel⟩, List.mem_filter.mpr ⟨List.mem_append_right _ (List.mem_of_getElem? (i := 292) (by decide +kernel)), rfl⟩, List.mem_filter.mpr ⟨List.mem_append_right _ (List.mem_of_getElem? (i := 293) (by decide +kernel)), rfl⟩⟩
theorem kc_L_57 : wg_OKv R_law 57 y_X_endings b_X_endings 5 (some .int) 1 := ⟨⟨kd_X_endings, List.mem_filter.mpr ⟨List.mem_append_right _ (List.mem_of_getElem? (i := 139) (by decide +kernel)), rfl⟩, kz_X, by decide +kernel⟩, List.mem_filter.mpr ⟨List.mem_append_right _ (List.mem_of_getElem? (i := 140) (by decide +kernel)), rfl⟩, List.mem_filter.mpr ⟨List.mem_append_right _ (List.mem_of_getElem? (i := 141) (by decide +kernel)), rfl⟩⟩
theorem kc_L_61 : wg_OKv R_law 61 y_M_endings b_M_endings 4 (some .int) 1 := ⟨⟨kd_M_endings, List.mem_filter.mpr ⟨List.mem_append_right _ (List.mem_of_getElem? (i := 295) (by decide +kernel)), rfl⟩, kz_M, by decide +kernel⟩, List.mem_filter.mpr ⟨List.mem_append_right _ (List.mem_of_getElem? (i := 296) (by decide +kernel)), rfl⟩, List.mem_filter.mpr ⟨List.mem_append_right _ (List.mem_of_getElem? (i := 297) (by decide +kernel)), rfl⟩⟩
theorem kc_L_62 : wg_OKv R_law 62 y_X_distance b_X_distance 5 (some .int) 2 := ⟨⟨kd_X_distance, List.mem_filter.mpr ⟨List.mem_append_right _ (List.mem_of_getElem? (i := 143) (by decide +kernel)), rfl⟩, kz_X, by decide +kernel⟩, List.mem_filter.mpr ⟨List.mem_append_right _ (List.mem_of_getElem? (i := 144) (by decide +kernel)), rfl⟩, List.mem_filter.mpr ⟨List.mem_append_right _ (List.mem_of_getElem? (i := 145) (by decide +kernel)), rfl⟩⟩
theorem kc_L_66 : wg_OKv R_law 66 y_M_distance b_M_distance 4 (some .int) 2 := ⟨⟨kd_M_distance, List.mem_filter.mpr ⟨List.mem_append_right _ (List.mem_of_getElem? (i := 299) (by decide +kernel)), rfl⟩, kz_M, by decide +kernel⟩, List.mem_filter.mpr ⟨List.mem_append_right _ (List.mem_of_getElem? (i := 300) (by decide +kernel)), rfl⟩, List.mem_filter.mpr ⟨List.mem_append_right _ (List.mem_of_getElem? (i := 301) (by decide +kernel)), rfl⟩⟩
theorem kc_L_67 : wg_OKv R_law 67 y_X_search b_X_search 5 (some .int) 2 := ⟨⟨kd_X_search, List.mem_filter.mpr ⟨List.mem_append_right _ (List.mem_of_getElem? (i := 162) (by decide +kernel)), rfl⟩, kz_X, by decide +kernel⟩, List.mem_filter.mpr ⟨List.mem_append_right _ (List.mem_of_getElem? (i := 163) (by decide +kernel)), rfl⟩, List.mem_filter.mpr ⟨List.mem_append_right _ (List.mem_of_getElem? (i := 164) (by decide +kernel)), rfl⟩⟩
theorem kc_L_70 : wg_OKv R_law 70 y_M_search b_M_search 6 (some .int) 2 := ⟨⟨kd_M_search, List.mem_filter.mpr ⟨List.mem_append_right _ (List.mem_of_getElem? (i := 307) (by decide +kernel)), rfl⟩, kz_M, by decide +kernel⟩, List.mem_filter.mpr ⟨List.mem_append_right _ (List.mem_of_getElem? (i := 308) (by decide +kernel)), rfl⟩, List.mem_filter.mpr ⟨List.mem_append_right _ (List.mem_of_getElem? (i := 309) (by decide +kernel)), rfl⟩⟩
theorem kc_L_71 : wg_OKv R_law 71 y_X_result b_X_result 2 (some .int) 1 := ⟨⟨kd_X_result, List.mem_filter.mpr ⟨List.mem_append_right _ (List.mem_of_getElem? (i := 177) (by decide +kernel)), rfl⟩, kz_X, by decide +kernel⟩, List.mem_filter.mpr ⟨List.mem_append_right _ (List.mem_of_getElem? (i := 178) (by decide +kernel)), rfl⟩, List.mem_filter.mpr ⟨List.mem_append_right _ (List.mem_of_getElem? (i := 179) (by decide +kernel)), rfl⟩⟩
theorem kc_L_74 : wg_OKv R_law 74 y_M_result b_M_result 2 (some .int) 1 := ⟨⟨kd_M_result, List.mem_filter.mpr ⟨List.mem_append_right _ (List.mem_of_getElem? (i := 311) (by decide +kernel)), rfl⟩, kz_M, by decide +kernel⟩, List.mem_filter.mpr ⟨List.mem_append_right _ (List.mem_of_getElem? (i := 312) (by decide +kernel)), rfl⟩, List.mem_filter.mpr ⟨List.mem_append_right _ (List.mem_of_getElem? (i := 313) (by decide +kernel)), rfl⟩⟩
theorem kc_L_75 : wg_OKv R_law 75 y_X_far b_X_far 2 (some .int) 1 := ⟨⟨kd_X_far, List.mem_filter.mpr ⟨List.mem_append_right _ (List.mem_of_getElem? (i := 185) (by decide +kernel)), rfl⟩, kz_X, by decide +kernel⟩, List.mem_filter.mpr ⟨List.mem_append_right _ (List.mem_of_getElem? (i := 186) (by decide +kernel)), rfl⟩, List.mem_filter.mpr ⟨List.mem_append_right _ (List.mem_of_getElem? (i := 187) (by decide +kernel)), rfl⟩⟩
theorem kc_L_78 : wg_OKv R_law 78 y_M_far b_M_far 2 (some .int) 1 := ⟨⟨kd_M_far, List.mem_filter.mpr ⟨List.mem_append_right _ (List.mem_of_getElem? (i := 315) (by decide +kernel)), rfl⟩, kz_M, by decide +kernel⟩, List.mem_filter.mpr ⟨List.mem_append_right _ (List.mem_of_getElem? (i := 316) (by decide +kernel)), rfl⟩, List.mem_filter.mpr ⟨List.mem_append_right _ (List.mem_of_getElem? (i := 317) (by decide +kernel)), rfl⟩⟩
end
section
/-! Fields and arrays of the two classes, a row each. -/
section ROWS
variable {p : Program} {l : Launch} {e : Env} {R : Room} {s : State} {m : MethodId} {args : Array Value} {below : List Frame} {meth : Method} {c : Code} {H : Heap} {locs : List Loc} {cells slots : Nat} {Q : State → Prop} {cc : ByteArray} {pc : Nat} {ls : Array Slot} {rest : List Value} {D : va_G} {A : Nat → Prop} {a : Nat} {cJ cI : ClassId} {ws : va_W} {H0 : Heap} {h0 : Nat} {ad : Nat → Nat} {I : wg_S}
theorem wg_gX (hx : p.tables.exec = Jvm.exec) (hb : c.code = cc) (hts : ∀ w ∈ wg_tbl, w.before args s = true) (hown : s.vm.findClass R_X = some m.cls) (hK : va_K D wg_cl (wg_ty cJ cI) s) (hP : va_P D wg_cl (wg_WX cJ cI h0 ad I) H) (k : Nat) (hk : k < 14) {idx : Nat} {v : Value} (hlink : Cond.fieldLink R_X idx (F_X k).1 (F_X k).2.1 (F_X k).2.2.1 ∈ wg_tbl) (hv : (wg_FX ad I)[k]? = some v) (hdg : decode cc pc = .ok (.getfield idx, 3)) (kk : W p l e R s m args below meth c H locs cells slots Q (F0 m (pc + 3) ls (v :: rest))) : W p l e R s m args below meth c H locs cells slots Q (F0 m pc ls (.ref h0 :: rest)) :=
  va_get (C := R_X) (T := F_X) (N := 14) (ci := 0) hx hb hts wg_inX hown hK hP 0 rfl rfl k hk (hts _ hlink) (fun _ h => h) hv hdg kk
theorem wg_pX3 (hx : p.tables.exec = Jvm.exec) (hb : c.code = cc) (hts : ∀ w ∈ wg_tbl, w.before args s = true) (hown : s.vm.findClass R_X = some m.cls) (hK : va_K D wg_cl (wg_ty cJ cI) s) (hP : va_P D wg_cl (wg_WX cJ cI h0 ad I) H) (hD : ∀ J, va_D A (wg_WX cJ cI h0 ad J)) (hS : va_S A H0 H locs) {idx v : Nat} (hlink : Cond.fieldLink R_X idx (F_X 3).1 (F_X 3).2.1 (F_X 3).2.2.1 ∈ wg_tbl) (hdg : decode cc pc = .ok (.putfield idx, 3)) (kk : ∀ (H1 : Heap) (locs1 : List Loc), va_P D wg_cl (wg_WX cJ cI h0 ad (wg_st I 3 0 v)) H1 → va_S A H0 H1 locs1 → W p l e R s m args below meth c H1 locs1 cells slots Q (F0 m (pc + 3) ls rest)) : W p l e R s m args below meth c H locs cells slots Q (F0 m pc ls (.int (nI v) :: .ref h0 :: rest)) :=
  va_put (D := D) (ci := 0) (v := .int (nI v)) (ty := .int) (C := R_X) (T := F_X) (N := 14) hx hb hts wg_inX t_X t_X_ok n_X hown hK hP (hD I) hS 0 rfl rfl 3 (by decide) (hts _ hlink) (fun _ h => h) rfl (by decide +kernel) rfl rfl (Nat.le_of_ble_eq_true rfl) hdg (fun H1 l1 h1 _ h3 => kk H1 l1 h1 h3)
theorem wg_pX4 (hx : p.tables.exec = Jvm.exec) (hb : c.code = cc) (hts : ∀ w ∈ wg_tbl, w.before args s = true) (hown : s.vm.findClass R_X = some m.cls) (hK : va_K D wg_cl (wg_ty cJ cI) s) (hP : va_P D wg_cl (wg_WX cJ cI h0 ad I) H) (hD : ∀ J, va_D A (wg_WX cJ cI h0 ad J)) (hS : va_S A H0 H locs) {idx v : Nat} (hlink : Cond.fieldLink R_X idx (F_X 4).1 (F_X 4).2.1 (F_X 4).2.2.1 ∈ wg_tbl) (hnr : narrow .boolean (.int (nI v)) = .int (nI v)) (hft : fits .boolean (.int (nI v)) = true) (hdg : decode cc pc = .ok (.putfield idx, 3)) (kk : ∀ (H1 : Heap) (locs1 : List Loc), va_P D wg_cl (wg_WX cJ cI h0 ad (wg_st I 4 0 v)) H1 → va_S A H0 H1 locs1 → W p l e R s m args below meth c H1 locs1 cells slots Q (F0 m (pc + 3) ls rest)) : W p l e R s m args below meth c H locs cells slots Q (F0 m pc ls (.int (nI v) :: .ref h0 :: rest)) :=
  va_put (D := D) (ci := 0) (v := .int (nI v)) (ty := .boolean) (C := R_X) (T := F_X) (N := 14) hx hb hts wg_inX t_X t_X_ok n_X hown hK hP (hD I) hS 0 rfl rfl 4 (by decide) (hts _ hlink) (fun _ h => h) rfl (by decide +kernel) hnr hft (Nat.le_of_ble_eq_true rfl) hdg (fun H1 l1 h1 _ h3 => kk H1 l1 h1 h3)
theorem wg_pX8 (hx : p.tables.exec = Jvm.exec) (hb : c.code = cc) (hts : ∀ w ∈ wg_tbl, w.before args s = true) (hown : s.vm.findClass R_X = some m.cls) (hK : va_K D wg_cl (wg_ty cJ cI) s) (hP : va_P D wg_cl (wg_WX cJ cI h0 ad I) H) (hD : ∀ J, va_D A (wg_WX cJ cI h0 ad J)) (hS : va_S A H0 H locs) {idx v : Nat} (hlink : Cond.fieldLink R_X idx (F_X 8).1 (F_X 8).2.1 (F_X 8).2.2.1 ∈ wg_tbl) (hdg : decode cc pc = .ok (.putfield idx, 3)) (kk : ∀ (H1 : Heap) (locs1 : List Loc), va_P D wg_cl (wg_WX cJ cI h0 ad (wg_st I 8 0 v)) H1 → va_S A H0 H1 locs1 → W p l e R s m args below meth c H1 locs1 cells slots Q (F0 m (pc + 3) ls rest)) : W p l e R s m args below meth c H locs cells slots Q (F0 m pc ls (.int (nI v) :: .ref h0 :: rest)) :=
  va_put (D := D) (ci := 0) (v := .int (nI v)) (ty := .int) (C := R_X) (T := F_X) (N := 14) hx hb hts wg_inX t_X t_X_ok n_X hown hK hP (hD I) hS 0 rfl rfl 8 (by decide) (hts _ hlink) (fun _ h => h) rfl (by decide +kernel) rfl rfl (Nat.le_of_ble_eq_true rfl) hdg (fun H1 l1 h1 _ h3 => kk H1 l1 h1 h3)
theorem wg_pX11 (hx : p.tables.exec = Jvm.exec) (hb : c.code = cc) (hts : ∀ w ∈ wg_tbl, w.before args s = true) (hown : s.vm.findClass R_X = some m.cls) (hK : va_K D wg_cl (wg_ty cJ cI) s) (hP : va_P D wg_cl (wg_WX cJ cI h0 ad I) H) (hD : ∀ J, va_D A (wg_WX cJ cI h0 ad J)) (hS : va_S A H0 H locs) {idx v : Nat} (hlink : Cond.fieldLink R_X idx (F_X 11).1 (F_X 11).2.1 (F_X 11).2.2.1 ∈ wg_tbl) (hdg : decode cc pc = .ok (.putfield idx, 3)) (kk : ∀ (H1 : Heap) (locs1 : List Loc), va_P D wg_cl (wg_WX cJ cI h0 ad (wg_st I 11 0 v)) H1 → va_S A H0 H1 locs1 → W p l e R s m args below meth c H1 locs1 cells slots Q (F0 m (pc + 3) ls rest)) : W p l e R s m args below meth c H locs cells slots Q (F0 m pc ls (.int (nI v) :: .ref h0 :: rest)) :=
  va_put (D := D) (ci := 0) (v := .int (nI v)) (ty := .int) (C := R_X) (T := F_X) (N := 14) hx hb hts wg_inX t_X t_X_ok n_X hown hK hP (hD I) hS 0 rfl rfl 11 (by decide) (hts _ hlink) (fun _ h => h) rfl (by decide +kernel) rfl rfl (Nat.le_of_ble_eq_true rfl) hdg (fun H1 l1 h1 _ h3 => kk H1 l1 h1 h3)
theorem wg_sX0 (hx : p.tables.exec = Jvm.exec) (hb : c.code = cc) (hK : va_K D wg_cl (wg_ty cJ cI) s) (hP : va_P D wg_cl (wg_WX cJ cI h0 ad I) H) (hD : ∀ J, va_D A (wg_WX cJ cI h0 ad J)) (hS : va_S A H0 H locs) {j x : Nat} (hj : j < 48) (hdg : decode cc pc = .ok (.lastore, 1)) (kk : ∀ (H1 : Heap) (locs1 : List Loc), va_P D wg_cl (wg_WX cJ cI h0 ad (wg_st I 0 j x)) H1 → va_S A H0 H1 locs1 → W p l e R s m args below meth c H1 locs1 cells slots Q (F0 m (pc + 1) ls rest)) : W p l e R s m args below meth c H locs cells slots Q (F0 m pc ls (.long (lN x) :: .int (nI j) :: .ref (ad 0) :: rest)) :=
  wg_lst hx hb hK hP (hD I) hS 1 (f := I 0) rfl hj (by decide) hdg (fun H1 l1 h1 h2 => kk H1 l1 h1 h2)
theorem wg_sX1 (hx : p.tables.exec = Jvm.exec) (hb : c.code = cc) (hK : va_K D wg_cl (wg_ty cJ cI) s) (hP : va_P D wg_cl (wg_WX cJ cI h0 ad I) H) (hD : ∀ J, va_D A (wg_WX cJ cI h0 ad J)) (hS : va_S A H0 H locs) {j x : Nat} (hj : j < 48) (hdg : decode cc pc = .ok (.iastore, 1)) (kk : ∀ (H1 : Heap) (locs1 : List Loc), va_P D wg_cl (wg_WX cJ cI h0 ad (wg_st I 1 j x)) H1 → va_S A H0 H1 locs1 → W p l e R s m args below meth c H1 locs1 cells slots Q (F0 m (pc + 1) ls rest)) : W p l e R s m args below meth c H locs cells slots Q (F0 m pc ls (.int (nI x) :: .int (nI j) :: .ref (ad 1) :: rest)) :=
  wg_ist hx hb hK hP (hD I) hS 2 (f := I 1) rfl hj (by decide) hdg (fun H1 l1 h1 h2 => kk H1 l1 h1 h2)
theorem wg_sX2 (hx : p.tables.exec = Jvm.exec) (hb : c.code = cc) (hK : va_K D wg_cl (wg_ty cJ cI) s) (hP : va_P D wg_cl (wg_WX cJ cI h0 ad I) H) (hD : ∀ J, va_D A (wg_WX cJ cI h0 ad J)) (hS : va_S A H0 H locs) {j x : Nat} (hj : j < 48) (hdg : decode cc pc = .ok (.iastore, 1)) (kk : ∀ (H1 : Heap) (locs1 : List Loc), va_P D wg_cl (wg_WX cJ cI h0 ad (wg_st I 2 j x)) H1 → va_S A H0 H1 locs1 → W p l e R s m args below meth c H1 locs1 cells slots Q (F0 m (pc + 1) ls rest)) : W p l e R s m args below meth c H locs cells slots Q (F0 m pc ls (.int (nI x) :: .int (nI j) :: .ref (ad 2) :: rest)) :=
  wg_ist hx hb hK hP (hD I) hS 3 (f := I 2) rfl hj (by decide) hdg (fun H1 l1 h1 h2 => kk H1 l1 h1 h2)
theorem wg_sX5 (hx : p.tables.exec = Jvm.exec) (hb : c.code = cc) (hK : va_K D wg_cl (wg_ty cJ cI) s) (hP : va_P D wg_cl (wg_WX cJ cI h0 ad I) H) (hD : ∀ J, va_D A (wg_WX cJ cI h0 ad J)) (hS : va_S A H0 H locs) {j x : Nat} (hj : j < 624) (hdg : decode cc pc = .ok (.iastore, 1)) (kk : ∀ (H1 : Heap) (locs1 : List Loc), va_P D wg_cl (wg_WX cJ cI h0 ad (wg_st I 5 j x)) H1 → va_S A H0 H1 locs1 → W p l e R s m args below meth c H1 locs1 cells slots Q (F0 m (pc + 1) ls rest)) : W p l e R s m args below meth c H locs cells slots Q (F0 m pc ls (.int (nI x) :: .int (nI j) :: .ref (ad 5) :: rest)) :=
  wg_ist hx hb hK hP (hD I) hS 4 (f := I 5) rfl hj (by decide) hdg (fun H1 l1 h1 h2 => kk H1 l1 h1 h2)
theorem wg_sX6 (hx : p.tables.exec = Jvm.exec) (hb : c.code = cc) (hK : va_K D wg_cl (wg_ty cJ cI) s) (hP : va_P D wg_cl (wg_WX cJ cI h0 ad I) H) (hD : ∀ J, va_D A (wg_WX cJ cI h0 ad J)) (hS : va_S A H0 H locs) {j x : Nat} (hj : j < 577) (hdg : decode cc pc = .ok (.iastore, 1)) (kk : ∀ (H1 : Heap) (locs1 : List Loc), va_P D wg_cl (wg_WX cJ cI h0 ad (wg_st I 6 j x)) H1 → va_S A H0 H1 locs1 → W p l e R s m args below meth c H1 locs1 cells slots Q (F0 m (pc + 1) ls rest)) : W p l e R s m args below meth c H locs cells slots Q (F0 m pc ls (.int (nI x) :: .int (nI j) :: .ref (ad 6) :: rest)) :=
  wg_ist hx hb hK hP (hD I) hS 5 (f := I 6) rfl hj (by decide) hdg (fun H1 l1 h1 h2 => kk H1 l1 h1 h2)
theorem wg_sX7 (hx : p.tables.exec = Jvm.exec) (hb : c.code = cc) (hK : va_K D wg_cl (wg_ty cJ cI) s) (hP : va_P D wg_cl (wg_WX cJ cI h0 ad I) H) (hD : ∀ J, va_D A (wg_WX cJ cI h0 ad J)) (hS : va_S A H0 H locs) {j x : Nat} (hj : j < 577) (hdg : decode cc pc = .ok (.iastore, 1)) (kk : ∀ (H1 : Heap) (locs1 : List Loc), va_P D wg_cl (wg_WX cJ cI h0 ad (wg_st I 7 j x)) H1 → va_S A H0 H1 locs1 → W p l e R s m args below meth c H1 locs1 cells slots Q (F0 m (pc + 1) ls rest)) : W p l e R s m args below meth c H locs cells slots Q (F0 m pc ls (.int (nI x) :: .int (nI j) :: .ref (ad 7) :: rest)) :=
  wg_ist hx hb hK hP (hD I) hS 6 (f := I 7) rfl hj (by decide) hdg (fun H1 l1 h1 h2 => kk H1 l1 h1 h2)
theorem wg_sX9 (hx : p.tables.exec = Jvm.exec) (hb : c.code = cc) (hK : va_K D wg_cl (wg_ty cJ cI) s) (hP : va_P D wg_cl (wg_WX cJ cI h0 ad I) H) (hD : ∀ J, va_D A (wg_WX cJ cI h0 ad J)) (hS : va_S A H0 H locs) {j x : Nat} (hj : j < 48) (hdg : decode cc pc = .ok (.iastore, 1)) (kk : ∀ (H1 : Heap) (locs1 : List Loc), va_P D wg_cl (wg_WX cJ cI h0 ad (wg_st I 9 j x)) H1 → va_S A H0 H1 locs1 → W p l e R s m args below meth c H1 locs1 cells slots Q (F0 m (pc + 1) ls rest)) : W p l e R s m args below meth c H locs cells slots Q (F0 m pc ls (.int (nI x) :: .int (nI j) :: .ref (ad 9) :: rest)) :=
  wg_ist hx hb hK hP (hD I) hS 7 (f := I 9) rfl hj (by decide) hdg (fun H1 l1 h1 h2 => kk H1 l1 h1 h2)
theorem wg_sX10 (hx : p.tables.exec = Jvm.exec) (hb : c.code = cc) (hK : va_K D wg_cl (wg_ty cJ cI) s) (hP : va_P D wg_cl (wg_WX cJ cI h0 ad I) H) (hD : ∀ J, va_D A (wg_WX cJ cI h0 ad J)) (hS : va_S A H0 H locs) {j x : Nat} (hj : j < 48) (hdg : decode cc pc = .ok (.iastore, 1)) (kk : ∀ (H1 : Heap) (locs1 : List Loc), va_P D wg_cl (wg_WX cJ cI h0 ad (wg_st I 10 j x)) H1 → va_S A H0 H1 locs1 → W p l e R s m args below meth c H1 locs1 cells slots Q (F0 m (pc + 1) ls rest)) : W p l e R s m args below meth c H locs cells slots Q (F0 m pc ls (.int (nI x) :: .int (nI j) :: .ref (ad 10) :: rest)) :=
  wg_ist hx hb hK hP (hD I) hS 8 (f := I 10) rfl hj (by decide) hdg (fun H1 l1 h1 h2 => kk H1 l1 h1 h2)
theorem wg_sX12 (hx : p.tables.exec = Jvm.exec) (hb : c.code = cc) (hK : va_K D wg_cl (wg_ty cJ cI) s) (hP : va_P D wg_cl (wg_WX cJ cI h0 ad I) H) (hD : ∀ J, va_D A (wg_WX cJ cI h0 ad J)) (hS : va_S A H0 H locs) {j x : Nat} (hj : j < 169) (hdg : decode cc pc = .ok (.iastore, 1)) (kk : ∀ (H1 : Heap) (locs1 : List Loc), va_P D wg_cl (wg_WX cJ cI h0 ad (wg_st I 12 j x)) H1 → va_S A H0 H1 locs1 → W p l e R s m args below meth c H1 locs1 cells slots Q (F0 m (pc + 1) ls rest)) : W p l e R s m args below meth c H locs cells slots Q (F0 m pc ls (.int (nI x) :: .int (nI j) :: .ref (ad 12) :: rest)) :=
  wg_ist hx hb hK hP (hD I) hS 9 (f := I 12) rfl hj (by decide) hdg (fun H1 l1 h1 h2 => kk H1 l1 h1 h2)
theorem wg_sX13 (hx : p.tables.exec = Jvm.exec) (hb : c.code = cc) (hK : va_K D wg_cl (wg_ty cJ cI) s) (hP : va_P D wg_cl (wg_WX cJ cI h0 ad I) H) (hD : ∀ J, va_D A (wg_WX cJ cI h0 ad J)) (hS : va_S A H0 H locs) {j x : Nat} (hj : j < 48) (hdg : decode cc pc = .ok (.iastore, 1)) (kk : ∀ (H1 : Heap) (locs1 : List Loc), va_P D wg_cl (wg_WX cJ cI h0 ad (wg_st I 13 j x)) H1 → va_S A H0 H1 locs1 → W p l e R s m args below meth c H1 locs1 cells slots Q (F0 m (pc + 1) ls rest)) : W p l e R s m args below meth c H locs cells slots Q (F0 m pc ls (.int (nI x) :: .int (nI j) :: .ref (ad 13) :: rest)) :=
  wg_ist hx hb hK hP (hD I) hS 10 (f := I 13) rfl hj (by decide) hdg (fun H1 l1 h1 h2 => kk H1 l1 h1 h2)
theorem wg_gM (hx : p.tables.exec = Jvm.exec) (hb : c.code = cc) (hts : ∀ w ∈ wg_tbl, w.before args s = true) (hown : s.vm.findClass R_M = some m.cls) (hK : va_K D wg_cl (wg_ty cJ cI) s) (hP : va_P D wg_cl (wg_WM cJ cI h0 ad I) H) (k : Nat) (hk : k < 11) {idx : Nat} {v : Value} (hlink : Cond.fieldLink R_M idx (F_M k).1 (F_M k).2.1 (F_M k).2.2.1 ∈ wg_tbl) (hv : (wg_FM ad I)[k]? = some v) (hdg : decode cc pc = .ok (.getfield idx, 3)) (kk : W p l e R s m args below meth c H locs cells slots Q (F0 m (pc + 3) ls (v :: rest))) : W p l e R s m args below meth c H locs cells slots Q (F0 m pc ls (.ref h0 :: rest)) :=
  va_get (C := R_M) (T := F_M) (N := 11) (ci := 1) hx hb hts wg_inM hown hK hP 0 rfl rfl k hk (hts _ hlink) (fun _ h => h) hv hdg kk
theorem wg_pM1 (hx : p.tables.exec = Jvm.exec) (hb : c.code = cc) (hts : ∀ w ∈ wg_tbl, w.before args s = true) (hown : s.vm.findClass R_M = some m.cls) (hK : va_K D wg_cl (wg_ty cJ cI) s) (hP : va_P D wg_cl (wg_WM cJ cI h0 ad I) H) (hD : ∀ J, va_D A (wg_WM cJ cI h0 ad J)) (hS : va_S A H0 H locs) {idx v : Nat} (hlink : Cond.fieldLink R_M idx (F_M 1).1 (F_M 1).2.1 (F_M 1).2.2.1 ∈ wg_tbl) (hdg : decode cc pc = .ok (.putfield idx, 3)) (kk : ∀ (H1 : Heap) (locs1 : List Loc), va_P D wg_cl (wg_WM cJ cI h0 ad (wg_st I 1 0 v)) H1 → va_S A H0 H1 locs1 → W p l e R s m args below meth c H1 locs1 cells slots Q (F0 m (pc + 3) ls rest)) : W p l e R s m args below meth c H locs cells slots Q (F0 m pc ls (.int (nI v) :: .ref h0 :: rest)) :=
  va_put (D := D) (ci := 1) (v := .int (nI v)) (ty := .int) (C := R_M) (T := F_M) (N := 11) hx hb hts wg_inM t_M t_M_ok n_M hown hK hP (hD I) hS 0 rfl rfl 1 (by decide) (hts _ hlink) (fun _ h => h) rfl (by decide +kernel) rfl rfl (Nat.le_of_ble_eq_true rfl) hdg (fun H1 l1 h1 _ h3 => kk H1 l1 h1 h3)
theorem wg_pM2 (hx : p.tables.exec = Jvm.exec) (hb : c.code = cc) (hts : ∀ w ∈ wg_tbl, w.before args s = true) (hown : s.vm.findClass R_M = some m.cls) (hK : va_K D wg_cl (wg_ty cJ cI) s) (hP : va_P D wg_cl (wg_WM cJ cI h0 ad I) H) (hD : ∀ J, va_D A (wg_WM cJ cI h0 ad J)) (hS : va_S A H0 H locs) {idx v : Nat} (hlink : Cond.fieldLink R_M idx (F_M 2).1 (F_M 2).2.1 (F_M 2).2.2.1 ∈ wg_tbl) (hnr : narrow .boolean (.int (nI v)) = .int (nI v)) (hft : fits .boolean (.int (nI v)) = true) (hdg : decode cc pc = .ok (.putfield idx, 3)) (kk : ∀ (H1 : Heap) (locs1 : List Loc), va_P D wg_cl (wg_WM cJ cI h0 ad (wg_st I 2 0 v)) H1 → va_S A H0 H1 locs1 → W p l e R s m args below meth c H1 locs1 cells slots Q (F0 m (pc + 3) ls rest)) : W p l e R s m args below meth c H locs cells slots Q (F0 m pc ls (.int (nI v) :: .ref h0 :: rest)) :=
  va_put (D := D) (ci := 1) (v := .int (nI v)) (ty := .boolean) (C := R_M) (T := F_M) (N := 11) hx hb hts wg_inM t_M t_M_ok n_M hown hK hP (hD I) hS 0 rfl rfl 2 (by decide) (hts _ hlink) (fun _ h => h) rfl (by decide +kernel) hnr hft (Nat.le_of_ble_eq_true rfl) hdg (fun H1 l1 h1 _ h3 => kk H1 l1 h1 h3)
theorem wg_pM3 (hx : p.tables.exec = Jvm.exec) (hb : c.code = cc) (hts : ∀ w ∈ wg_tbl, w.before args s = true) (hown : s.vm.findClass R_M = some m.cls) (hK : va_K D wg_cl (wg_ty cJ cI) s) (hP : va_P D wg_cl (wg_WM cJ cI h0 ad I) H) (hD : ∀ J, va_D A (wg_WM cJ cI h0 ad J)) (hS : va_S A H0 H locs) {idx v : Nat} (hlink : Cond.fieldLink R_M idx (F_M 3).1 (F_M 3).2.1 (F_M 3).2.2.1 ∈ wg_tbl) (hdg : decode cc pc = .ok (.putfield idx, 3)) (kk : ∀ (H1 : Heap) (locs1 : List Loc), va_P D wg_cl (wg_WM cJ cI h0 ad (wg_st I 3 0 v)) H1 → va_S A H0 H1 locs1 → W p l e R s m args below meth c H1 locs1 cells slots Q (F0 m (pc + 3) ls rest)) : W p l e R s m args below meth c H locs cells slots Q (F0 m pc ls (.int (nI v) :: .ref h0 :: rest)) :=
  va_put (D := D) (ci := 1) (v := .int (nI v)) (ty := .int) (C := R_M) (T := F_M) (N := 11) hx hb hts wg_inM t_M t_M_ok n_M hown hK hP (hD I) hS 0 rfl rfl 3 (by decide) (hts _ hlink) (fun _ h => h) rfl (by decide +kernel) rfl rfl (Nat.le_of_ble_eq_true rfl) hdg (fun H1 l1 h1 _ h3 => kk H1 l1 h1 h3)
theorem wg_pM9 (hx : p.tables.exec = Jvm.exec) (hb : c.code = cc) (hts : ∀ w ∈ wg_tbl, w.before args s = true) (hown : s.vm.findClass R_M = some m.cls) (hK : va_K D wg_cl (wg_ty cJ cI) s) (hP : va_P D wg_cl (wg_WM cJ cI h0 ad I) H) (hD : ∀ J, va_D A (wg_WM cJ cI h0 ad J)) (hS : va_S A H0 H locs) {idx v : Nat} (hlink : Cond.fieldLink R_M idx (F_M 9).1 (F_M 9).2.1 (F_M 9).2.2.1 ∈ wg_tbl) (hdg : decode cc pc = .ok (.putfield idx, 3)) (kk : ∀ (H1 : Heap) (locs1 : List Loc), va_P D wg_cl (wg_WM cJ cI h0 ad (wg_st I 9 0 v)) H1 → va_S A H0 H1 locs1 → W p l e R s m args below meth c H1 locs1 cells slots Q (F0 m (pc + 3) ls rest)) : W p l e R s m args below meth c H locs cells slots Q (F0 m pc ls (.int (nI v) :: .ref h0 :: rest)) :=
  va_put (D := D) (ci := 1) (v := .int (nI v)) (ty := .int) (C := R_M) (T := F_M) (N := 11) hx hb hts wg_inM t_M t_M_ok n_M hown hK hP (hD I) hS 0 rfl rfl 9 (by decide) (hts _ hlink) (fun _ h => h) rfl (by decide +kernel) rfl rfl (Nat.le_of_ble_eq_true rfl) hdg (fun H1 l1 h1 _ h3 => kk H1 l1 h1 h3)
theorem wg_sM0 (hx : p.tables.exec = Jvm.exec) (hb : c.code = cc) (hK : va_K D wg_cl (wg_ty cJ cI) s) (hP : va_P D wg_cl (wg_WM cJ cI h0 ad I) H) (hD : ∀ J, va_D A (wg_WM cJ cI h0 ad J)) (hS : va_S A H0 H locs) {j x : Nat} (hj : j < 48) (hdg : decode cc pc = .ok (.lastore, 1)) (kk : ∀ (H1 : Heap) (locs1 : List Loc), va_P D wg_cl (wg_WM cJ cI h0 ad (wg_st I 0 j x)) H1 → va_S A H0 H1 locs1 → W p l e R s m args below meth c H1 locs1 cells slots Q (F0 m (pc + 1) ls rest)) : W p l e R s m args below meth c H locs cells slots Q (F0 m pc ls (.long (lN x) :: .int (nI j) :: .ref (ad 0) :: rest)) :=
  wg_lst hx hb hK hP (hD I) hS 1 (f := I 0) rfl hj (by decide) hdg (fun H1 l1 h1 h2 => kk H1 l1 h1 h2)
theorem wg_sM4 (hx : p.tables.exec = Jvm.exec) (hb : c.code = cc) (hK : va_K D wg_cl (wg_ty cJ cI) s) (hP : va_P D wg_cl (wg_WM cJ cI h0 ad I) H) (hD : ∀ J, va_D A (wg_WM cJ cI h0 ad J)) (hS : va_S A H0 H locs) {j x : Nat} (hj : j < 48) (hdg : decode cc pc = .ok (.iastore, 1)) (kk : ∀ (H1 : Heap) (locs1 : List Loc), va_P D wg_cl (wg_WM cJ cI h0 ad (wg_st I 4 j x)) H1 → va_S A H0 H1 locs1 → W p l e R s m args below meth c H1 locs1 cells slots Q (F0 m (pc + 1) ls rest)) : W p l e R s m args below meth c H locs cells slots Q (F0 m pc ls (.int (nI x) :: .int (nI j) :: .ref (ad 4) :: rest)) :=
  wg_ist hx hb hK hP (hD I) hS 2 (f := I 4) rfl hj (by decide) hdg (fun H1 l1 h1 h2 => kk H1 l1 h1 h2)
theorem wg_sM5 (hx : p.tables.exec = Jvm.exec) (hb : c.code = cc) (hK : va_K D wg_cl (wg_ty cJ cI) s) (hP : va_P D wg_cl (wg_WM cJ cI h0 ad I) H) (hD : ∀ J, va_D A (wg_WM cJ cI h0 ad J)) (hS : va_S A H0 H locs) {j x : Nat} (hj : j < 48) (hdg : decode cc pc = .ok (.iastore, 1)) (kk : ∀ (H1 : Heap) (locs1 : List Loc), va_P D wg_cl (wg_WM cJ cI h0 ad (wg_st I 5 j x)) H1 → va_S A H0 H1 locs1 → W p l e R s m args below meth c H1 locs1 cells slots Q (F0 m (pc + 1) ls rest)) : W p l e R s m args below meth c H locs cells slots Q (F0 m pc ls (.int (nI x) :: .int (nI j) :: .ref (ad 5) :: rest)) :=
  wg_ist hx hb hK hP (hD I) hS 3 (f := I 5) rfl hj (by decide) hdg (fun H1 l1 h1 h2 => kk H1 l1 h1 h2)
theorem wg_sM6 (hx : p.tables.exec = Jvm.exec) (hb : c.code = cc) (hK : va_K D wg_cl (wg_ty cJ cI) s) (hP : va_P D wg_cl (wg_WM cJ cI h0 ad I) H) (hD : ∀ J, va_D A (wg_WM cJ cI h0 ad J)) (hS : va_S A H0 H locs) {j x : Nat} (hj : j < 624) (hdg : decode cc pc = .ok (.iastore, 1)) (kk : ∀ (H1 : Heap) (locs1 : List Loc), va_P D wg_cl (wg_WM cJ cI h0 ad (wg_st I 6 j x)) H1 → va_S A H0 H1 locs1 → W p l e R s m args below meth c H1 locs1 cells slots Q (F0 m (pc + 1) ls rest)) : W p l e R s m args below meth c H locs cells slots Q (F0 m pc ls (.int (nI x) :: .int (nI j) :: .ref (ad 6) :: rest)) :=
  wg_ist hx hb hK hP (hD I) hS 4 (f := I 6) rfl hj (by decide) hdg (fun H1 l1 h1 h2 => kk H1 l1 h1 h2)
theorem wg_sM7 (hx : p.tables.exec = Jvm.exec) (hb : c.code = cc) (hK : va_K D wg_cl (wg_ty cJ cI) s) (hP : va_P D wg_cl (wg_WM cJ cI h0 ad I) H) (hD : ∀ J, va_D A (wg_WM cJ cI h0 ad J)) (hS : va_S A H0 H locs) {j x : Nat} (hj : j < 625) (hdg : decode cc pc = .ok (.iastore, 1)) (kk : ∀ (H1 : Heap) (locs1 : List Loc), va_P D wg_cl (wg_WM cJ cI h0 ad (wg_st I 7 j x)) H1 → va_S A H0 H1 locs1 → W p l e R s m args below meth c H1 locs1 cells slots Q (F0 m (pc + 1) ls rest)) : W p l e R s m args below meth c H locs cells slots Q (F0 m pc ls (.int (nI x) :: .int (nI j) :: .ref (ad 7) :: rest)) :=
  wg_ist hx hb hK hP (hD I) hS 5 (f := I 7) rfl hj (by decide) hdg (fun H1 l1 h1 h2 => kk H1 l1 h1 h2)
theorem wg_sM8 (hx : p.tables.exec = Jvm.exec) (hb : c.code = cc) (hK : va_K D wg_cl (wg_ty cJ cI) s) (hP : va_P D wg_cl (wg_WM cJ cI h0 ad I) H) (hD : ∀ J, va_D A (wg_WM cJ cI h0 ad J)) (hS : va_S A H0 H locs) {j x : Nat} (hj : j < 625) (hdg : decode cc pc = .ok (.iastore, 1)) (kk : ∀ (H1 : Heap) (locs1 : List Loc), va_P D wg_cl (wg_WM cJ cI h0 ad (wg_st I 8 j x)) H1 → va_S A H0 H1 locs1 → W p l e R s m args below meth c H1 locs1 cells slots Q (F0 m (pc + 1) ls rest)) : W p l e R s m args below meth c H locs cells slots Q (F0 m pc ls (.int (nI x) :: .int (nI j) :: .ref (ad 8) :: rest)) :=
  wg_ist hx hb hK hP (hD I) hS 6 (f := I 8) rfl hj (by decide) hdg (fun H1 l1 h1 h2 => kk H1 l1 h1 h2)
theorem wg_sM10 (hx : p.tables.exec = Jvm.exec) (hb : c.code = cc) (hK : va_K D wg_cl (wg_ty cJ cI) s) (hP : va_P D wg_cl (wg_WM cJ cI h0 ad I) H) (hD : ∀ J, va_D A (wg_WM cJ cI h0 ad J)) (hS : va_S A H0 H locs) {j x : Nat} (hj : j < 169) (hdg : decode cc pc = .ok (.iastore, 1)) (kk : ∀ (H1 : Heap) (locs1 : List Loc), va_P D wg_cl (wg_WM cJ cI h0 ad (wg_st I 10 j x)) H1 → va_S A H0 H1 locs1 → W p l e R s m args below meth c H1 locs1 cells slots Q (F0 m (pc + 1) ls rest)) : W p l e R s m args below meth c H locs cells slots Q (F0 m pc ls (.int (nI x) :: .int (nI j) :: .ref (ad 10) :: rest)) :=
  wg_ist hx hb hK hP (hD I) hS 7 (f := I 10) rfl hj (by decide) hdg (fun H1 l1 h1 h2 => kk H1 l1 h1 h2)
end ROWS
/-! What holds of the two objects between calls. -/
def wg_XI (I : wg_S) : Prop := I 3 0 ≤ 48 ∧ I 4 0 ≤ 1 ∧ I 8 0 ≤ 577 ∧ I 11 0 ≤ 48 ∧ (I 4 0 = 0 → I 8 0 = 0) ∧ (∀ k, k < 48 → I 0 k < 2 ^ 60) ∧ (∀ k, k < 48 → I 1 k ≤ 12) ∧ (∀ k, k < 48 → I 2 k ≤ 13) ∧ (∀ k, 0 < k → k < I 3 0 → 1 ≤ I 2 k) ∧ (∀ k, k < 577 → I 6 k < 48) ∧ (∀ k, k < 577 → I 7 k ≤ 12) ∧ (∀ k, k < 169 → I 12 k ≤ 24) ∧ (∀ k, k < 48 → I 13 k ≤ 24) ∧ (∀ k, k < 624 → I 5 k < 577)
def wg_MI (I : wg_S) : Prop := I 1 0 ≤ 48 ∧ I 2 0 ≤ 1 ∧ I 3 0 ≤ 48 ∧ I 9 0 ≤ 625 ∧ (∀ k, k < 48 → I 0 k < 2 ^ 60) ∧ (∀ k, k < 625 → I 7 k < 48) ∧ (∀ k, k < 625 → I 8 k ≤ 12)
def wg_kp (I u : wg_S) : Prop := u 3 0 = I 3 0 ∧ u 4 0 = I 4 0 ∧ ∀ k, u 0 k = I 0 k
def wg_km (I u : wg_S) : Prop := u 1 0 = I 1 0 ∧ u 2 0 = I 2 0 ∧ ∀ k, u 0 k = I 0 k
theorem wg_kp_r (I : wg_S) : wg_kp I I := ⟨rfl, rfl, fun _ => rfl⟩
theorem wg_km_r (I : wg_S) : wg_km I I := ⟨rfl, rfl, fun _ => rfl⟩
def wg_sh (a b k : Nat) : Prop := ∀ i, i < k → ¬ wg_lt a i = 0 ∧ wg_lt a i = wg_lt b i
/-- what add answers -/
def wg_AddR (se sz : Nat) (w : Nat → Nat) (n : Nat) (r : Int32) : Prop :=
  (¬ se = 0 ∧ r = -1) ∨ (se = 0 ∧ ¬ wg_ok n ∧ r = -2) ∨ (se = 0 ∧ wg_ok n ∧ 48 ≤ sz ∧ r = -3) ∨ (se = 0 ∧ wg_ok n ∧ sz < 48 ∧ 0 < sz ∧ n ≤ w (sz - 1) ∧ r = -4) ∨ (se = 0 ∧ wg_ok n ∧ sz < 48 ∧ (sz = 0 ∨ w (sz - 1) < n) ∧ r = 0)
theorem wg_AddR_one {se sz : Nat} {w w' : Nat → Nat} {n : Nat} {r r' : Int32} (hw : ∀ k, k < sz → w k = w' k) (h : wg_AddR se sz w n r) (h' : wg_AddR se sz w' n r') : r = r' := by
  rcases h with ⟨a, rfl⟩ | ⟨a, b, rfl⟩ | ⟨a, b, c, rfl⟩ | ⟨a, b, c, d, e, rfl⟩ | ⟨a, b, c, d, rfl⟩ <;> rcases h' with ⟨a', rfl⟩ | ⟨a', b', rfl⟩ | ⟨a', b', c', rfl⟩ | ⟨a', b', c', d', e', rfl⟩ | ⟨a', b', c', d', rfl⟩ <;> first | rfl | (exfalso; first | omega | exact b b' | exact b' b | (have := hw (sz - 1) (by omega); omega))
theorem wg_has1 {k : Int32} {n : Nat} (hb : n < 2 ^ 31) (h1 : ¬ k < 0) (h9 : ¬ nI n ≤ k) : ∃ j, j < n ∧ k = nI j := by
  obtain ⟨j, hj, rfl⟩ := nI_of h1
  rw [nI_leI hb hj] at h9
  exact ⟨j, by omega, rfl⟩
theorem wg_has0a {k : Int32} {n : Nat} (hb : n < 2 ^ 31) (h1 : k < 0) : ∀ j, j < n → ¬ k = nI j := by
  rintro j hj rfl
  exact nI_pos (by omega) h1
theorem wg_has0b {k : Int32} {n : Nat} (hb : n < 2 ^ 31) (h9 : nI n ≤ k) : ∀ j, j < n → ¬ k = nI j := by
  rintro j hj rfl
  rw [nI_leI hb (by omega)] at h9
  omega
theorem wg_st_b {I : wg_S} {k N B i v : Nat} (h : ∀ j, j < N → I k j ≤ B) (hv : v ≤ B) : ∀ j, j < N → wg_st I k i v k j ≤ B := by
  intro j hj
  by_cases q : j = i
  · rw [q, wg_st_s]; exact hv
  · rw [wg_st_n _ _ _ _ q]; exact h j hj
theorem wg_st_l {I : wg_S} {k N B i v : Nat} (h : ∀ j, j < N → I k j < B) (hv : v < B) : ∀ j, j < N → wg_st I k i v k j < B := by
  intro j hj
  by_cases q : j = i
  · rw [q, wg_st_s]; exact hv
  · rw [wg_st_n _ _ _ _ q]; exact h j hj
theorem wg_max {a b : Nat} (ha : a < 2 ^ 31) (hb : b < 2 ^ 31) : (if nI a < nI b then nI b else nI a) = nI (max a b) := by
  by_cases h : a < b
  · rw [if_pos ((nI_ltI ha hb).mpr h), Nat.max_eq_right (Nat.le_of_lt h)]
  · rw [if_neg (fun q => h ((nI_ltI ha hb).mp q)), Nat.max_eq_left (Nat.not_lt.mp h)]
theorem wg_bt_p {u v i j : Nat} (hi : 0 < i) (hj : 0 < j) : wg_bt u v i j = min (wg_bt u v (i - 1) (j - 1) + (if wg_lt u (i - 1) = wg_lt v (j - 1) then 0 else 1)) (min (wg_bt u v (i - 1) j + 1) (wg_bt u v i (j - 1) + 1)) := by
  obtain ⟨i, rfl⟩ : ∃ k, i = k + 1 := ⟨i - 1, by omega⟩
  obtain ⟨j, rfl⟩ : ∃ k, j = k + 1 := ⟨j - 1, by omega⟩
  rw [wg_bt_s]
  rfl
-- the class's invariant through its changes
theorem wg_XI_s {I u : wg_S} (h : wg_XI I) (ho : ∀ j, ¬ j = 9 → ¬ j = 10 → ¬ j = 11 → ¬ j = 12 → ¬ j = 13 → u j = I j) (h11 : u 11 0 ≤ 48) (h12 : ∀ k, k < 169 → u 12 k ≤ 24) (h13 : ∀ k, k < 48 → u 13 k ≤ 24) : wg_XI u := by
  obtain ⟨a1, a2, a3, a4, a5, a6, a7, a8, a9, b1, b2, b3, b4, b5⟩ := h
  have g : ∀ j, ¬ j = 9 → ¬ j = 10 → ¬ j = 11 → ¬ j = 12 → ¬ j = 13 → ∀ k, u j k = I j k := fun j q1 q2 q3 q4 q5 k => by rw [ho j q1 q2 q3 q4 q5]
  refine ⟨?_, ?_, ?_, h11, ?_, ?_, ?_, ?_, ?_, ?_, ?_, h12, h13, ?_⟩
  · rw [g 3 (by decide) (by decide) (by decide) (by decide) (by decide)]; exact a1
  · rw [g 4 (by decide) (by decide) (by decide) (by decide) (by decide)]; exact a2
  · rw [g 8 (by decide) (by decide) (by decide) (by decide) (by decide)]; exact a3
  · rw [g 4 (by decide) (by decide) (by decide) (by decide) (by decide), g 8 (by decide) (by decide) (by decide) (by decide) (by decide)]; exact a5
  · intro k hk; rw [g 0 (by decide) (by decide) (by decide) (by decide) (by decide)]; exact a6 k hk
  · intro k hk; rw [g 1 (by decide) (by decide) (by decide) (by decide) (by decide)]; exact a7 k hk
  · intro k hk; rw [g 2 (by decide) (by decide) (by decide) (by decide) (by decide)]; exact a8 k hk
  · intro k h0 hk; rw [g 3 (by decide) (by decide) (by decide) (by decide) (by decide)] at hk; rw [g 2 (by decide) (by decide) (by decide) (by decide) (by decide)]; exact a9 k h0 hk
  · intro k hk; rw [g 6 (by decide) (by decide) (by decide) (by decide) (by decide)]; exact b1 k hk
  · intro k hk; rw [g 7 (by decide) (by decide) (by decide) (by decide) (by decide)]; exact b2 k hk
  · intro k hk; rw [g 5 (by decide) (by decide) (by decide) (by decide) (by decide)]; exact b5 k hk
theorem wg_XI_f {I u : wg_S} (h : wg_XI I) (ho : ∀ j, ¬ j = 12 → ¬ j = 13 → u j = I j) (h12 : ∀ k, k < 169 → u 12 k ≤ 24) (h13 : ∀ k, k < 48 → u 13 k ≤ 24) : wg_XI u := wg_XI_s h (fun j _ _ _ q1 q2 => ho j q1 q2) (by rw [ho 11 (by decide) (by decide)]; exact h.2.2.2.1) h12 h13
theorem wg_XI_12 {I u : wg_S} (h : wg_XI I) (ho : ∀ j, ¬ j = 12 → u j = I j) (h12 : ∀ k, k < 169 → u 12 k ≤ 24) : wg_XI u := wg_XI_f h (fun j q _ => ho j q) h12 (by rw [ho 13 (by decide)]; exact h.2.2.2.2.2.2.2.2.2.2.2.2.1)
theorem wg_kp_s {I u : wg_S} (ho : ∀ j, ¬ j = 9 → ¬ j = 10 → ¬ j = 11 → ¬ j = 12 → ¬ j = 13 → u j = I j) : wg_kp I u := ⟨by rw [ho 3 (by decide) (by decide) (by decide) (by decide) (by decide)], by rw [ho 4 (by decide) (by decide) (by decide) (by decide) (by decide)], fun k => by rw [ho 0 (by decide) (by decide) (by decide) (by decide) (by decide)]⟩
theorem wg_kp_12 {I u : wg_S} (ho : ∀ j, ¬ j = 12 → u j = I j) : wg_kp I u := wg_kp_s (fun j _ _ _ q _ => ho j q)
theorem wg_XI_5 {I : wg_S} {i v : Nat} (h : wg_XI I) (hv : v < 577) : wg_XI (wg_st I 5 i v) := by
  obtain ⟨a1, a2, a3, a4, a5, a6, a7, a8, a9, b1, b2, b3, b4, b5⟩ := h
  exact ⟨a1, a2, a3, a4, a5, a6, a7, a8, a9, b1, b2, b3, b4, wg_st_l b5 hv⟩
theorem wg_kp_5 {I u : wg_S} {i v : Nat} (h : wg_kp I u) : wg_kp I (wg_st u 5 i v) := h
theorem wg_XI_mk {I : wg_S} {i k t : Nat} (h : wg_XI I) (hc : I 8 0 < 577) (hk : k < 48) (ht : t ≤ 12) (hs : I 4 0 = 1) : wg_XI (wg_st (wg_st (wg_st (wg_st I 6 (I 8 0) k) 7 (I 8 0) t) 8 0 (I 8 0 + 1)) 5 i (I 8 0)) := by
  obtain ⟨a1, a2, a3, a4, a5, a6, a7, a8, a9, b1, b2, b3, b4, b5⟩ := h
  exact ⟨a1, a2, (by show I 8 0 + 1 ≤ 577; omega), a4, (fun q => by have q : I 4 0 = 0 := q; omega), a6, a7, a8, a9, wg_st_l (k := 6) b1 hk, wg_st_b (k := 7) b2 ht, b3, b4, wg_st_l (k := 5) b5 hc⟩
theorem wg_kp_mk {I u : wg_S} {a b c d e f g i v : Nat} (h : wg_kp I u) : wg_kp I (wg_st (wg_st (wg_st (wg_st u 6 a b) 7 c d) 8 e f) 5 i v) := h
theorem wg_XI_4 {I : wg_S} (h : wg_XI I) : wg_XI (wg_st I 4 0 1) := by
  obtain ⟨a1, a2, a3, a4, a5, a6, a7, a8, a9, b1, b2, b3, b4, b5⟩ := h
  exact ⟨a1, (by show (1 : Nat) ≤ 1; omega), a3, a4, (fun q => absurd (show (1 : Nat) = 0 from q) (by decide)), a6, a7, a8, a9, b1, b2, b3, b4, b5⟩
theorem wg_XI_40 {I : wg_S} (h : wg_XI I) (hc : I 8 0 < 577) : wg_XI (wg_st (wg_st (wg_st (wg_st I 4 0 1) 6 (I 8 0) 0) 7 (I 8 0) 0) 8 0 (I 8 0 + 1)) := by
  obtain ⟨a1, a2, a3, a4, a5, a6, a7, a8, a9, b1, b2, b3, b4, b5⟩ := h
  exact ⟨a1, (by show (1 : Nat) ≤ 1; omega), (by show I 8 0 + 1 ≤ 577; omega), a4, (fun q => absurd (show (1 : Nat) = 0 from q) (by decide)), a6, a7, a8, a9, wg_st_l (k := 6) b1 (by omega), wg_st_b (k := 7) b2 (by omega), b3, b4, b5⟩
theorem wg_XI_add {I : wg_S} {n ln f : Nat} (h : wg_XI I) (h3 : I 3 0 < 48) (hn : n < 2 ^ 60) (hl : ln ≤ 12) (hf : f ≤ 13) (hf1 : 0 < I 3 0 → 1 ≤ f) : wg_XI (wg_st (wg_st (wg_st (wg_st I 0 (I 3 0) n) 1 (I 3 0) ln) 2 (I 3 0) f) 3 0 (I 3 0 + 1)) := by
  obtain ⟨a1, a2, a3, a4, a5, a6, a7, a8, a9, b1, b2, b3, b4, b5⟩ := h
  refine ⟨(by show I 3 0 + 1 ≤ 48; omega), a2, a3, a4, a5, wg_st_l (k := 0) a6 hn, wg_st_b (k := 1) a7 hl, wg_st_b (k := 2) a8 hf, ?_, b1, b2, b3, b4, b5⟩
  intro k h0 hk
  have hk : k < I 3 0 + 1 := hk
  show 1 ≤ wg_st I 2 (I 3 0) f 2 k
  by_cases q : k = I 3 0
  · rw [q, wg_st_s]; exact hf1 (by omega)
  · rw [wg_st_n _ _ _ _ q]; exact a9 k h0 (by omega)
theorem wg_XI_cl {I : wg_S} (h : wg_XI I) : wg_XI (wg_st (wg_st (wg_st (wg_st I 3 0 0) 4 0 0) 8 0 0) 11 0 0) := by
  obtain ⟨a1, a2, a3, a4, a5, a6, a7, a8, a9, b1, b2, b3, b4, b5⟩ := h
  exact ⟨(by show (0 : Nat) ≤ 48; omega), (by show (0 : Nat) ≤ 1; omega), (by show (0 : Nat) ≤ 577; omega), (by show (0 : Nat) ≤ 48; omega), (fun _ => rfl), a6, a7, a8, (fun k _ q => by have q : k < 0 := q; omega), b1, b2, b3, b4, b5⟩
-- the reference's
theorem wg_MI_mk {I : wg_S} {k n : Nat} (h : wg_MI I) (hc : I 9 0 < 625) (hk : k < 48) (hn : n ≤ 12) : wg_MI (wg_st (wg_st (wg_st I 7 (I 9 0) k) 8 (I 9 0) n) 9 0 (I 9 0 + 1)) := by
  obtain ⟨a1, a2, a3, a4, a5, a6, a7⟩ := h
  exact ⟨a1, a2, a3, (by show I 9 0 + 1 ≤ 625; omega), a5, wg_st_l (k := 7) a6 hk, wg_st_b (k := 8) a7 hn⟩
theorem wg_km_mk (I : wg_S) {k n a b c d : Nat} : wg_km I (wg_st (wg_st (wg_st I 7 a k) 8 b n) 9 c d) := ⟨rfl, rfl, fun _ => rfl⟩
theorem wg_MI_6 {I : wg_S} {i v : Nat} (h : wg_MI I) : wg_MI (wg_st I 6 i v) := h
theorem wg_MI_29 {I : wg_S} {a b : Nat} (h : wg_MI I) (ha : a ≤ 1) (hb : b ≤ 625) : wg_MI (wg_st (wg_st I 2 0 a) 9 0 b) := by
  obtain ⟨a1, a2, a3, a4, a5, a6, a7⟩ := h
  exact ⟨a1, ha, a3, hb, a5, a6, a7⟩
theorem wg_MI_add {I : wg_S} {n : Nat} (h : wg_MI I) (h1 : I 1 0 < 48) (hn : n < 2 ^ 60) : wg_MI (wg_st (wg_st I 0 (I 1 0) n) 1 0 (I 1 0 + 1)) := by
  obtain ⟨a1, a2, a3, a4, a5, a6, a7⟩ := h
  exact ⟨(by show I 1 0 + 1 ≤ 48; omega), a2, a3, a4, wg_st_l (k := 0) a5 hn, a6, a7⟩
theorem wg_MI_cl {I : wg_S} (h : wg_MI I) : wg_MI (wg_st (wg_st (wg_st (wg_st I 2 0 0) 1 0 0) 3 0 0) 9 0 0) := by
  obtain ⟨a1, a2, a3, a4, a5, a6, a7⟩ := h
  exact ⟨(by show (0 : Nat) ≤ 48; omega), (by show (0 : Nat) ≤ 1; omega), (by show (0 : Nat) ≤ 48; omega), (by show (0 : Nat) ≤ 625; omega), a5, a6, a7⟩
theorem wg_MI_s {I u : wg_S} (h : wg_MI I) (ho : ∀ j, ¬ j = 3 → ¬ j = 4 → ¬ j = 5 → ¬ j = 10 → u j = I j) (h3 : u 3 0 ≤ 48) : wg_MI u := by
  obtain ⟨a1, a2, a3, a4, a5, a6, a7⟩ := h
  refine ⟨?_, ?_, h3, ?_, ?_, ?_, ?_⟩
  · rw [ho 1 (by decide) (by decide) (by decide) (by decide)]; exact a1
  · rw [ho 2 (by decide) (by decide) (by decide) (by decide)]; exact a2
  · rw [ho 9 (by decide) (by decide) (by decide) (by decide)]; exact a4
  · rw [ho 0 (by decide) (by decide) (by decide) (by decide)]; exact a5
  · rw [ho 7 (by decide) (by decide) (by decide) (by decide)]; exact a6
  · rw [ho 8 (by decide) (by decide) (by decide) (by decide)]; exact a7
theorem wg_MI_10 {I u : wg_S} (h : wg_MI I) (ho : ∀ j, ¬ j = 10 → u j = I j) : wg_MI u := wg_MI_s h (fun j _ _ _ q => ho j q) (by rw [ho 3 (by decide)]; exact h.2.2.1)
theorem wg_km_s {I u : wg_S} (ho : ∀ j, ¬ j = 3 → ¬ j = 4 → ¬ j = 5 → ¬ j = 10 → u j = I j) : wg_km I u := ⟨by rw [ho 1 (by decide) (by decide) (by decide) (by decide)], by rw [ho 2 (by decide) (by decide) (by decide) (by decide)], fun k => by rw [ho 0 (by decide) (by decide) (by decide) (by decide)]⟩
theorem wg_km_10 {I u : wg_S} (ho : ∀ j, ¬ j = 10 → u j = I j) : wg_km I u := wg_km_s (fun j _ _ _ q => ho j q)
end
section
/-! More of words and distances: what the functional contracts rest on. -/
theorem wg_len_ln {n : Nat} (h : wg_ok n) : wg_ln n = wg_len n := by
  have key : ∀ i, i ≤ 12 → wg_cn n i = min i (wg_len n) := by
    intro i
    induction i with
    | zero => intro _; rw [wg_cn]; omega
    | succ i ih =>
      intro hi
      have e := ih (by omega)
      have hs := wg_cn_s n i
      by_cases q : i < wg_len n
      · rw [hs.2 (wg_len_ne q), e]; omega
      · rw [hs.1 (wg_ok_tail h i (by omega) (by omega)), e]; omega
  have hl := wg_len_le n
  unfold wg_ln
  rw [key 12 (Nat.le_refl _)]
  omega
theorem wg_digits {a b : Nat} (h : ∀ i, i < 12 → wg_lt a i = wg_lt b i) : ∀ k, k ≤ 12 → a % 2 ^ (5 * k) = b % 2 ^ (5 * k) := by
  intro k
  induction k with
  | zero => intro _; simp [Nat.mod_one]
  | succ k ih =>
    intro hk
    have e : ∀ n : Nat, n % 2 ^ (5 * (k + 1)) = n % 2 ^ (5 * k) + 2 ^ (5 * k) * wg_lt n (12 - (k + 1)) := by
      intro n
      unfold wg_lt
      rw [show 55 - 5 * (12 - (k + 1)) = 5 * k by omega, show 5 * (k + 1) = 5 * k + 5 by omega, Nat.pow_add, Nat.mod_mul]
    rw [e a, e b, ih (by omega), h (12 - (k + 1)) (by omega)]
theorem wg_same_word {a b : Nat} (ha : a < 2 ^ 60) (hb : b < 2 ^ 60) (h : ∀ i, i < 12 → wg_lt a i = wg_lt b i) : a = b := by
  have e := wg_digits h 12 (Nat.le_refl _)
  rw [show 5 * 12 = 60 by omega, Nat.mod_eq_of_lt ha, Nat.mod_eq_of_lt hb] at e
  exact e
theorem wg_shd_eq {a b i : Nat} (h : i < wg_shd a b) : wg_lt a i = wg_lt b i := by
  have := wg_run_all (fun i => wg_lt a i == wg_lt b i) 12 0 i (Nat.zero_le _) h
  simpa using this
theorem wg_shd_len {a b : Nat} (ha : wg_ok a) (hb : wg_ok b) (hne : ¬ a = b) : wg_shd a b ≤ wg_len a := by
  apply Nat.not_lt.mp
  intro q
  apply hne
  have hl := wg_shd_le a b
  have hz : wg_lt a (wg_len a) = 0 := wg_len_z (by omega)
  have hz2 : wg_lt b (wg_len a) = 0 := by rw [← wg_shd_eq q]; exact hz
  have hlb : wg_len b ≤ wg_len a := by
    apply Nat.not_lt.mp
    intro q2
    exact wg_len_ne q2 hz2
  refine wg_same_word ha.1 hb.1 (fun i hi => ?_)
  by_cases hs : i < wg_shd a b
  · exact wg_shd_eq hs
  · rw [wg_ok_tail ha i (by omega) hi, wg_ok_tail hb i (by omega) hi]
theorem wg_bt_pre {v w n : Nat} : ∀ r, (∀ i, i < r → wg_lt v i = wg_lt w i) → ∀ j, wg_bt v n r j = wg_bt w n r j := by
  intro r
  induction r with
  | zero => intro _ j; rw [wg_bt_0, wg_bt_0]
  | succ r ih =>
    intro h j
    have ih := ih (fun i hi => h i (by omega))
    induction j with
    | zero => rw [wg_bt_i, wg_bt_i]
    | succ j ihj => rw [wg_bt_s, wg_bt_s, ih j, ih (j + 1), ihj, h r (by omega)]
theorem wg_bt_sym (u v : Nat) : ∀ i j, wg_bt u v i j = wg_bt v u j i := by
  intro i
  induction i with
  | zero => intro j; rw [wg_bt_0, wg_bt_i]
  | succ i ih =>
    intro j
    induction j with
    | zero => rw [wg_bt_0, wg_bt_i]
    | succ j ihj =>
      rw [wg_bt_s, wg_bt_s, ih j, ih (j + 1), ihj]
      by_cases h : wg_lt u i = wg_lt v j
      · rw [if_pos h, if_pos h.symm]; omega
      · rw [if_neg h, if_neg (fun q => h q.symm)]; omega
theorem wg_rows_prev {T : Nat → Nat} {v w n a r i : Nat} (hv : wg_ok v) (hw : wg_ok w) (hne : ¬ v = w) (hT : ∀ x i, x ≤ wg_len v → i ≤ a → T (x * 13 + i) = wg_bt v n x i) (hr : r ≤ wg_shd v w) (hi : i ≤ a) : T (r * 13 + i) = wg_bt w n r i := by
  have hl := wg_shd_len hv hw hne
  rw [hT r i (by omega) hi]
  exact wg_bt_pre r (fun k hk => wg_shd_eq (by omega)) i
-- counting again
theorem wg_cq_lt {f : Nat → Nat} {e a b : Nat} (h : a < b) (hf : f a = e) : wg_cq f e a < wg_cq f e b := by
  have h2 := wg_cq_mono f e (show a + 1 ≤ b by omega)
  rw [wg_cq_t hf] at h2
  omega
theorem wg_ct_mono (f : Nat → Nat) (n : Nat) {a b : Nat} (h : a ≤ b) : wg_ct f a n ≤ wg_ct f b n := by
  induction b with
  | zero => rw [show a = 0 by omega]; exact Nat.le_refl _
  | succ b ih =>
    rcases Nat.eq_or_lt_of_le h with rfl | q
    · exact Nat.le_refl _
    · rw [wg_ct_s]
      have := ih (by omega)
      omega
/-- what the results hold when all words of distances under e, and of distance e those ahead of k, are taken -/
def wg_RS (f : Nat → Nat) (n : Nat) (A B : Nat → Nat) (e k : Nat) : Prop := ∀ e' k', k' < n → f k' = e' → (e' < e ∨ (e' = e ∧ k' < k)) → A (wg_ct f e' n + wg_cq f e' k') = k' ∧ B (wg_ct f e' n + wg_cq f e' k') = e'
theorem wg_RS_0 (f : Nat → Nat) (n : Nat) (A B : Nat → Nat) : wg_RS f n A B 0 0 := fun e' k' _ _ h => by omega
theorem wg_RS_n {f : Nat → Nat} {n : Nat} {A B : Nat → Nat} {e : Nat} (h : wg_RS f n A B e n) : wg_RS f n A B (e + 1) 0 := fun e' k' h1 h2 h3 => h e' k' h1 h2 (by omega)
theorem wg_RS_f {f : Nat → Nat} {n : Nat} {A B : Nat → Nat} {e k : Nat} (h : wg_RS f n A B e k) (hk : ¬ f k = e) : wg_RS f n A B e (k + 1) := fun e' k' h1 h2 h3 => h e' k' h1 h2 (by
  rcases h3 with h3 | ⟨h3, h4⟩
  · exact Or.inl h3
  · refine Or.inr ⟨h3, ?_⟩
    apply Nat.lt_of_le_of_ne (by omega)
    intro q
    subst q
    exact hk (h2.trans h3))
theorem wg_RS_t {f : Nat → Nat} {n : Nat} {A B A' B' : Nat → Nat} {e k : Nat} (h : wg_RS f n A B e k) (hkn : k < n) (hk : f k = e) (hA : ∀ x, ¬ x = wg_ct f e n + wg_cq f e k → A' x = A x) (hB : ∀ x, ¬ x = wg_ct f e n + wg_cq f e k → B' x = B x) (hA1 : A' (wg_ct f e n + wg_cq f e k) = k) (hB1 : B' (wg_ct f e n + wg_cq f e k) = e) : wg_RS f n A' B' e (k + 1) := by
  intro e' k' h1 h2 h3
  by_cases q : e' = e ∧ k' = k
  · obtain ⟨rfl, rfl⟩ := q
    exact ⟨hA1, hB1⟩
  · have h4 : e' < e ∨ (e' = e ∧ k' < k) := by omega
    have hlt : wg_ct f e' n + wg_cq f e' k' < wg_ct f e n + wg_cq f e k := by
      rcases h4 with h4 | ⟨rfl, h4⟩
      · have a1 := wg_cq_lt h1 h2
        have a2 := wg_ct_s f e' n
        have a3 := wg_ct_mono f n (show e' + 1 ≤ e by omega)
        omega
      · have := wg_cq_lt h4 h2
        omega
    rw [hA _ (by omega), hB _ (by omega)]
    exact h e' k' h1 h2 h4
theorem wg_cq_at {f : Nat → Nat} {e : Nat} : ∀ n i, i < wg_cq f e n → ∃ k, k < n ∧ f k = e ∧ wg_cq f e k = i := by
  intro n
  induction n with
  | zero => intro i h; rw [wg_cq] at h; omega
  | succ n ih =>
    intro i h
    by_cases q : i < wg_cq f e n
    · obtain ⟨k, h1, h2, h3⟩ := ih i q
      exact ⟨k, by omega, h2, h3⟩
    · by_cases hf : f n = e
      · rw [wg_cq_t hf] at h
        exact ⟨n, by omega, hf, by omega⟩
      · rw [wg_cq_f hf] at h
        omega
theorem wg_ct_at {f : Nat → Nat} {n : Nat} : ∀ E i, i < wg_ct f E n → ∃ e k, e < E ∧ k < n ∧ f k = e ∧ i = wg_ct f e n + wg_cq f e k := by
  intro E
  induction E with
  | zero => intro i h; rw [wg_ct_0] at h; omega
  | succ E ih =>
    intro i h
    by_cases q : i < wg_ct f E n
    · obtain ⟨e, k, h1, h2, h3, h4⟩ := ih i q
      exact ⟨e, k, by omega, h2, h3, h4⟩
    · rw [wg_ct_s] at h
      obtain ⟨k, h1, h2, h3⟩ := wg_cq_at (f := f) (e := E) n (i - wg_ct f E n) (by omega)
      exact ⟨E, k, by omega, h1, h2, by omega⟩
theorem wg_cq_ext {f g : Nat → Nat} {e : Nat} : ∀ n, (∀ k, k < n → f k = g k) → wg_cq f e n = wg_cq g e n := by
  intro n
  induction n with
  | zero => intro _; rfl
  | succ n ih => intro h; rw [wg_cq, wg_cq, ih (fun k hk => h k (by omega)), h n (by omega)]
theorem wg_ct_ext {f g : Nat → Nat} {e : Nat} : ∀ n, (∀ k, k < n → f k = g k) → wg_ct f e n = wg_ct g e n := by
  intro n
  induction n with
  | zero => intro _; rfl
  | succ n ih => intro h; rw [wg_ct, wg_ct, ih (fun k hk => h k (by omega)), h n (by omega)]
/-- two that hold the same results, as far as they go -/
theorem wg_RS_same {f g : Nat → Nat} {n E : Nat} {A B A' B' : Nat → Nat} (hfg : ∀ k, k < n → f k = g k) (h : wg_RS f n A B E 0) (h' : wg_RS g n A' B' E 0) : ∀ i, i < wg_ct f E n → A i = A' i ∧ B i = B' i := by
  intro i hi
  obtain ⟨e, k, h1, h2, h3, rfl⟩ := wg_ct_at E i hi
  obtain ⟨a1, a2⟩ := h e k h2 h3 (Or.inl h1)
  have b := h' e k h2 ((hfg k h2).symm.trans h3) (Or.inl h1)
  rw [← wg_ct_ext n hfg, ← wg_cq_ext k (fun j hj => hfg j (by omega))] at b
  exact ⟨a1.trans b.1.symm, a2.trans b.2.symm⟩
/-- the words kept: what the functional contracts need of the class's arrays -/
def wg_XF (I : wg_S) : Prop := (∀ k, k < I 3 0 → wg_ok (I 0 k) ∧ I 1 k = wg_len (I 0 k)) ∧ (0 < I 3 0 → I 2 0 = 0) ∧ (∀ k, 0 < k → k < I 3 0 → I 2 k = wg_shd (I 0 (k - 1)) (I 0 k) + 1 ∧ I 0 (k - 1) < I 0 k)
theorem wg_XF_fr {I u : wg_S} (h : wg_XF I) (hf : ∀ j, j < 4 → u j = I j) : wg_XF u := by
  unfold wg_XF
  rw [hf 0 (by omega), hf 1 (by omega), hf 2 (by omega), hf 3 (by omega)]
  exact h
theorem wg_XF_add0 {I : wg_S} {n : Nat} (hn : wg_ok n) (h3 : I 3 0 = 0) : wg_XF (wg_st (wg_st (wg_st (wg_st I 0 (I 3 0) n) 1 (I 3 0) (wg_len n)) 2 (I 3 0) 0) 3 0 (I 3 0 + 1)) := by
  have e0 : ∀ k, wg_st (wg_st (wg_st (wg_st I 0 (I 3 0) n) 1 (I 3 0) (wg_len n)) 2 (I 3 0) 0) 3 0 (I 3 0 + 1) 0 k = wg_st I 0 (I 3 0) n 0 k := fun _ => rfl
  refine ⟨fun k hk => ?_, fun _ => ?_, fun k h0 hk => ?_⟩
  · have hk : k < I 3 0 + 1 := hk
    have hk : k = I 3 0 := by omega
    subst hk
    exact ⟨by show wg_ok (wg_st I 0 (I 3 0) n 0 (I 3 0)); rw [wg_st_s]; exact hn, by show wg_st I 1 (I 3 0) (wg_len n) 1 (I 3 0) = wg_len (wg_st I 0 (I 3 0) n 0 (I 3 0)); rw [wg_st_s, wg_st_s]⟩
  · show wg_st I 2 (I 3 0) 0 2 0 = 0
    rw [h3, wg_st_s]
  · have hk : k < I 3 0 + 1 := hk
    omega
theorem wg_XF_add1 {I : wg_S} {n : Nat} (h : wg_XF I) (hn : wg_ok n) (h3 : 0 < I 3 0) (hlt : I 0 (I 3 0 - 1) < n) : wg_XF (wg_st (wg_st (wg_st (wg_st I 0 (I 3 0) n) 1 (I 3 0) (wg_len n)) 2 (I 3 0) (wg_shd (wg_st I 0 (I 3 0) n 0 (I 3 0 - 1)) n + 1)) 3 0 (I 3 0 + 1)) := by
  obtain ⟨a, b, c⟩ := h
  refine ⟨fun k hk => ?_, fun _ => ?_, fun k h0 hk => ?_⟩
  · have hk : k < I 3 0 + 1 := hk
    show wg_ok (wg_st I 0 (I 3 0) n 0 k) ∧ wg_st I 1 (I 3 0) (wg_len n) 1 k = wg_len (wg_st I 0 (I 3 0) n 0 k)
    by_cases q : k = I 3 0
    · subst q
      rw [wg_st_s, wg_st_s]
      exact ⟨hn, rfl⟩
    · rw [wg_st_n _ _ _ _ q, wg_st_n _ _ _ _ q]
      exact a k (by omega)
  · show wg_st I 2 (I 3 0) (wg_shd (wg_st I 0 (I 3 0) n 0 (I 3 0 - 1)) n + 1) 2 0 = 0
    rw [wg_st_n _ _ _ _ (by omega)]
    exact b h3
  · have hk : k < I 3 0 + 1 := hk
    show wg_st I 2 (I 3 0) (wg_shd (wg_st I 0 (I 3 0) n 0 (I 3 0 - 1)) n + 1) 2 k = wg_shd (wg_st I 0 (I 3 0) n 0 (k - 1)) (wg_st I 0 (I 3 0) n 0 k) + 1 ∧ wg_st I 0 (I 3 0) n 0 (k - 1) < wg_st I 0 (I 3 0) n 0 k
    by_cases q : k = I 3 0
    · subst q
      rw [wg_st_s, wg_st_s]
      exact ⟨rfl, by rw [wg_st_n _ _ _ _ (by omega)]; exact hlt⟩
    · rw [wg_st_n _ _ _ _ q, wg_st_n _ _ _ _ q, wg_st_n I 0 (I 3 0) n (show ¬ k - 1 = I 3 0 by omega)]
      exact c k h0 (by omega)
theorem wg_dno1 {d : Int32} (h : d < 0) : ¬ ∃ dn, dn ≤ 3 ∧ d = nI dn := by
  rintro ⟨dn, h1, rfl⟩
  exact nI_pos (by omega) h
theorem wg_dno2 {d : Int32} (h : ¬ d ≤ nI 3) : ¬ ∃ dn, dn ≤ 3 ∧ d = nI dn := by
  rintro ⟨dn, h1, rfl⟩
  exact h (nI_le h1 (by decide))
theorem wg_RS_ext {f g : Nat → Nat} {n E : Nat} {A B : Nat → Nat} (hfg : ∀ k, k < n → f k = g k) (h : wg_RS f n A B E 0) : wg_RS g n A B E 0 := by
  intro e k h1 h2 h3
  have b := h e k h1 ((hfg k h1).trans h2) h3
  rw [wg_ct_ext n hfg, wg_cq_ext k (fun j hj => hfg j (by omega))] at b
  exact b
end
section
set_option maxHeartbeats 4000000 in
set_option maxRecDepth 100000 in
theorem c_X_letterAt (l : Launch) (D : va_G) (cJ cI : ClassId) (sz : Nat) (n : Nat) (i : Nat) (hn : n < 2 ^ 64) (hi : i ≤ 12) : Met l y_X_letterAt (wg_ws y_X_letterAt b_X_letterAt 3 (some .int)) ({ frames := 0, cells := 0, slots := 0, locals := 0 }) (va_Pc [.long (lN n), .int (nI i)] (wg_Pc D cJ cI (wg_W0 fun _ _ => 0) sz)) (va_Qi (fun (r : Int32) (u : Unit) => r = nI (wg_la n i)) (fun (_ : Unit) _ => True) (va_A (wg_W0 fun _ _ => 0) sz)) 0 0 (va_A (wg_W0 fun _ _ => 0) sz) := by
  refine wg_head (Wd := wg_W0) (I := (fun _ _ => 0)) (fun A => va_Qi (fun (r : Int32) (u : Unit) => r = nI (wg_la n i)) (fun (_ : Unit) _ => True) A) R_X (by decide) rfl (Nat.le_of_ble_eq_true rfl) wg_same_0 ?_
  intro p e s m below meth c A ls hx hb hr hlk hml hown hnm hts hA hK hD hP hS hl hsz
  clear hsz
  have hl : lv_has ls 3 [(0, .long (lN n)), (2, .int (nI i))] := hl
  have hP : va_P D wg_cl (wg_W0 fun _ _ => 0) s.heap := hP
  skip
  refine lv_iload_n hx hb d_X_letterAt_0 rfl (lv_at hl 1 rfl) ?_
  refine lv_bipush (v := (nI 12)) hx hb d_X_letterAt_1 (by decide +kernel) ?_
  refine lv_icmp_lt (tgt := 8) hx hb d_X_letterAt_3 (by decide) (fun h3 => ?_) (fun h3 => ?_)
  · rw [nI_ltI (by omega) (by omega)] at h3
    refine lv_lload_n hx hb d_X_letterAt_8 rfl (lv_at hl 0 rfl) ?_
    refine lv_bipush (v := (nI 60)) hx hb d_X_letterAt_9 (by decide +kernel) ?_
    refine lv_iconst (v := (nI 5)) hx hb d_X_letterAt_11 (by decide +kernel) ?_
    refine lv_iload_n hx hb d_X_letterAt_12 rfl (lv_at hl 1 rfl) ?_
    refine lv_iconst (v := (nI 1)) hx hb d_X_letterAt_13 (by decide +kernel) ?_
    refine t_iadd (v := nI (i + 1)) hx hb d_X_letterAt_14 (nI_add _ _) ?_
    refine t_imul (v := nI (5 * (i + 1))) hx hb d_X_letterAt_15 (pk_mul _ _) ?_
    refine t_isub (v := nI (60 - (5 * (i + 1)))) hx hb d_X_letterAt_16 (pk_sub (by omega)) ?_
    refine lv_lushr (v := lN (n / 2 ^ (60 - (5 * (i + 1))))) hx hb d_X_letterAt_17 (wb_shr (by omega) (by omega)) ?_
    refine lv_l2i (v := nI (n / 2 ^ (60 - (5 * (i + 1))))) hx hb d_X_letterAt_18 (lN_i _) ?_
    refine lv_bipush (v := (nI 31)) hx hb d_X_letterAt_19 (by decide +kernel) ?_
    refine t_iand (v := nI ((n / 2 ^ (60 - (5 * (i + 1)))) % 32)) hx hb d_X_letterAt_21 (wg_and31 _) ?_
    exact W.iret (v := (nI ((n / 2 ^ (60 - (5 * (i + 1)))) % 32))) hx hb hr (fun tt hth hW => ⟨⟨_, (), rfl, (by rw [wg_la_lt (by omega), wg_lt, show 60 - 5 * (i + 1) = 55 - 5 * i by omega]), trivial⟩, hS.F hth⟩) hS.2.2 d_X_letterAt_22
  · rw [nI_ltI (by omega) (by omega)] at h3
    refine lv_iconst (v := (nI 0)) hx hb d_X_letterAt_6 (by decide +kernel) ?_
    exact W.iret (v := (nI 0)) hx hb hr (fun tt hth hW => ⟨⟨_, (), rfl, (by rw [wg_la_12 (by omega)]), trivial⟩, hS.F hth⟩) hS.2.2 d_X_letterAt_7
set_option maxHeartbeats 4000000 in
set_option maxRecDepth 100000 in
theorem c_X_lengthOf (l : Launch) (D : va_G) (cJ cI : ClassId) (sz : Nat) (n : Nat) (hn : n < 2 ^ 64) : Met l y_X_lengthOf (wg_ws y_X_lengthOf b_X_lengthOf 3 (some .int)) ({ frames := 1, cells := 0, slots := 0, locals := 22 }) (va_Pc [.long (lN n)] (wg_Pc D cJ cI (wg_W0 fun _ _ => 0) sz)) (va_Qi (fun (r : Int32) (u : Unit) => r = nI (wg_len n)) (fun (_ : Unit) _ => True) (va_A (wg_W0 fun _ _ => 0) sz)) 0 0 (va_A (wg_W0 fun _ _ => 0) sz) := by
  refine wg_head (Wd := wg_W0) (I := (fun _ _ => 0)) (fun A => va_Qi (fun (r : Int32) (u : Unit) => r = nI (wg_len n)) (fun (_ : Unit) _ => True) A) R_X (by decide) rfl (Nat.le_of_ble_eq_true rfl) wg_same_0 ?_
  intro p e s m below meth c A ls hx hb hr hlk hml hown hnm hts hA hK hD hP hS hl hsz
  clear hsz
  have hl : lv_has ls 3 [(0, .long (lN n))] := hl
  have hP : va_P D wg_cl (wg_W0 fun _ _ => 0) s.heap := hP
  skip
  refine lv_iconst (v := (nI 0)) hx hb d_X_lengthOf_0 (by decide +kernel) ?_
  refine lv_istore_n (lv' := [(2, .int (nI 0)), (0, .long (lN n))]) hx hb d_X_lengthOf_1 rfl hl (by decide) rfl (fun ls hl => ?_)
  refine wg_loop (fun i _ _ _ H locs ls => (i ≤ 12) ∧ (wg_run (fun i => !(wg_lt n i == 0)) (12 - i) i = wg_len n) ∧ va_P D wg_cl (wg_W0 fun _ _ => 0) H ∧ va_S A s.heap H locs ∧ lv_has ls 3 [(0, .long (lN n)), (2, .int (nI i))]) (fun i _ _ _ => 12 - i) (fun i _z0 _z1 _J H locs ls hI ih2 => ?_) 0 0 0 (fun _ _ => 0) _ _ _ ⟨(by omega), rfl, hP, hS, lv_sub hl [1, 0] rfl⟩
  obtain ⟨hi, hrn, hP, hS, hl⟩ := hI
  refine lv_iload_n hx hb d_X_lengthOf_2 rfl (lv_at hl 1 rfl) ?_
  refine lv_bipush (v := (nI 12)) hx hb d_X_lengthOf_3 (by decide +kernel) ?_
  refine lv_icmp_ge (tgt := 22) hx hb d_X_lengthOf_5 (by decide) (fun h5 => ?_) (fun h5 => ?_)
  · rw [nI_leI (by omega) (by omega)] at h5
    have hi : i = 12 := by omega
    rw [wg_run_e (by omega)] at hrn
    refine lv_iload_n hx hb d_X_lengthOf_22 rfl (lv_at hl 1 rfl) ?_
    exact W.iret (v := (nI i)) hx hb hr (fun tt hth hW => ⟨⟨_, (), rfl, (by rw [← hrn]), trivial⟩, hS.F hth⟩) hS.2.2 d_X_lengthOf_23
  · rw [nI_leI (by omega) (by omega)] at h5
    refine lv_lload_n hx hb d_X_lengthOf_8 rfl (lv_at hl 0 rfl) ?_
    refine lv_iload_n hx hb d_X_lengthOf_9 rfl (lv_at hl 1 rfl) ?_
    refine wg_csi (As := [.long (lN n), .int (nI i)]) (rest := []) hx hb hml hown hts hK hP hS hA (c_X_letterAt l D cJ cI _ n i (by omega) (by omega)) kc_X_91 ⟨rfl, rfl⟩ ⟨Nat.le_of_ble_eq_true rfl, Nat.le_of_ble_eq_true rfl⟩ rfl hl.1 rfl (Nat.le_of_ble_eq_true rfl) d_X_lengthOf_10 ⟨Nat.zero_le _, Nat.zero_le _⟩ (fun r H locs q10 hP hS => ?_)
    obtain rfl := q10
    have hq10 := wg_la_le n i
    refine lv_if_eq (tgt := 22) hx hb d_X_lengthOf_13 (by decide) (fun h13 => ?_) (fun h13 => ?_)
    · rw [wg_z0 (by omega)] at h13
      rw [wg_la_lt (by omega)] at h13
      rw [wg_run_f (by simpa using h13)] at hrn
      refine lv_iload_n hx hb d_X_lengthOf_22 rfl (lv_at hl 1 rfl) ?_
      exact W.iret (v := (nI i)) hx hb hr (fun tt hth hW => ⟨⟨_, (), rfl, (by rw [← hrn]), trivial⟩, hS.F hth⟩) hS.2.2 d_X_lengthOf_23
    · rw [wg_z0 (by omega)] at h13
      rw [wg_la_lt (by omega)] at h13
      refine lv_iinc (v := nI (i + 1)) (k := 1) (lv' := [(2, .int (nI (i + 1))), (0, .long (lN n))]) hx hb d_X_lengthOf_16 hl rfl (nI_1 _) (by decide) rfl (fun ls hl => ?_)
      refine lv_goto (tgt := 2) hx hb d_X_lengthOf_19 (by decide) ?_
      exact ih2 (i + 1) 0 0 (fun _ _ => 0) _ _ _ ⟨(by omega), ((wg_run_t (by omega) (by simpa using h13)).symm.trans hrn), hP, hS, lv_sub hl [1, 0] rfl⟩ (by omega)
set_option maxHeartbeats 4000000 in
set_option maxRecDepth 100000 in
theorem c_X_restOf (l : Launch) (D : va_G) (cJ cI : ClassId) (sz : Nat) (n : Nat) (t : Nat) (ht : t ≤ 12) : Met l y_X_restOf (wg_ws y_X_restOf b_X_restOf 3 (some .long)) ({ frames := 0, cells := 0, slots := 0, locals := 0 }) (va_Pc [.long (lN n), .int (nI t)] (wg_Pc D cJ cI (wg_W0 fun _ _ => 0) sz)) (va_Ql (fun (r : Int64) (u : Unit) => r = lN (n * 2 ^ (5 * t) % 2 ^ 60)) (fun (_ : Unit) _ => True) (va_A (wg_W0 fun _ _ => 0) sz)) 0 0 (va_A (wg_W0 fun _ _ => 0) sz) := by
  refine wg_head (Wd := wg_W0) (I := (fun _ _ => 0)) (fun A => va_Ql (fun (r : Int64) (u : Unit) => r = lN (n * 2 ^ (5 * t) % 2 ^ 60)) (fun (_ : Unit) _ => True) A) R_X (by decide) rfl (Nat.le_of_ble_eq_true rfl) wg_same_0 ?_
  intro p e s m below meth c A ls hx hb hr hlk hml hown hnm hts hA hK hD hP hS hl hsz
  clear hsz
  have hl : lv_has ls 3 [(0, .long (lN n)), (2, .int (nI t))] := hl
  have hP : va_P D wg_cl (wg_W0 fun _ _ => 0) s.heap := hP
  skip
  refine lv_lload_n hx hb d_X_restOf_0 rfl (lv_at hl 0 rfl) ?_
  refine lv_iconst (v := (nI 5)) hx hb d_X_restOf_1 (by decide +kernel) ?_
  refine lv_iload_n hx hb d_X_restOf_2 rfl (lv_at hl 1 rfl) ?_
  refine t_imul (v := nI (5 * t)) hx hb d_X_restOf_3 (pk_mul _ _) ?_
  refine lv_lshl (v := lN (n * 2 ^ (5 * t))) hx hb d_X_restOf_4 (wb_shl _ (by omega)) ?_
  refine lv_ldc2 (v := (lN 1152921504606846975)) hx hb hown (hts _ kl_X_112) d_X_restOf_5 ?_
  refine t_land (v := lN ((n * 2 ^ (5 * t)) % 2 ^ 60)) hx hb d_X_restOf_8 (wg_land60 _) ?_
  exact W.lret (v := (lN ((n * 2 ^ (5 * t)) % 2 ^ 60))) hx hb hr (fun tt hth hW => ⟨⟨_, (), rfl, rfl, trivial⟩, hS.F hth⟩) hS.2.2 d_X_restOf_9
set_option maxHeartbeats 4000000 in
set_option maxRecDepth 100000 in
theorem c_X_isWord (l : Launch) (D : va_G) (cJ cI : ClassId) (sz : Nat) (n : Nat) (hn : n < 2 ^ 64) : Met l y_X_isWord (wg_ws y_X_isWord b_X_isWord 4 (some .boolean)) ({ frames := 2, cells := 0, slots := 0, locals := 44 }) (va_Pc [.long (lN n)] (wg_Pc D cJ cI (wg_W0 fun _ _ => 0) sz)) (va_Qi (fun (r : Int32) (u : Unit) => (r = nI 1 ∧ wg_ok n) ∨ (r = nI 0 ∧ ¬ wg_ok n)) (fun (_ : Unit) _ => True) (va_A (wg_W0 fun _ _ => 0) sz)) 0 0 (va_A (wg_W0 fun _ _ => 0) sz) := by
  refine wg_head (Wd := wg_W0) (I := (fun _ _ => 0)) (fun A => va_Qi (fun (r : Int32) (u : Unit) => (r = nI 1 ∧ wg_ok n) ∨ (r = nI 0 ∧ ¬ wg_ok n)) (fun (_ : Unit) _ => True) A) R_X (by decide) rfl (Nat.le_of_ble_eq_true rfl) wg_same_0 ?_
  intro p e s m below meth c A ls hx hb hr hlk hml hown hnm hts hA hK hD hP hS hl hsz
  clear hsz
  have hl : lv_has ls 4 [(0, .long (lN n))] := hl
  have hP : va_P D wg_cl (wg_W0 fun _ _ => 0) s.heap := hP
  skip
  refine lv_lload_n hx hb d_X_isWord_0 rfl (lv_at hl 0 rfl) ?_
  refine lv_lconst (v := lN 0) hx hb d_X_isWord_1 (by decide +kernel) ?_
  refine W.lcmp hx hb d_X_isWord_2 ?_
  refine lv_if_lt (tgt := 14) hx hb d_X_isWord_3 (by decide) (fun h3 => ?_) (fun h3 => ?_)
  · rw [lg_cmp_lt] at h3
    rw [wg_lneg hn] at h3
    refine lv_iconst (v := (nI 0)) hx hb d_X_isWord_14 (by decide +kernel) ?_
    exact W.zret (ty := .boolean) (v := (nI 0)) hx hb hr (by decide +kernel) (fun tt hth hW => ⟨⟨_, (), rfl, (Or.inr ⟨rfl, fun q => by have := q.1; omega⟩), trivial⟩, hS.F hth⟩) hS.2.2 d_X_isWord_15
  · rw [lg_cmp_lt] at h3
    rw [wg_lneg hn] at h3
    refine lv_lload_n hx hb d_X_isWord_6 rfl (lv_at hl 0 rfl) ?_
    refine lv_ldc2 (v := (lN 1152921504606846975)) hx hb hown (hts _ kl_X_112) d_X_isWord_7 ?_
    refine W.lcmp hx hb d_X_isWord_10 ?_
    refine lv_if_le (tgt := 16) hx hb d_X_isWord_11 (by decide) (fun h11 => ?_) (fun h11 => ?_)
    · rw [lg_cmp_le] at h11
      rw [pk_lLE (by omega) (by omega)] at h11
      refine lv_lload_n hx hb d_X_isWord_16 rfl (lv_at hl 0 rfl) ?_
      refine wg_csi (As := [.long (lN n)]) (rest := []) hx hb hml hown hts hK hP hS hA (c_X_lengthOf l D cJ cI _ n (by omega)) kc_X_56 ⟨rfl, rfl⟩ ⟨Nat.le_of_ble_eq_true rfl, Nat.le_of_ble_eq_true rfl⟩ rfl hl.1 rfl (Nat.le_of_ble_eq_true rfl) d_X_isWord_17 ⟨Nat.zero_le _, Nat.zero_le _⟩ (fun r H locs q17 hP hS => ?_)
      obtain rfl := q17
      have hq17 := wg_len_le n
      refine lv_istore_n (lv' := [(2, .int (nI (wg_len n))), (0, .long (lN n))]) hx hb d_X_isWord_20 rfl hl (by decide) rfl (fun ls hl => ?_)
      refine lv_iconst (v := (nI 0)) hx hb d_X_isWord_21 (by decide +kernel) ?_
      refine lv_istore_n (lv' := [(3, .int (nI 0)), (2, .int (nI (wg_len n))), (0, .long (lN n))]) hx hb d_X_isWord_22 rfl hl (by decide) rfl (fun ls hl => ?_)
      refine wg_loop (fun i _ _ _ H locs ls => (i ≤ wg_len n) ∧ (∀ j, j < i → wg_lt n j ≤ 26) ∧ va_P D wg_cl (wg_W0 fun _ _ => 0) H ∧ va_S A s.heap H locs ∧ lv_has ls 4 [(0, .long (lN n)), (2, .int (nI (wg_len n))), (3, .int (nI i))]) (fun i _ _ _ => 13 - i) (fun i _z0 _z1 _J H locs ls hI ih23 => ?_) 0 0 0 (fun _ _ => 0) _ _ _ ⟨(by omega), (fun j h => by omega), hP, hS, lv_sub hl [2, 1, 0] rfl⟩
      obtain ⟨hi, hbb, hP, hS, hl⟩ := hI
      refine lv_iload_n hx hb d_X_isWord_23 rfl (lv_at hl 2 rfl) ?_
      refine lv_iload_n hx hb d_X_isWord_24 rfl (lv_at hl 1 rfl) ?_
      refine lv_icmp_ge (tgt := 46) hx hb d_X_isWord_25 (by decide) (fun h25 => ?_) (fun h25 => ?_)
      · rw [nI_leI (by omega) (by omega)] at h25
        have hi : i = wg_len n := by omega
        refine lv_lload_n hx hb d_X_isWord_46 rfl (lv_at hl 0 rfl) ?_
        refine lv_iload_n hx hb d_X_isWord_47 rfl (lv_at hl 1 rfl) ?_
        refine wg_csl (As := [.long (lN n), .int (nI (wg_len n))]) (rest := []) hx hb hml hown hts hK hP hS hA (c_X_restOf l D cJ cI _ n (wg_len n) (by omega)) kc_X_114 ⟨rfl, rfl⟩ ⟨Nat.le_of_ble_eq_true rfl, Nat.le_of_ble_eq_true rfl⟩ rfl hl.1 rfl (Nat.le_of_ble_eq_true rfl) d_X_isWord_48 ⟨Nat.zero_le _, Nat.zero_le _⟩ (fun r H locs q48 hP hS => ?_)
        obtain rfl := q48
        refine lv_lconst (v := lN 0) hx hb d_X_isWord_51 (by decide +kernel) ?_
        refine W.lcmp hx hb d_X_isWord_52 ?_
        refine lv_if_ne (tgt := 60) hx hb d_X_isWord_53 (by decide) (fun h53 => ?_) (fun h53 => ?_)
        · rw [lg_cmp_eq] at h53
          rw [pk_lEQ (by omega) (by omega)] at h53
          refine lv_iconst (v := (nI 0)) hx hb d_X_isWord_60 (by decide +kernel) ?_
          exact W.zret (ty := .boolean) (v := (nI 0)) hx hb hr (by decide +kernel) (fun tt hth hW => ⟨⟨_, (), rfl, (Or.inr ⟨rfl, wg_ok_no h53⟩), trivial⟩, hS.F hth⟩) hS.2.2 d_X_isWord_61
        · rw [lg_cmp_eq] at h53
          rw [pk_lEQ (by omega) (by omega)] at h53
          refine lv_iconst (v := (nI 1)) hx hb d_X_isWord_56 (by decide +kernel) ?_
          refine lv_goto (tgt := 61) hx hb d_X_isWord_57 (by decide) ?_
          exact W.zret (ty := .boolean) (v := (nI 1)) hx hb hr (by decide +kernel) (fun tt hth hW => ⟨⟨_, (), rfl, (Or.inl ⟨rfl, wg_ok_of (by omega) (by rw [← hi]; exact hbb) h53⟩), trivial⟩, hS.F hth⟩) hS.2.2 d_X_isWord_61
      · rw [nI_leI (by omega) (by omega)] at h25
        refine lv_lload_n hx hb d_X_isWord_28 rfl (lv_at hl 0 rfl) ?_
        refine lv_iload_n hx hb d_X_isWord_29 rfl (lv_at hl 2 rfl) ?_
        refine wg_csi (As := [.long (lN n), .int (nI i)]) (rest := []) hx hb hml hown hts hK hP hS hA (c_X_letterAt l D cJ cI _ n i (by omega) (by omega)) kc_X_91 ⟨rfl, rfl⟩ ⟨Nat.le_of_ble_eq_true rfl, Nat.le_of_ble_eq_true rfl⟩ rfl hl.1 rfl (Nat.le_of_ble_eq_true rfl) d_X_isWord_30 ⟨Nat.zero_le _, Nat.zero_le _⟩ (fun r H locs q30 hP hS => ?_)
        obtain rfl := q30
        have hq30 := wg_la_le n i
        refine lv_bipush (v := (nI 26)) hx hb d_X_isWord_33 (by decide +kernel) ?_
        refine lv_icmp_le (tgt := 40) hx hb d_X_isWord_35 (by decide) (fun h35 => ?_) (fun h35 => ?_)
        · rw [nI_leI (by omega) (by omega)] at h35
          refine lv_iinc (v := nI (i + 1)) (k := 2) (lv' := [(3, .int (nI (i + 1))), (0, .long (lN n)), (2, .int (nI (wg_len n)))]) hx hb d_X_isWord_40 hl rfl (nI_1 _) (by decide) rfl (fun ls hl => ?_)
          refine lv_goto (tgt := 23) hx hb d_X_isWord_43 (by decide) ?_
          exact ih23 (i + 1) 0 0 (fun _ _ => 0) _ _ _ ⟨(by omega), (fun j h => by rcases Nat.lt_succ_iff_lt_or_eq.mp h with h | rfl; exact hbb j h; rw [wg_la_lt (by omega)] at h35; exact h35), hP, hS, lv_sub hl [1, 2, 0] rfl⟩ (by omega)
        · rw [nI_leI (by omega) (by omega)] at h35
          refine lv_iconst (v := (nI 0)) hx hb d_X_isWord_38 (by decide +kernel) ?_
          exact W.zret (ty := .boolean) (v := (nI 0)) hx hb hr (by decide +kernel) (fun tt hth hW => ⟨⟨_, (), rfl, (Or.inr ⟨rfl, wg_ok_big (i := i) (by omega) (by rw [wg_la_lt (by omega)] at h35; exact h35)⟩), trivial⟩, hS.F hth⟩) hS.2.2 d_X_isWord_39
    · rw [lg_cmp_le] at h11
      rw [pk_lLE (by omega) (by omega)] at h11
      refine lv_iconst (v := (nI 0)) hx hb d_X_isWord_14 (by decide +kernel) ?_
      exact W.zret (ty := .boolean) (v := (nI 0)) hx hb hr (by decide +kernel) (fun tt hth hW => ⟨⟨_, (), rfl, (Or.inr ⟨rfl, fun q => by have := q.1; omega⟩), trivial⟩, hS.F hth⟩) hS.2.2 d_X_isWord_15
set_option maxHeartbeats 4000000 in
set_option maxRecDepth 100000 in
theorem c_X_sharedLetters (l : Launch) (D : va_G) (cJ cI : ClassId) (sz : Nat) (a : Nat) (b : Nat) (ha64 : a < 2 ^ 64) (hb64 : b < 2 ^ 64) : Met l y_X_sharedLetters (wg_ws y_X_sharedLetters b_X_sharedLetters 5 (some .int)) ({ frames := 1, cells := 0, slots := 0, locals := 22 }) (va_Pc [.long (lN a), .long (lN b)] (wg_Pc D cJ cI (wg_W0 fun _ _ => 0) sz)) (va_Qi (fun (r : Int32) (u : Unit) => r = nI (wg_shd a b)) (fun (_ : Unit) _ => True) (va_A (wg_W0 fun _ _ => 0) sz)) 0 0 (va_A (wg_W0 fun _ _ => 0) sz) := by
  refine wg_head (Wd := wg_W0) (I := (fun _ _ => 0)) (fun A => va_Qi (fun (r : Int32) (u : Unit) => r = nI (wg_shd a b)) (fun (_ : Unit) _ => True) A) R_X (by decide) rfl (Nat.le_of_ble_eq_true rfl) wg_same_0 ?_
  intro p e s m below meth c A ls hx hb hr hlk hml hown hnm hts hA hK hD hP hS hl hsz
  clear hsz
  have hl : lv_has ls 5 [(0, .long (lN a)), (2, .long (lN b))] := hl
  have hP : va_P D wg_cl (wg_W0 fun _ _ => 0) s.heap := hP
  skip
  refine lv_iconst (v := (nI 0)) hx hb d_X_sharedLetters_0 (by decide +kernel) ?_
  refine lv_istore (lv' := [(4, .int (nI 0)), (0, .long (lN a)), (2, .long (lN b))]) hx hb d_X_sharedLetters_1 hl (by decide) rfl (fun ls hl => ?_)
  refine wg_loop (fun i _ _ _ H locs ls => (i ≤ 12) ∧ (wg_run (fun i => wg_lt a i == wg_lt b i) (12 - i) i = wg_shd a b) ∧ va_P D wg_cl (wg_W0 fun _ _ => 0) H ∧ va_S A s.heap H locs ∧ lv_has ls 5 [(0, .long (lN a)), (2, .long (lN b)), (4, .int (nI i))]) (fun i _ _ _ => 12 - i) (fun i _z0 _z1 _J H locs ls hI ih3 => ?_) 0 0 0 (fun _ _ => 0) _ _ _ ⟨(by omega), rfl, hP, hS, lv_sub hl [1, 2, 0] rfl⟩
  obtain ⟨hi, hrn, hP, hS, hl⟩ := hI
  refine lv_iload hx hb d_X_sharedLetters_3 (lv_at hl 2 rfl) ?_
  refine lv_bipush (v := (nI 12)) hx hb d_X_sharedLetters_5 (by decide +kernel) ?_
  refine lv_icmp_ge (tgt := 31) hx hb d_X_sharedLetters_7 (by decide) (fun h7 => ?_) (fun h7 => ?_)
  · rw [nI_leI (by omega) (by omega)] at h7
    have hi : i = 12 := by omega
    rw [wg_run_e (by omega)] at hrn
    refine lv_iload hx hb d_X_sharedLetters_31 (lv_at hl 2 rfl) ?_
    exact W.iret (v := (nI i)) hx hb hr (fun tt hth hW => ⟨⟨_, (), rfl, (by rw [← hrn]), trivial⟩, hS.F hth⟩) hS.2.2 d_X_sharedLetters_33
  · rw [nI_leI (by omega) (by omega)] at h7
    refine lv_lload_n hx hb d_X_sharedLetters_10 rfl (lv_at hl 0 rfl) ?_
    refine lv_iload hx hb d_X_sharedLetters_11 (lv_at hl 2 rfl) ?_
    refine wg_csi (As := [.long (lN a), .int (nI i)]) (rest := []) hx hb hml hown hts hK hP hS hA (c_X_letterAt l D cJ cI _ a i (by omega) (by omega)) kc_X_91 ⟨rfl, rfl⟩ ⟨Nat.le_of_ble_eq_true rfl, Nat.le_of_ble_eq_true rfl⟩ rfl hl.1 rfl (Nat.le_of_ble_eq_true rfl) d_X_sharedLetters_13 ⟨Nat.zero_le _, Nat.zero_le _⟩ (fun r H locs q13 hP hS => ?_)
    obtain rfl := q13
    have hq13 := wg_la_le a i
    refine lv_lload_n hx hb d_X_sharedLetters_16 rfl (lv_at hl 1 rfl) ?_
    refine lv_iload hx hb d_X_sharedLetters_17 (lv_at hl 2 rfl) ?_
    refine wg_csi (As := [.long (lN b), .int (nI i)]) (rest := [.int (nI (wg_la a i))]) hx hb hml hown hts hK hP hS hA (c_X_letterAt l D cJ cI _ b i (by omega) (by omega)) kc_X_91 ⟨rfl, rfl⟩ ⟨Nat.le_of_ble_eq_true rfl, Nat.le_of_ble_eq_true rfl⟩ rfl hl.1 rfl (Nat.le_of_ble_eq_true rfl) d_X_sharedLetters_19 ⟨Nat.zero_le _, Nat.zero_le _⟩ (fun r H locs q19 hP hS => ?_)
    obtain rfl := q19
    have hq19 := wg_la_le b i
    refine lv_icmp_ne (tgt := 31) hx hb d_X_sharedLetters_22 (by decide) (fun h22 => ?_) (fun h22 => ?_)
    · rw [nI_eq (by omega) (by omega)] at h22
      rw [wg_la_lt (by omega), wg_la_lt (by omega)] at h22
      rw [wg_run_f (by simpa using h22)] at hrn
      refine lv_iload hx hb d_X_sharedLetters_31 (lv_at hl 2 rfl) ?_
      exact W.iret (v := (nI i)) hx hb hr (fun tt hth hW => ⟨⟨_, (), rfl, (by rw [← hrn]), trivial⟩, hS.F hth⟩) hS.2.2 d_X_sharedLetters_33
    · rw [nI_eq (by omega) (by omega)] at h22
      rw [wg_la_lt (by omega), wg_la_lt (by omega)] at h22
      refine lv_iinc (v := nI (i + 1)) (k := 2) (lv' := [(4, .int (nI (i + 1))), (0, .long (lN a)), (2, .long (lN b))]) hx hb d_X_sharedLetters_25 hl rfl (nI_1 _) (by decide) rfl (fun ls hl => ?_)
      refine lv_goto (tgt := 3) hx hb d_X_sharedLetters_28 (by decide) ?_
      exact ih3 (i + 1) 0 0 (fun _ _ => 0) _ _ _ ⟨(by omega), ((wg_run_t (by omega) (by simpa using h22)).symm.trans hrn), hP, hS, lv_sub hl [1, 2, 0] rfl⟩ (by omega)
set_option maxHeartbeats 4000000 in
set_option maxRecDepth 100000 in
theorem c_X_hasWord (l : Launch) (D : va_G) (cJ cI : ClassId) (h0 : Nat) (ad : Nat → Nat) (sz : Nat) (I : wg_S) (k : Int32) (hb31 : I 3 0 < 2 ^ 31) : Met l y_X_hasWord (wg_ws y_X_hasWord b_X_hasWord 2 (some .boolean)) ({ frames := 0, cells := 0, slots := 0, locals := 0 }) (va_Pc [.ref h0, .int k] (wg_Pc D cJ cI (wg_WX cJ cI h0 ad I) sz)) (va_Qi (fun (r : Int32) (u : Unit) => (r = nI 1 ∧ ∃ j, j < I 3 0 ∧ k = nI j) ∨ (r = nI 0 ∧ ∀ j, j < I 3 0 → ¬ k = nI j)) (fun (_ : Unit) t => va_P D wg_cl (wg_WX cJ cI h0 ad I) t.heap) (va_A (wg_WX cJ cI h0 ad I) sz)) 0 0 (va_A (wg_WX cJ cI h0 ad I) sz) := by
  refine wg_head (Wd := (fun I => wg_WX cJ cI h0 ad I)) (I := I) (fun A => va_Qi (fun (r : Int32) (u : Unit) => (r = nI 1 ∧ ∃ j, j < I 3 0 ∧ k = nI j) ∨ (r = nI 0 ∧ ∀ j, j < I 3 0 → ¬ k = nI j)) (fun (_ : Unit) t => va_P D wg_cl (wg_WX cJ cI h0 ad I) t.heap) A) R_X (by decide) rfl (Nat.le_of_ble_eq_true rfl) (fun I J => wg_same_X I J) ?_
  intro p e s m below meth c A ls hx hb hr hlk hml hown hnm hts hA hK hD hP hS hl hsz
  clear hsz
  have hl : lv_has ls 2 [(0, .ref h0), (1, .int k)] := hl
  have hP : va_P D wg_cl (wg_WX cJ cI h0 ad I) s.heap := hP
  skip
  refine lv_iload_n hx hb d_X_hasWord_0 rfl (lv_at hl 1 rfl) ?_
  refine lv_if_lt (tgt := 16) hx hb d_X_hasWord_1 (by decide) (fun h1 => ?_) (fun h1 => ?_)
  · refine lv_iconst (v := (nI 0)) hx hb d_X_hasWord_16 (by decide +kernel) ?_
    exact W.zret (ty := .boolean) (v := (nI 0)) hx hb hr (by decide +kernel) (fun tt hth hW => ⟨⟨_, (), rfl, (Or.inr ⟨rfl, by first | exact wg_has0a hb31 h1 | exact wg_has0b hb31 h9⟩), wg_h hth hP⟩, hS.F hth⟩) hS.2.2 d_X_hasWord_17
  · refine lv_iload_n hx hb d_X_hasWord_4 rfl (lv_at hl 1 rfl) ?_
    refine lv_aload_n hx hb d_X_hasWord_5 rfl (lv_at hl 0 rfl) ?_
    refine wg_gX hx hb hts hown hK hP 3 (by decide) (v := .int (nI (I 3 0))) kf_X_52 rfl d_X_hasWord_6 ?_
    refine lv_icmp_ge (tgt := 16) hx hb d_X_hasWord_9 (by decide) (fun h9 => ?_) (fun h9 => ?_)
    · refine lv_iconst (v := (nI 0)) hx hb d_X_hasWord_16 (by decide +kernel) ?_
      exact W.zret (ty := .boolean) (v := (nI 0)) hx hb hr (by decide +kernel) (fun tt hth hW => ⟨⟨_, (), rfl, (Or.inr ⟨rfl, by first | exact wg_has0a hb31 h1 | exact wg_has0b hb31 h9⟩), wg_h hth hP⟩, hS.F hth⟩) hS.2.2 d_X_hasWord_17
    · refine lv_iconst (v := (nI 1)) hx hb d_X_hasWord_12 (by decide +kernel) ?_
      refine lv_goto (tgt := 17) hx hb d_X_hasWord_13 (by decide) ?_
      exact W.zret (ty := .boolean) (v := (nI 1)) hx hb hr (by decide +kernel) (fun tt hth hW => ⟨⟨_, (), rfl, (Or.inl ⟨rfl, wg_has1 hb31 h1 h9⟩), wg_h hth hP⟩, hS.F hth⟩) hS.2.2 d_X_hasWord_17
set_option maxHeartbeats 4000000 in
set_option maxRecDepth 100000 in
theorem c_X_hasNode (l : Launch) (D : va_G) (cJ cI : ClassId) (h0 : Nat) (ad : Nat → Nat) (sz : Nat) (I : wg_S) (k : Int32) (hb31 : I 8 0 < 2 ^ 31) : Met l y_X_hasNode (wg_ws y_X_hasNode b_X_hasNode 2 (some .boolean)) ({ frames := 0, cells := 0, slots := 0, locals := 0 }) (va_Pc [.ref h0, .int k] (wg_Pc D cJ cI (wg_WX cJ cI h0 ad I) sz)) (va_Qi (fun (r : Int32) (u : Unit) => (r = nI 1 ∧ ∃ j, j < I 8 0 ∧ k = nI j) ∨ (r = nI 0 ∧ ∀ j, j < I 8 0 → ¬ k = nI j)) (fun (_ : Unit) t => va_P D wg_cl (wg_WX cJ cI h0 ad I) t.heap) (va_A (wg_WX cJ cI h0 ad I) sz)) 0 0 (va_A (wg_WX cJ cI h0 ad I) sz) := by
  refine wg_head (Wd := (fun I => wg_WX cJ cI h0 ad I)) (I := I) (fun A => va_Qi (fun (r : Int32) (u : Unit) => (r = nI 1 ∧ ∃ j, j < I 8 0 ∧ k = nI j) ∨ (r = nI 0 ∧ ∀ j, j < I 8 0 → ¬ k = nI j)) (fun (_ : Unit) t => va_P D wg_cl (wg_WX cJ cI h0 ad I) t.heap) A) R_X (by decide) rfl (Nat.le_of_ble_eq_true rfl) (fun I J => wg_same_X I J) ?_
  intro p e s m below meth c A ls hx hb hr hlk hml hown hnm hts hA hK hD hP hS hl hsz
  clear hsz
  have hl : lv_has ls 2 [(0, .ref h0), (1, .int k)] := hl
  have hP : va_P D wg_cl (wg_WX cJ cI h0 ad I) s.heap := hP
  skip
  refine lv_iload_n hx hb d_X_hasNode_0 rfl (lv_at hl 1 rfl) ?_
  refine lv_if_lt (tgt := 16) hx hb d_X_hasNode_1 (by decide) (fun h1 => ?_) (fun h1 => ?_)
  · refine lv_iconst (v := (nI 0)) hx hb d_X_hasNode_16 (by decide +kernel) ?_
    exact W.zret (ty := .boolean) (v := (nI 0)) hx hb hr (by decide +kernel) (fun tt hth hW => ⟨⟨_, (), rfl, (Or.inr ⟨rfl, by first | exact wg_has0a hb31 h1 | exact wg_has0b hb31 h9⟩), wg_h hth hP⟩, hS.F hth⟩) hS.2.2 d_X_hasNode_17
  · refine lv_iload_n hx hb d_X_hasNode_4 rfl (lv_at hl 1 rfl) ?_
    refine lv_aload_n hx hb d_X_hasNode_5 rfl (lv_at hl 0 rfl) ?_
    refine wg_gX hx hb hts hown hK hP 8 (by decide) (v := .int (nI (I 8 0))) kf_X_72 rfl d_X_hasNode_6 ?_
    refine lv_icmp_ge (tgt := 16) hx hb d_X_hasNode_9 (by decide) (fun h9 => ?_) (fun h9 => ?_)
    · refine lv_iconst (v := (nI 0)) hx hb d_X_hasNode_16 (by decide +kernel) ?_
      exact W.zret (ty := .boolean) (v := (nI 0)) hx hb hr (by decide +kernel) (fun tt hth hW => ⟨⟨_, (), rfl, (Or.inr ⟨rfl, by first | exact wg_has0a hb31 h1 | exact wg_has0b hb31 h9⟩), wg_h hth hP⟩, hS.F hth⟩) hS.2.2 d_X_hasNode_17
    · refine lv_iconst (v := (nI 1)) hx hb d_X_hasNode_12 (by decide +kernel) ?_
      refine lv_goto (tgt := 17) hx hb d_X_hasNode_13 (by decide) ?_
      exact W.zret (ty := .boolean) (v := (nI 1)) hx hb hr (by decide +kernel) (fun tt hth hW => ⟨⟨_, (), rfl, (Or.inl ⟨rfl, wg_has1 hb31 h1 h9⟩), wg_h hth hP⟩, hS.F hth⟩) hS.2.2 d_X_hasNode_17
set_option maxHeartbeats 4000000 in
set_option maxRecDepth 100000 in
theorem c_X_hasResult (l : Launch) (D : va_G) (cJ cI : ClassId) (h0 : Nat) (ad : Nat → Nat) (sz : Nat) (I : wg_S) (k : Int32) (hb31 : I 11 0 < 2 ^ 31) : Met l y_X_hasResult (wg_ws y_X_hasResult b_X_hasResult 2 (some .boolean)) ({ frames := 0, cells := 0, slots := 0, locals := 0 }) (va_Pc [.ref h0, .int k] (wg_Pc D cJ cI (wg_WX cJ cI h0 ad I) sz)) (va_Qi (fun (r : Int32) (u : Unit) => (r = nI 1 ∧ ∃ j, j < I 11 0 ∧ k = nI j) ∨ (r = nI 0 ∧ ∀ j, j < I 11 0 → ¬ k = nI j)) (fun (_ : Unit) t => va_P D wg_cl (wg_WX cJ cI h0 ad I) t.heap) (va_A (wg_WX cJ cI h0 ad I) sz)) 0 0 (va_A (wg_WX cJ cI h0 ad I) sz) := by
  refine wg_head (Wd := (fun I => wg_WX cJ cI h0 ad I)) (I := I) (fun A => va_Qi (fun (r : Int32) (u : Unit) => (r = nI 1 ∧ ∃ j, j < I 11 0 ∧ k = nI j) ∨ (r = nI 0 ∧ ∀ j, j < I 11 0 → ¬ k = nI j)) (fun (_ : Unit) t => va_P D wg_cl (wg_WX cJ cI h0 ad I) t.heap) A) R_X (by decide) rfl (Nat.le_of_ble_eq_true rfl) (fun I J => wg_same_X I J) ?_
  intro p e s m below meth c A ls hx hb hr hlk hml hown hnm hts hA hK hD hP hS hl hsz
  clear hsz
  have hl : lv_has ls 2 [(0, .ref h0), (1, .int k)] := hl
  have hP : va_P D wg_cl (wg_WX cJ cI h0 ad I) s.heap := hP
  skip
  refine lv_iload_n hx hb d_X_hasResult_0 rfl (lv_at hl 1 rfl) ?_
  refine lv_if_lt (tgt := 16) hx hb d_X_hasResult_1 (by decide) (fun h1 => ?_) (fun h1 => ?_)
  · refine lv_iconst (v := (nI 0)) hx hb d_X_hasResult_16 (by decide +kernel) ?_
    exact W.zret (ty := .boolean) (v := (nI 0)) hx hb hr (by decide +kernel) (fun tt hth hW => ⟨⟨_, (), rfl, (Or.inr ⟨rfl, by first | exact wg_has0a hb31 h1 | exact wg_has0b hb31 h9⟩), wg_h hth hP⟩, hS.F hth⟩) hS.2.2 d_X_hasResult_17
  · refine lv_iload_n hx hb d_X_hasResult_4 rfl (lv_at hl 1 rfl) ?_
    refine lv_aload_n hx hb d_X_hasResult_5 rfl (lv_at hl 0 rfl) ?_
    refine wg_gX hx hb hts hown hK hP 11 (by decide) (v := .int (nI (I 11 0))) kf_X_75 rfl d_X_hasResult_6 ?_
    refine lv_icmp_ge (tgt := 16) hx hb d_X_hasResult_9 (by decide) (fun h9 => ?_) (fun h9 => ?_)
    · refine lv_iconst (v := (nI 0)) hx hb d_X_hasResult_16 (by decide +kernel) ?_
      exact W.zret (ty := .boolean) (v := (nI 0)) hx hb hr (by decide +kernel) (fun tt hth hW => ⟨⟨_, (), rfl, (Or.inr ⟨rfl, by first | exact wg_has0a hb31 h1 | exact wg_has0b hb31 h9⟩), wg_h hth hP⟩, hS.F hth⟩) hS.2.2 d_X_hasResult_17
    · refine lv_iconst (v := (nI 1)) hx hb d_X_hasResult_12 (by decide +kernel) ?_
      refine lv_goto (tgt := 17) hx hb d_X_hasResult_13 (by decide) ?_
      exact W.zret (ty := .boolean) (v := (nI 1)) hx hb hr (by decide +kernel) (fun tt hth hW => ⟨⟨_, (), rfl, (Or.inl ⟨rfl, wg_has1 hb31 h1 h9⟩), wg_h hth hP⟩, hS.F hth⟩) hS.2.2 d_X_hasResult_17
set_option maxHeartbeats 4000000 in
set_option maxRecDepth 100000 in
theorem c_X_size (l : Launch) (D : va_G) (cJ cI : ClassId) (h0 : Nat) (ad : Nat → Nat) (sz : Nat) (I : wg_S) : Met l y_X_size (wg_ws y_X_size b_X_size 1 (some .int)) ({ frames := 0, cells := 0, slots := 0, locals := 0 }) (va_Pc [.ref h0] (wg_Pc D cJ cI (wg_WX cJ cI h0 ad I) sz)) (va_Qi (fun (r : Int32) (u : Unit) => r = nI (I 3 0)) (fun (_ : Unit) t => va_P D wg_cl (wg_WX cJ cI h0 ad I) t.heap) (va_A (wg_WX cJ cI h0 ad I) sz)) 0 0 (va_A (wg_WX cJ cI h0 ad I) sz) := by
  refine wg_head (Wd := (fun I => wg_WX cJ cI h0 ad I)) (I := I) (fun A => va_Qi (fun (r : Int32) (u : Unit) => r = nI (I 3 0)) (fun (_ : Unit) t => va_P D wg_cl (wg_WX cJ cI h0 ad I) t.heap) A) R_X (by decide) rfl (Nat.le_of_ble_eq_true rfl) (fun I J => wg_same_X I J) ?_
  intro p e s m below meth c A ls hx hb hr hlk hml hown hnm hts hA hK hD hP hS hl hsz
  clear hsz
  have hl : lv_has ls 1 [(0, .ref h0)] := hl
  have hP : va_P D wg_cl (wg_WX cJ cI h0 ad I) s.heap := hP
  skip
  refine lv_aload_n hx hb d_X_size_0 rfl (lv_at hl 0 rfl) ?_
  refine wg_gX hx hb hts hown hK hP 3 (by decide) (v := .int (nI (I 3 0))) kf_X_52 rfl d_X_size_1 ?_
  exact W.iret (v := (nI (I 3 0))) hx hb hr (fun tt hth hW => ⟨⟨_, (), rfl, rfl, wg_h hth hP⟩, hS.F hth⟩) hS.2.2 d_X_size_4
set_option maxHeartbeats 4000000 in
set_option maxRecDepth 100000 in
theorem c_X_nodes (l : Launch) (D : va_G) (cJ cI : ClassId) (h0 : Nat) (ad : Nat → Nat) (sz : Nat) (I : wg_S) : Met l y_X_nodes (wg_ws y_X_nodes b_X_nodes 1 (some .int)) ({ frames := 0, cells := 0, slots := 0, locals := 0 }) (va_Pc [.ref h0] (wg_Pc D cJ cI (wg_WX cJ cI h0 ad I) sz)) (va_Qi (fun (r : Int32) (u : Unit) => r = nI (I 8 0)) (fun (_ : Unit) t => va_P D wg_cl (wg_WX cJ cI h0 ad I) t.heap) (va_A (wg_WX cJ cI h0 ad I) sz)) 0 0 (va_A (wg_WX cJ cI h0 ad I) sz) := by
  refine wg_head (Wd := (fun I => wg_WX cJ cI h0 ad I)) (I := I) (fun A => va_Qi (fun (r : Int32) (u : Unit) => r = nI (I 8 0)) (fun (_ : Unit) t => va_P D wg_cl (wg_WX cJ cI h0 ad I) t.heap) A) R_X (by decide) rfl (Nat.le_of_ble_eq_true rfl) (fun I J => wg_same_X I J) ?_
  intro p e s m below meth c A ls hx hb hr hlk hml hown hnm hts hA hK hD hP hS hl hsz
  clear hsz
  have hl : lv_has ls 1 [(0, .ref h0)] := hl
  have hP : va_P D wg_cl (wg_WX cJ cI h0 ad I) s.heap := hP
  skip
  refine lv_aload_n hx hb d_X_nodes_0 rfl (lv_at hl 0 rfl) ?_
  refine wg_gX hx hb hts hown hK hP 8 (by decide) (v := .int (nI (I 8 0))) kf_X_72 rfl d_X_nodes_1 ?_
  exact W.iret (v := (nI (I 8 0))) hx hb hr (fun tt hth hW => ⟨⟨_, (), rfl, rfl, wg_h hth hP⟩, hS.F hth⟩) hS.2.2 d_X_nodes_4
set_option maxHeartbeats 4000000 in
set_option maxRecDepth 100000 in
theorem c_X_clear (l : Launch) (D : va_G) (cJ cI : ClassId) (h0 : Nat) (ad : Nat → Nat) (sz : Nat) (I : wg_S) : Met l y_X_clear (wg_ws y_X_clear b_X_clear 1 none) ({ frames := 0, cells := 0, slots := 0, locals := 0 }) (va_Pc [.ref h0] (wg_Pc D cJ cI (wg_WX cJ cI h0 ad I) sz)) (va_Qv (fun (u : wg_S) => u = wg_st (wg_st (wg_st (wg_st I 3 0 0) 4 0 0) 8 0 0) 11 0 0) (fun (u : wg_S) t => va_P D wg_cl (wg_WX cJ cI h0 ad u) t.heap) (va_A (wg_WX cJ cI h0 ad I) sz)) 0 0 (va_A (wg_WX cJ cI h0 ad I) sz) := by
  refine wg_head (Wd := (fun I => wg_WX cJ cI h0 ad I)) (I := I) (fun A => va_Qv (fun (u : wg_S) => u = wg_st (wg_st (wg_st (wg_st I 3 0 0) 4 0 0) 8 0 0) 11 0 0) (fun (u : wg_S) t => va_P D wg_cl (wg_WX cJ cI h0 ad u) t.heap) A) R_X (by decide) rfl (Nat.le_of_ble_eq_true rfl) (fun I J => wg_same_X I J) ?_
  intro p e s m below meth c A ls hx hb hr hlk hml hown hnm hts hA hK hD hP hS hl hsz
  clear hsz
  have hl : lv_has ls 1 [(0, .ref h0)] := hl
  have hP : va_P D wg_cl (wg_WX cJ cI h0 ad I) s.heap := hP
  skip
  refine lv_aload_n hx hb d_X_clear_0 rfl (lv_at hl 0 rfl) ?_
  refine lv_iconst (v := (nI 0)) hx hb d_X_clear_1 (by decide +kernel) ?_
  refine wg_pX3 (v := 0) hx hb hts hown hK hP hD hS kf_X_52 d_X_clear_2 (fun H locs hP hS => ?_)
  refine lv_aload_n hx hb d_X_clear_5 rfl (lv_at hl 0 rfl) ?_
  refine lv_iconst (v := (nI 0)) hx hb d_X_clear_6 (by decide +kernel) ?_
  refine wg_pX4 (v := 0) hx hb hts hown hK hP hD hS kf_X_44 (by decide +kernel) (by decide +kernel) d_X_clear_7 (fun H locs hP hS => ?_)
  refine lv_aload_n hx hb d_X_clear_10 rfl (lv_at hl 0 rfl) ?_
  refine lv_iconst (v := (nI 0)) hx hb d_X_clear_11 (by decide +kernel) ?_
  refine wg_pX8 (v := 0) hx hb hts hown hK hP hD hS kf_X_72 d_X_clear_12 (fun H locs hP hS => ?_)
  refine lv_aload_n hx hb d_X_clear_15 rfl (lv_at hl 0 rfl) ?_
  refine lv_iconst (v := (nI 0)) hx hb d_X_clear_16 (by decide +kernel) ?_
  refine wg_pX11 (v := 0) hx hb hts hown hK hP hD hS kf_X_75 d_X_clear_17 (fun H locs hP hS => ?_)
  exact W.vret hx hb hr (fun tt hth hW => ⟨⟨(wg_st (wg_st (wg_st (wg_st I 3 0 0) 4 0 0) 8 0 0) 11 0 0), rfl, rfl, wg_h hth hP⟩, hS.F hth⟩) hS.2.2 d_X_clear_20
set_option maxHeartbeats 4000000 in
set_option maxRecDepth 100000 in
theorem c_X_word (l : Launch) (D : va_G) (cJ cI : ClassId) (h0 : Nat) (ad : Nat → Nat) (sz : Nat) (I : wg_S) (k : Int32) (hI : wg_XI I) : Met l y_X_word (wg_ws y_X_word b_X_word 2 (some .long)) ({ frames := 1, cells := 0, slots := 0, locals := 21 }) (va_Pc [.ref h0, .int k] (wg_Pc D cJ cI (wg_WX cJ cI h0 ad I) sz)) (va_Ql (fun (r : Int64) (u : Unit) => (∃ j, j < I 3 0 ∧ k = nI j ∧ r = lN (I 0 j)) ∨ ((∀ j, j < I 3 0 → ¬ k = nI j) ∧ r = -1)) (fun (_ : Unit) t => va_P D wg_cl (wg_WX cJ cI h0 ad I) t.heap) (va_A (wg_WX cJ cI h0 ad I) sz)) 0 0 (va_A (wg_WX cJ cI h0 ad I) sz) := by
  refine wg_head (Wd := (fun I => wg_WX cJ cI h0 ad I)) (I := I) (fun A => va_Ql (fun (r : Int64) (u : Unit) => (∃ j, j < I 3 0 ∧ k = nI j ∧ r = lN (I 0 j)) ∨ ((∀ j, j < I 3 0 → ¬ k = nI j) ∧ r = -1)) (fun (_ : Unit) t => va_P D wg_cl (wg_WX cJ cI h0 ad I) t.heap) A) R_X (by decide) rfl (Nat.le_of_ble_eq_true rfl) (fun I J => wg_same_X I J) ?_
  intro p e s m below meth c A ls hx hb hr hlk hml hown hnm hts hA hK hD hP hS hl hsz
  clear hsz
  have hl : lv_has ls 2 [(0, .ref h0), (1, .int k)] := hl
  have hP : va_P D wg_cl (wg_WX cJ cI h0 ad I) s.heap := hP
  skip
  have hI' := hI
  obtain ⟨hn, hse, hc, hrc, hso, hw, hL, hF, hF1, hNW, hNL, hT, hWF, hNO⟩ := hI'
  refine lv_aload_n hx hb d_X_word_0 rfl (lv_at hl 0 rfl) ?_
  refine lv_iload_n hx hb d_X_word_1 rfl (lv_at hl 1 rfl) ?_
  refine wg_cvi (As := [.int k]) (rest := []) hx hb hml hown hts hK hP (hD _) hS hA rfl rfl rfl (c_X_hasWord l D cJ cI h0 ad _ I k (by omega)) kc_X_78 ⟨rfl, rfl⟩ ⟨Nat.le_of_ble_eq_true rfl, Nat.le_of_ble_eq_true rfl⟩ rfl hl.1 rfl (Nat.le_of_ble_eq_true rfl) d_X_word_2 ⟨Nat.zero_le _, Nat.zero_le _⟩ (fun r u2 tt H locs ht q2 hB _ _ hS => ?_)
  have hP : va_P D wg_cl (wg_WX cJ cI h0 ad I) H := by rw [← ht]; exact hB
  clear hB ht tt
  rcases q2 with ⟨rfl, j2, hj2, rfl⟩ | ⟨rfl, hj2⟩
  · skip
    refine lv_if_eq (tgt := 17) hx hb d_X_word_5 (by decide) (fun h => absurd h (by decide +kernel)) (fun _ => ?_)
    refine lv_aload_n hx hb d_X_word_8 rfl (lv_at hl 0 rfl) ?_
    refine wg_gX hx hb hts hown hK hP 0 (by decide) (v := .ref (ad 0)) kf_X_9 rfl d_X_word_9 ?_
    refine lv_iload_n hx hb d_X_word_12 rfl (lv_at hl 1 rfl) ?_
    refine wg_lld (f := I 0) (j := j2) hx hb hK hP 1 rfl (by omega) (by decide) d_X_word_13 ?_
    have hB13 := hw j2 (by omega)
    refine lv_goto (tgt := 20) hx hb d_X_word_14 (by decide) ?_
    exact W.lret (v := (lN (I 0 j2))) hx hb hr (fun tt hth hW => ⟨⟨_, (), rfl, (Or.inl ⟨j2, hj2, rfl, rfl⟩), wg_h hth hP⟩, hS.F hth⟩) hS.2.2 d_X_word_20
  · skip
    refine lv_if_eq (tgt := 17) hx hb d_X_word_5 (by decide) (fun _ => ?_) (fun h => absurd h (by decide +kernel))
    refine lv_ldc2 (v := (-1)) hx hb hown (hts _ kl_X_82) d_X_word_17 ?_
    exact W.lret (v := (-1)) hx hb hr (fun tt hth hW => ⟨⟨_, (), rfl, (Or.inr ⟨hj2, rfl⟩), wg_h hth hP⟩, hS.F hth⟩) hS.2.2 d_X_word_20
set_option maxHeartbeats 4000000 in
set_option maxRecDepth 100000 in
theorem c_X_result (l : Launch) (D : va_G) (cJ cI : ClassId) (h0 : Nat) (ad : Nat → Nat) (sz : Nat) (I : wg_S) (k : Int32) (hI : wg_XI I) : Met l y_X_result (wg_ws y_X_result b_X_result 2 (some .int)) ({ frames := 1, cells := 0, slots := 0, locals := 21 }) (va_Pc [.ref h0, .int k] (wg_Pc D cJ cI (wg_WX cJ cI h0 ad I) sz)) (va_Qi (fun (r : Int32) (u : Unit) => (∃ j, j < I 11 0 ∧ k = nI j ∧ r = nI (I 9 j)) ∨ ((∀ j, j < I 11 0 → ¬ k = nI j) ∧ r = -1)) (fun (_ : Unit) t => va_P D wg_cl (wg_WX cJ cI h0 ad I) t.heap) (va_A (wg_WX cJ cI h0 ad I) sz)) 0 0 (va_A (wg_WX cJ cI h0 ad I) sz) := by
  refine wg_head (Wd := (fun I => wg_WX cJ cI h0 ad I)) (I := I) (fun A => va_Qi (fun (r : Int32) (u : Unit) => (∃ j, j < I 11 0 ∧ k = nI j ∧ r = nI (I 9 j)) ∨ ((∀ j, j < I 11 0 → ¬ k = nI j) ∧ r = -1)) (fun (_ : Unit) t => va_P D wg_cl (wg_WX cJ cI h0 ad I) t.heap) A) R_X (by decide) rfl (Nat.le_of_ble_eq_true rfl) (fun I J => wg_same_X I J) ?_
  intro p e s m below meth c A ls hx hb hr hlk hml hown hnm hts hA hK hD hP hS hl hsz
  clear hsz
  have hl : lv_has ls 2 [(0, .ref h0), (1, .int k)] := hl
  have hP : va_P D wg_cl (wg_WX cJ cI h0 ad I) s.heap := hP
  skip
  have hI' := hI
  obtain ⟨hn, hse, hc, hrc, hso, hw, hL, hF, hF1, hNW, hNL, hT, hWF, hNO⟩ := hI'
  refine lv_aload_n hx hb d_X_result_0 rfl (lv_at hl 0 rfl) ?_
  refine lv_iload_n hx hb d_X_result_1 rfl (lv_at hl 1 rfl) ?_
  refine wg_cvi (As := [.int k]) (rest := []) hx hb hml hown hts hK hP (hD _) hS hA rfl rfl rfl (c_X_hasResult l D cJ cI h0 ad _ I k (by omega)) kc_X_109 ⟨rfl, rfl⟩ ⟨Nat.le_of_ble_eq_true rfl, Nat.le_of_ble_eq_true rfl⟩ rfl hl.1 rfl (Nat.le_of_ble_eq_true rfl) d_X_result_2 ⟨Nat.zero_le _, Nat.zero_le _⟩ (fun r u2 tt H locs ht q2 hB _ _ hS => ?_)
  have hP : va_P D wg_cl (wg_WX cJ cI h0 ad I) H := by rw [← ht]; exact hB
  clear hB ht tt
  rcases q2 with ⟨rfl, j2, hj2, rfl⟩ | ⟨rfl, hj2⟩
  · skip
    refine lv_if_eq (tgt := 17) hx hb d_X_result_5 (by decide) (fun h => absurd h (by decide +kernel)) (fun _ => ?_)
    refine lv_aload_n hx hb d_X_result_8 rfl (lv_at hl 0 rfl) ?_
    refine wg_gX hx hb hts hown hK hP 9 (by decide) (v := .ref (ad 9)) kf_X_29 rfl d_X_result_9 ?_
    refine lv_iload_n hx hb d_X_result_12 rfl (lv_at hl 1 rfl) ?_
    refine wg_ild (f := I 9) (j := j2) hx hb hK hP 7 rfl (by omega) (by decide) d_X_result_13 ?_
    refine lv_goto (tgt := 18) hx hb d_X_result_14 (by decide) ?_
    exact W.iret (v := (nI (I 9 j2))) hx hb hr (fun tt hth hW => ⟨⟨_, (), rfl, (Or.inl ⟨j2, hj2, rfl, rfl⟩), wg_h hth hP⟩, hS.F hth⟩) hS.2.2 d_X_result_18
  · skip
    refine lv_if_eq (tgt := 17) hx hb d_X_result_5 (by decide) (fun _ => ?_) (fun h => absurd h (by decide +kernel))
    refine lv_iconst (v := (-1)) hx hb d_X_result_17 (by decide +kernel) ?_
    exact W.iret (v := (-1)) hx hb hr (fun tt hth hW => ⟨⟨_, (), rfl, (Or.inr ⟨hj2, rfl⟩), wg_h hth hP⟩, hS.F hth⟩) hS.2.2 d_X_result_18
set_option maxHeartbeats 4000000 in
set_option maxRecDepth 100000 in
theorem c_X_far (l : Launch) (D : va_G) (cJ cI : ClassId) (h0 : Nat) (ad : Nat → Nat) (sz : Nat) (I : wg_S) (k : Int32) (hI : wg_XI I) : Met l y_X_far (wg_ws y_X_far b_X_far 2 (some .int)) ({ frames := 1, cells := 0, slots := 0, locals := 21 }) (va_Pc [.ref h0, .int k] (wg_Pc D cJ cI (wg_WX cJ cI h0 ad I) sz)) (va_Qi (fun (r : Int32) (u : Unit) => (∃ j, j < I 11 0 ∧ k = nI j ∧ r = nI (I 10 j)) ∨ ((∀ j, j < I 11 0 → ¬ k = nI j) ∧ r = -1)) (fun (_ : Unit) t => va_P D wg_cl (wg_WX cJ cI h0 ad I) t.heap) (va_A (wg_WX cJ cI h0 ad I) sz)) 0 0 (va_A (wg_WX cJ cI h0 ad I) sz) := by
  refine wg_head (Wd := (fun I => wg_WX cJ cI h0 ad I)) (I := I) (fun A => va_Qi (fun (r : Int32) (u : Unit) => (∃ j, j < I 11 0 ∧ k = nI j ∧ r = nI (I 10 j)) ∨ ((∀ j, j < I 11 0 → ¬ k = nI j) ∧ r = -1)) (fun (_ : Unit) t => va_P D wg_cl (wg_WX cJ cI h0 ad I) t.heap) A) R_X (by decide) rfl (Nat.le_of_ble_eq_true rfl) (fun I J => wg_same_X I J) ?_
  intro p e s m below meth c A ls hx hb hr hlk hml hown hnm hts hA hK hD hP hS hl hsz
  clear hsz
  have hl : lv_has ls 2 [(0, .ref h0), (1, .int k)] := hl
  have hP : va_P D wg_cl (wg_WX cJ cI h0 ad I) s.heap := hP
  skip
  have hI' := hI
  obtain ⟨hn, hse, hc, hrc, hso, hw, hL, hF, hF1, hNW, hNL, hT, hWF, hNO⟩ := hI'
  refine lv_aload_n hx hb d_X_far_0 rfl (lv_at hl 0 rfl) ?_
  refine lv_iload_n hx hb d_X_far_1 rfl (lv_at hl 1 rfl) ?_
  refine wg_cvi (As := [.int k]) (rest := []) hx hb hml hown hts hK hP (hD _) hS hA rfl rfl rfl (c_X_hasResult l D cJ cI h0 ad _ I k (by omega)) kc_X_109 ⟨rfl, rfl⟩ ⟨Nat.le_of_ble_eq_true rfl, Nat.le_of_ble_eq_true rfl⟩ rfl hl.1 rfl (Nat.le_of_ble_eq_true rfl) d_X_far_2 ⟨Nat.zero_le _, Nat.zero_le _⟩ (fun r u2 tt H locs ht q2 hB _ _ hS => ?_)
  have hP : va_P D wg_cl (wg_WX cJ cI h0 ad I) H := by rw [← ht]; exact hB
  clear hB ht tt
  rcases q2 with ⟨rfl, j2, hj2, rfl⟩ | ⟨rfl, hj2⟩
  · skip
    refine lv_if_eq (tgt := 17) hx hb d_X_far_5 (by decide) (fun h => absurd h (by decide +kernel)) (fun _ => ?_)
    refine lv_aload_n hx hb d_X_far_8 rfl (lv_at hl 0 rfl) ?_
    refine wg_gX hx hb hts hown hK hP 10 (by decide) (v := .ref (ad 10)) kf_X_32 rfl d_X_far_9 ?_
    refine lv_iload_n hx hb d_X_far_12 rfl (lv_at hl 1 rfl) ?_
    refine wg_ild (f := I 10) (j := j2) hx hb hK hP 8 rfl (by omega) (by decide) d_X_far_13 ?_
    refine lv_goto (tgt := 18) hx hb d_X_far_14 (by decide) ?_
    exact W.iret (v := (nI (I 10 j2))) hx hb hr (fun tt hth hW => ⟨⟨_, (), rfl, (Or.inl ⟨j2, hj2, rfl, rfl⟩), wg_h hth hP⟩, hS.F hth⟩) hS.2.2 d_X_far_18
  · skip
    refine lv_if_eq (tgt := 17) hx hb d_X_far_5 (by decide) (fun _ => ?_) (fun h => absurd h (by decide +kernel))
    refine lv_iconst (v := (-1)) hx hb d_X_far_17 (by decide +kernel) ?_
    exact W.iret (v := (-1)) hx hb hr (fun tt hth hW => ⟨⟨_, (), rfl, (Or.inr ⟨hj2, rfl⟩), wg_h hth hP⟩, hS.F hth⟩) hS.2.2 d_X_far_18
set_option maxHeartbeats 4000000 in
set_option maxRecDepth 100000 in
theorem c_X_find (l : Launch) (D : va_G) (cJ cI : ClassId) (h0 : Nat) (ad : Nat → Nat) (sz : Nat) (I : wg_S) (n : Nat) (hI : wg_XI I) : Met l y_X_find (wg_ws y_X_find b_X_find 4 (some .int)) ({ frames := 0, cells := 0, slots := 0, locals := 0 }) (va_Pc [.ref h0, .long (lN n)] (wg_Pc D cJ cI (wg_WX cJ cI h0 ad I) sz)) (va_Qi (fun (r : Int32) (u : Unit) => I 3 0 = 0 → r = -1) (fun (_ : Unit) t => va_P D wg_cl (wg_WX cJ cI h0 ad I) t.heap) (va_A (wg_WX cJ cI h0 ad I) sz)) 0 0 (va_A (wg_WX cJ cI h0 ad I) sz) := by
  refine wg_head (Wd := (fun I => wg_WX cJ cI h0 ad I)) (I := I) (fun A => va_Qi (fun (r : Int32) (u : Unit) => I 3 0 = 0 → r = -1) (fun (_ : Unit) t => va_P D wg_cl (wg_WX cJ cI h0 ad I) t.heap) A) R_X (by decide) rfl (Nat.le_of_ble_eq_true rfl) (fun I J => wg_same_X I J) ?_
  intro p e s m below meth c A ls hx hb hr hlk hml hown hnm hts hA hK hD hP hS hl hsz
  clear hsz
  have hl : lv_has ls 4 [(0, .ref h0), (1, .long (lN n))] := hl
  have hP : va_P D wg_cl (wg_WX cJ cI h0 ad I) s.heap := hP
  skip
  have hI' := hI
  obtain ⟨hn, hse, hc, hrc, hso, hw, hL, hF, hF1, hNW, hNL, hT, hWF, hNO⟩ := hI'
  refine lv_iconst (v := (nI 0)) hx hb d_X_find_0 (by decide +kernel) ?_
  refine lv_istore_n (lv' := [(3, .int (nI 0)), (0, .ref h0), (1, .long (lN n))]) hx hb d_X_find_1 rfl hl (by decide) rfl (fun ls hl => ?_)
  refine wg_loop (fun k _ _ _ H locs ls => (k ≤ I 3 0) ∧ va_P D wg_cl (wg_WX cJ cI h0 ad I) H ∧ va_S A s.heap H locs ∧ lv_has ls 4 [(0, .ref h0), (1, .long (lN n)), (3, .int (nI k))]) (fun k _ _ _ => I 3 0 - k) (fun k _z0 _z1 _J H locs ls hI ih2 => ?_) 0 0 0 (fun _ _ => 0) _ _ _ ⟨(by omega), hP, hS, lv_sub hl [1, 2, 0] rfl⟩
  obtain ⟨hk, hP, hS, hl⟩ := hI
  refine lv_iload_n hx hb d_X_find_2 rfl (lv_at hl 2 rfl) ?_
  refine lv_aload_n hx hb d_X_find_3 rfl (lv_at hl 0 rfl) ?_
  refine wg_gX hx hb hts hown hK hP 3 (by decide) (v := .int (nI (I 3 0))) kf_X_52 rfl d_X_find_4 ?_
  refine lv_icmp_ge (tgt := 29) hx hb d_X_find_7 (by decide) (fun h7 => ?_) (fun h7 => ?_)
  · rw [nI_leI (by omega) (by omega)] at h7
    refine lv_iconst (v := (-1)) hx hb d_X_find_29 (by decide +kernel) ?_
    exact W.iret (v := (-1)) hx hb hr (fun tt hth hW => ⟨⟨_, (), rfl, (fun _ => rfl), wg_h hth hP⟩, hS.F hth⟩) hS.2.2 d_X_find_30
  · rw [nI_leI (by omega) (by omega)] at h7
    refine lv_aload_n hx hb d_X_find_10 rfl (lv_at hl 0 rfl) ?_
    refine wg_gX hx hb hts hown hK hP 0 (by decide) (v := .ref (ad 0)) kf_X_9 rfl d_X_find_11 ?_
    refine lv_iload_n hx hb d_X_find_14 rfl (lv_at hl 2 rfl) ?_
    refine wg_lld (f := I 0) (j := k) hx hb hK hP 1 rfl (by omega) (by decide) d_X_find_15 ?_
    refine lv_lload_n hx hb d_X_find_16 rfl (lv_at hl 1 rfl) ?_
    refine W.lcmp hx hb d_X_find_17 ?_
    refine lv_if_ne (tgt := 23) hx hb d_X_find_18 (by decide) (fun h18 => ?_) (fun h18 => ?_)
    · rw [lg_cmp_eq] at h18
      refine lv_iinc (v := nI (k + 1)) (k := 2) (lv' := [(3, .int (nI (k + 1))), (0, .ref h0), (1, .long (lN n))]) hx hb d_X_find_23 hl rfl (nI_1 _) (by decide) rfl (fun ls hl => ?_)
      refine lv_goto (tgt := 2) hx hb d_X_find_26 (by decide) ?_
      exact ih2 (k + 1) 0 0 (fun _ _ => 0) _ _ _ ⟨(by omega), hP, hS, lv_sub hl [1, 2, 0] rfl⟩ (by omega)
    · rw [lg_cmp_eq] at h18
      refine lv_iload_n hx hb d_X_find_21 rfl (lv_at hl 2 rfl) ?_
      exact W.iret (v := (nI k)) hx hb hr (fun tt hth hW => ⟨⟨_, (), rfl, (fun _ => by omega), wg_h hth hP⟩, hS.F hth⟩) hS.2.2 d_X_find_22
set_option maxHeartbeats 4000000 in
set_option maxRecDepth 100000 in
theorem c_X_beginsAs (l : Launch) (D : va_G) (cJ cI : ClassId) (h0 : Nat) (ad : Nat → Nat) (sz : Nat) (I : wg_S) (k : Nat) (f : Nat) (t : Nat) (hk : k < 48) (hf : f < 48) (ht : t ≤ 12) (hI : wg_XI I) : Met l y_X_beginsAs (wg_ws y_X_beginsAs b_X_beginsAs 4 (some .boolean)) ({ frames := 0, cells := 0, slots := 0, locals := 0 }) (va_Pc [.ref h0, .int (nI k), .int (nI f), .int (nI t)] (wg_Pc D cJ cI (wg_WX cJ cI h0 ad I) sz)) (va_Qi (fun (r : Int32) (u : Unit) => (r = nI 1 ∧ (I 0 k ^^^ I 0 f) / 2 ^ (60 - 5 * t) = 0) ∨ (r = nI 0 ∧ ¬ (I 0 k ^^^ I 0 f) / 2 ^ (60 - 5 * t) = 0)) (fun (_ : Unit) t => va_P D wg_cl (wg_WX cJ cI h0 ad I) t.heap) (va_A (wg_WX cJ cI h0 ad I) sz)) 0 0 (va_A (wg_WX cJ cI h0 ad I) sz) := by
  refine wg_head (Wd := (fun I => wg_WX cJ cI h0 ad I)) (I := I) (fun A => va_Qi (fun (r : Int32) (u : Unit) => (r = nI 1 ∧ (I 0 k ^^^ I 0 f) / 2 ^ (60 - 5 * t) = 0) ∨ (r = nI 0 ∧ ¬ (I 0 k ^^^ I 0 f) / 2 ^ (60 - 5 * t) = 0)) (fun (_ : Unit) t => va_P D wg_cl (wg_WX cJ cI h0 ad I) t.heap) A) R_X (by decide) rfl (Nat.le_of_ble_eq_true rfl) (fun I J => wg_same_X I J) ?_
  intro p e s m below meth c A ls hx hb hr hlk hml hown hnm hts hA hK hD hP hS hl hsz
  clear hsz
  have hl : lv_has ls 4 [(0, .ref h0), (1, .int (nI k)), (2, .int (nI f)), (3, .int (nI t))] := hl
  have hP : va_P D wg_cl (wg_WX cJ cI h0 ad I) s.heap := hP
  skip
  have hI' := hI
  obtain ⟨hn, hse, hc, hrc, hso, hw, hL, hF, hF1, hNW, hNL, hT, hWF, hNO⟩ := hI'
  refine lv_aload_n hx hb d_X_beginsAs_0 rfl (lv_at hl 0 rfl) ?_
  refine wg_gX hx hb hts hown hK hP 0 (by decide) (v := .ref (ad 0)) kf_X_9 rfl d_X_beginsAs_1 ?_
  refine lv_iload_n hx hb d_X_beginsAs_4 rfl (lv_at hl 1 rfl) ?_
  refine wg_lld (f := I 0) (j := k) hx hb hK hP 1 rfl (by omega) (by decide) d_X_beginsAs_5 ?_
  have hB5 := hw k (by omega)
  refine lv_aload_n hx hb d_X_beginsAs_6 rfl (lv_at hl 0 rfl) ?_
  refine wg_gX hx hb hts hown hK hP 0 (by decide) (v := .ref (ad 0)) kf_X_9 rfl d_X_beginsAs_7 ?_
  refine lv_iload_n hx hb d_X_beginsAs_10 rfl (lv_at hl 2 rfl) ?_
  refine wg_lld (f := I 0) (j := f) hx hb hK hP 1 rfl (by omega) (by decide) d_X_beginsAs_11 ?_
  have hB11 := hw f (by omega)
  refine t_lxor (v := lN ((I 0 k) ^^^ (I 0 f))) hx hb d_X_beginsAs_12 (wg_lxor (by omega) (by omega)) ?_
  refine lv_bipush (v := (nI 60)) hx hb d_X_beginsAs_13 (by decide +kernel) ?_
  refine lv_iconst (v := (nI 5)) hx hb d_X_beginsAs_15 (by decide +kernel) ?_
  refine lv_iload_n hx hb d_X_beginsAs_16 rfl (lv_at hl 3 rfl) ?_
  refine t_imul (v := nI (5 * t)) hx hb d_X_beginsAs_17 (pk_mul _ _) ?_
  refine t_isub (v := nI (60 - (5 * t))) hx hb d_X_beginsAs_18 (pk_sub (by omega)) ?_
  refine lv_lushr (v := lN (((I 0 k) ^^^ (I 0 f)) / 2 ^ (60 - (5 * t)))) hx hb d_X_beginsAs_19 (wb_shr (by have := wg_xor64 (hw k hk) (hw f hf); omega) (by omega)) ?_
  refine lv_lconst (v := lN 0) hx hb d_X_beginsAs_20 (by decide +kernel) ?_
  refine W.lcmp hx hb d_X_beginsAs_21 ?_
  refine lv_if_ne (tgt := 29) hx hb d_X_beginsAs_22 (by decide) (fun h22 => ?_) (fun h22 => ?_)
  · rw [lg_cmp_eq] at h22
    rw [pk_lEQ (by exact Nat.lt_of_le_of_lt (Nat.div_le_self _ _) (Nat.lt_trans (wg_xor64 (hw k hk) (hw f hf)) (by decide))) (by decide)] at h22
    refine lv_iconst (v := (nI 0)) hx hb d_X_beginsAs_29 (by decide +kernel) ?_
    exact W.zret (ty := .boolean) (v := (nI 0)) hx hb hr (by decide +kernel) (fun tt hth hW => ⟨⟨_, (), rfl, (Or.inr ⟨rfl, h22⟩), wg_h hth hP⟩, hS.F hth⟩) hS.2.2 d_X_beginsAs_30
  · rw [lg_cmp_eq] at h22
    rw [pk_lEQ (by exact Nat.lt_of_le_of_lt (Nat.div_le_self _ _) (Nat.lt_trans (wg_xor64 (hw k hk) (hw f hf)) (by decide))) (by decide)] at h22
    refine lv_iconst (v := (nI 1)) hx hb d_X_beginsAs_25 (by decide +kernel) ?_
    refine lv_goto (tgt := 30) hx hb d_X_beginsAs_26 (by decide) ?_
    exact W.zret (ty := .boolean) (v := (nI 1)) hx hb hr (by decide +kernel) (fun tt hth hW => ⟨⟨_, (), rfl, (Or.inl ⟨rfl, h22⟩), wg_h hth hP⟩, hS.F hth⟩) hS.2.2 d_X_beginsAs_30
end
section
set_option maxHeartbeats 4000000 in
set_option maxRecDepth 100000 in
theorem c_X_makeNode (l : Launch) (D : va_G) (cJ cI : ClassId) (h0 : Nat) (ad : Nat → Nat) (sz : Nat) (I : wg_S) (k : Nat) (t : Nat) (hc : I 8 0 < 577) : Met l y_X_makeNode (wg_ws y_X_makeNode b_X_makeNode 3 (some .int)) ({ frames := 0, cells := 0, slots := 0, locals := 0 }) (va_Pc [.ref h0, .int (nI k), .int (nI t)] (wg_Pc D cJ cI (wg_WX cJ cI h0 ad I) sz)) (va_Qi (fun (r : Int32) (u : wg_S) => r = nI (I 8 0) ∧ u = wg_st (wg_st (wg_st I 6 (I 8 0) k) 7 (I 8 0) t) 8 0 (I 8 0 + 1)) (fun (u : wg_S) t => va_P D wg_cl (wg_WX cJ cI h0 ad u) t.heap) (va_A (wg_WX cJ cI h0 ad I) sz)) 0 0 (va_A (wg_WX cJ cI h0 ad I) sz) := by
  refine wg_head (Wd := (fun I => wg_WX cJ cI h0 ad I)) (I := I) (fun A => va_Qi (fun (r : Int32) (u : wg_S) => r = nI (I 8 0) ∧ u = wg_st (wg_st (wg_st I 6 (I 8 0) k) 7 (I 8 0) t) 8 0 (I 8 0 + 1)) (fun (u : wg_S) t => va_P D wg_cl (wg_WX cJ cI h0 ad u) t.heap) A) R_X (by decide) rfl (Nat.le_of_ble_eq_true rfl) (fun I J => wg_same_X I J) ?_
  intro p e s m below meth c A ls hx hb hr hlk hml hown hnm hts hA hK hD hP hS hl hsz
  clear hsz
  have hl : lv_has ls 3 [(0, .ref h0), (1, .int (nI k)), (2, .int (nI t))] := hl
  have hP : va_P D wg_cl (wg_WX cJ cI h0 ad I) s.heap := hP
  skip
  refine lv_aload_n hx hb d_X_makeNode_0 rfl (lv_at hl 0 rfl) ?_
  refine wg_gX hx hb hts hown hK hP 6 (by decide) (v := .ref (ad 6)) kf_X_23 rfl d_X_makeNode_1 ?_
  refine lv_aload_n hx hb d_X_makeNode_4 rfl (lv_at hl 0 rfl) ?_
  refine wg_gX hx hb hts hown hK hP 8 (by decide) (v := .int (nI (I 8 0))) kf_X_72 rfl d_X_makeNode_5 ?_
  refine lv_iload_n hx hb d_X_makeNode_8 rfl (lv_at hl 1 rfl) ?_
  refine wg_sX6 (j := (I 8 0)) (x := k) hx hb hK hP hD hS (by omega) d_X_makeNode_9 (fun H locs hP hS => ?_)
  refine lv_aload_n hx hb d_X_makeNode_10 rfl (lv_at hl 0 rfl) ?_
  refine wg_gX hx hb hts hown hK hP 7 (by decide) (v := .ref (ad 7)) kf_X_26 rfl d_X_makeNode_11 ?_
  refine lv_aload_n hx hb d_X_makeNode_14 rfl (lv_at hl 0 rfl) ?_
  refine wg_gX hx hb hts hown hK hP 8 (by decide) (v := .int (nI (I 8 0))) kf_X_72 rfl d_X_makeNode_15 ?_
  refine lv_iload_n hx hb d_X_makeNode_18 rfl (lv_at hl 2 rfl) ?_
  refine wg_sX7 (j := (I 8 0)) (x := t) hx hb hK hP hD hS (by omega) d_X_makeNode_19 (fun H locs hP hS => ?_)
  refine lv_aload_n hx hb d_X_makeNode_20 rfl (lv_at hl 0 rfl) ?_
  refine lv_dup hx hb d_X_makeNode_21 rfl ?_
  refine wg_gX hx hb hts hown hK hP 8 (by decide) (v := .int (nI (I 8 0))) kf_X_72 rfl d_X_makeNode_22 ?_
  refine lv_iconst (v := (nI 1)) hx hb d_X_makeNode_25 (by decide +kernel) ?_
  refine t_iadd (v := nI ((I 8 0) + 1)) hx hb d_X_makeNode_26 (nI_add _ _) ?_
  refine wg_pX8 (v := ((I 8 0) + 1)) hx hb hts hown hK hP hD hS kf_X_72 d_X_makeNode_27 (fun H locs hP hS => ?_)
  refine lv_aload_n hx hb d_X_makeNode_30 rfl (lv_at hl 0 rfl) ?_
  refine wg_gX hx hb hts hown hK hP 8 (by decide) (v := .int (nI ((I 8 0) + 1))) kf_X_72 rfl d_X_makeNode_31 ?_
  refine lv_iconst (v := (nI 1)) hx hb d_X_makeNode_34 (by decide +kernel) ?_
  refine t_isub (v := nI (((I 8 0) + 1) - 1)) hx hb d_X_makeNode_35 (pk_sub (by omega)) ?_
  exact W.iret (v := (nI (((I 8 0) + 1) - 1))) hx hb hr (fun tt hth hW => ⟨⟨_, (wg_st (wg_st (wg_st I 6 (I 8 0) k) 7 (I 8 0) t) 8 0 ((I 8 0) + 1)), rfl, ⟨by rw [show I 8 0 + 1 - 1 = I 8 0 by omega], rfl⟩, wg_h hth hP⟩, hS.F hth⟩) hS.2.2 d_X_makeNode_36
set_option maxHeartbeats 4000000 in
set_option maxRecDepth 100000 in
theorem c_X_sameEndings (l : Launch) (D : va_G) (cJ cI : ClassId) (h0 : Nat) (ad : Nat → Nat) (sz : Nat) (I : wg_S) (k : Nat) (t : Nat) (j : Nat) (o : Nat) (hk : k < 48) (ht : t ≤ 12) (hj : j < 48) (ho : o ≤ 12) (hI : wg_XI I) : Met l y_X_sameEndings (wg_ws y_X_sameEndings b_X_sameEndings 8 (some .boolean)) ({ frames := 1, cells := 0, slots := 0, locals := 23 }) (va_Pc [.ref h0, .int (nI k), .int (nI t), .int (nI j), .int (nI o)] (wg_Pc D cJ cI (wg_WX cJ cI h0 ad I) sz)) (va_Qi (fun (r : Int32) (u : Unit) => r = nI 1 ∨ r = nI 0) (fun (_ : Unit) t => va_P D wg_cl (wg_WX cJ cI h0 ad I) t.heap) (va_A (wg_WX cJ cI h0 ad I) sz)) 0 0 (va_A (wg_WX cJ cI h0 ad I) sz) := by
  refine wg_head (Wd := (fun I => wg_WX cJ cI h0 ad I)) (I := I) (fun A => va_Qi (fun (r : Int32) (u : Unit) => r = nI 1 ∨ r = nI 0) (fun (_ : Unit) t => va_P D wg_cl (wg_WX cJ cI h0 ad I) t.heap) A) R_X (by decide) rfl (Nat.le_of_ble_eq_true rfl) (fun I J => wg_same_X I J) ?_
  intro p e s m below meth c A ls hx hb hr hlk hml hown hnm hts hA hK hD hP hS hl hsz
  clear hsz
  have hl : lv_has ls 8 [(0, .ref h0), (1, .int (nI k)), (2, .int (nI t)), (3, .int (nI j)), (4, .int (nI o))] := hl
  have hP : va_P D wg_cl (wg_WX cJ cI h0 ad I) s.heap := hP
  skip
  have hI' := hI
  obtain ⟨hn, hse, hc, hrc, hso, hw, hL, hF, hF1, hNW, hNL, hT, hWF, hNO⟩ := hI'
  refine lv_iconst (v := (nI 0)) hx hb d_X_sameEndings_0 (by decide +kernel) ?_
  refine lv_istore (lv' := [(5, .int (nI 0)), (0, .ref h0), (1, .int (nI k)), (2, .int (nI t)), (3, .int (nI j)), (4, .int (nI o))]) hx hb d_X_sameEndings_1 hl (by decide) rfl (fun ls hl => ?_)
  refine wg_loop (fun x _ _ _ H locs ls => (x ≤ 48) ∧ va_P D wg_cl (wg_WX cJ cI h0 ad I) H ∧ va_S A s.heap H locs ∧ lv_has ls 8 [(0, .ref h0), (1, .int (nI k)), (2, .int (nI t)), (3, .int (nI j)), (4, .int (nI o)), (5, .int (nI x))]) (fun x _ _ _ => 48 - x) (fun x _z0 _z1 _J H locs ls hI ih3 => ?_) 0 0 0 (fun _ _ => 0) _ _ _ ⟨(by omega), hP, hS, lv_sub hl [1, 2, 3, 4, 5, 0] rfl⟩
  obtain ⟨hx5, hP, hS, hl⟩ := hI
  refine lv_iload hx hb d_X_sameEndings_3 (lv_at hl 5 rfl) ?_
  refine lv_bipush (v := (nI 48)) hx hb d_X_sameEndings_5 (by decide +kernel) ?_
  refine lv_icmp_ge (tgt := 128) hx hb d_X_sameEndings_7 (by decide) (fun h7 => ?_) (fun h7 => ?_)
  · rw [nI_leI (by omega) (by omega)] at h7
    refine lv_iconst (v := (nI 1)) hx hb d_X_sameEndings_128 (by decide +kernel) ?_
    exact W.zret (ty := .boolean) (v := (nI 1)) hx hb hr (by decide +kernel) (fun tt hth hW => ⟨⟨_, (), rfl, (Or.inl rfl), wg_h hth hP⟩, hS.F hth⟩) hS.2.2 d_X_sameEndings_129
  · rw [nI_leI (by omega) (by omega)] at h7
    refine lv_iload_n hx hb d_X_sameEndings_10 rfl (lv_at hl 1 rfl) ?_
    refine lv_iload hx hb d_X_sameEndings_11 (lv_at hl 5 rfl) ?_
    refine t_iadd (v := nI (k + x)) hx hb d_X_sameEndings_13 (nI_add _ _) ?_
    refine lv_aload_n hx hb d_X_sameEndings_14 rfl (lv_at hl 0 rfl) ?_
    refine wg_gX hx hb hts hown hK hP 3 (by decide) (v := .int (nI (I 3 0))) kf_X_52 rfl d_X_sameEndings_15 ?_
    refine lv_icmp_ge (tgt := 38) hx hb d_X_sameEndings_18 (by decide) (fun h18 => ?_) (fun h18 => ?_)
    · rw [nI_leI (by omega) (by omega)] at h18
      refine lv_iconst (v := (nI 0)) hx hb d_X_sameEndings_38 (by decide +kernel) ?_
      refine lv_istore (lv' := [(6, .int (nI 0)), (0, .ref h0), (1, .int (nI k)), (2, .int (nI t)), (3, .int (nI j)), (4, .int (nI o)), (5, .int (nI x))]) hx hb d_X_sameEndings_39 hl (by decide) rfl (fun ls hl => ?_)
      refine lv_iload_n hx hb d_X_sameEndings_41 rfl (lv_at hl 4 rfl) ?_
      refine lv_iload hx hb d_X_sameEndings_42 (lv_at hl 6 rfl) ?_
      refine t_iadd (v := nI (j + x)) hx hb d_X_sameEndings_44 (nI_add _ _) ?_
      refine lv_aload_n hx hb d_X_sameEndings_45 rfl (lv_at hl 1 rfl) ?_
      refine wg_gX hx hb hts hown hK hP 3 (by decide) (v := .int (nI (I 3 0))) kf_X_52 rfl d_X_sameEndings_46 ?_
      refine lv_icmp_ge (tgt := 70) hx hb d_X_sameEndings_49 (by decide) (fun h49 => ?_) (fun h49 => ?_)
      · rw [nI_leI (by omega) (by omega)] at h49
        refine lv_iconst (v := (nI 0)) hx hb d_X_sameEndings_70 (by decide +kernel) ?_
        refine lv_istore (lv' := [(7, .int (nI 0)), (6, .int (nI 0)), (0, .ref h0), (1, .int (nI k)), (2, .int (nI t)), (3, .int (nI j)), (4, .int (nI o)), (5, .int (nI x))]) hx hb d_X_sameEndings_71 hl (by decide) rfl (fun ls hl => ?_)
        refine lv_iload hx hb d_X_sameEndings_73 (lv_at hl 1 rfl) ?_
        refine lv_iload hx hb d_X_sameEndings_75 (lv_at hl 0 rfl) ?_
        refine lv_icmp_eq (tgt := 82) hx hb d_X_sameEndings_77 (by decide) (fun _ => ?_) (fun h => absurd h (by decide +kernel))
        refine lv_iload hx hb d_X_sameEndings_82 (lv_at hl 1 rfl) ?_
        refine lv_if_ne (tgt := 89) hx hb d_X_sameEndings_84 (by decide) (fun h => absurd h (by decide +kernel)) (fun _ => ?_)
        refine lv_iconst (v := (nI 1)) hx hb d_X_sameEndings_87 (by decide +kernel) ?_
        exact W.zret (ty := .boolean) (v := (nI 1)) hx hb hr (by decide +kernel) (fun tt hth hW => ⟨⟨_, (), rfl, (Or.inl rfl), wg_h hth hP⟩, hS.F hth⟩) hS.2.2 d_X_sameEndings_88
      · rw [nI_leI (by omega) (by omega)] at h49
        refine lv_aload_n hx hb d_X_sameEndings_52 rfl (lv_at hl 1 rfl) ?_
        refine lv_iload_n hx hb d_X_sameEndings_53 rfl (lv_at hl 4 rfl) ?_
        refine lv_iload hx hb d_X_sameEndings_54 (lv_at hl 6 rfl) ?_
        refine t_iadd (v := nI (j + x)) hx hb d_X_sameEndings_56 (nI_add _ _) ?_
        refine lv_iload_n hx hb d_X_sameEndings_57 rfl (lv_at hl 4 rfl) ?_
        refine lv_iload hx hb d_X_sameEndings_58 (lv_at hl 5 rfl) ?_
        refine wg_cvi (As := [.int (nI (j + x)), .int (nI j), .int (nI o)]) (rest := []) hx hb hml hown hts hK hP (hD _) hS hA rfl rfl rfl (c_X_beginsAs l D cJ cI h0 ad _ I (j + x) j o (by omega) hj ho hI) kc_X_87 ⟨rfl, rfl⟩ ⟨Nat.le_of_ble_eq_true rfl, Nat.le_of_ble_eq_true rfl⟩ rfl hl.1 rfl (Nat.le_of_ble_eq_true rfl) d_X_sameEndings_60 ⟨Nat.zero_le _, Nat.zero_le _⟩ (fun r u60 tt H locs ht q60 hB _ _ hS => ?_)
        have hP : va_P D wg_cl (wg_WX cJ cI h0 ad I) H := by rw [← ht]; exact hB
        clear hB ht tt
        rcases q60 with ⟨rfl, hb60⟩ | ⟨rfl, hb60⟩
        · skip
          refine lv_if_eq (tgt := 70) hx hb d_X_sameEndings_63 (by decide) (fun h => absurd h (by decide +kernel)) (fun _ => ?_)
          refine lv_iconst (v := (nI 1)) hx hb d_X_sameEndings_66 (by decide +kernel) ?_
          refine lv_goto (tgt := 71) hx hb d_X_sameEndings_67 (by decide) ?_
          refine lv_istore (lv' := [(7, .int (nI 1)), (6, .int (nI 0)), (0, .ref h0), (1, .int (nI k)), (2, .int (nI t)), (3, .int (nI j)), (4, .int (nI o)), (5, .int (nI x))]) hx hb d_X_sameEndings_71 hl (by decide) rfl (fun ls hl => ?_)
          refine lv_iload hx hb d_X_sameEndings_73 (lv_at hl 1 rfl) ?_
          refine lv_iload hx hb d_X_sameEndings_75 (lv_at hl 0 rfl) ?_
          refine lv_icmp_eq (tgt := 82) hx hb d_X_sameEndings_77 (by decide) (fun h => absurd h (by decide +kernel)) (fun _ => ?_)
          refine lv_iconst (v := (nI 0)) hx hb d_X_sameEndings_80 (by decide +kernel) ?_
          exact W.zret (ty := .boolean) (v := (nI 0)) hx hb hr (by decide +kernel) (fun tt hth hW => ⟨⟨_, (), rfl, (Or.inr rfl), wg_h hth hP⟩, hS.F hth⟩) hS.2.2 d_X_sameEndings_81
        · skip
          refine lv_if_eq (tgt := 70) hx hb d_X_sameEndings_63 (by decide) (fun _ => ?_) (fun h => absurd h (by decide +kernel))
          refine lv_iconst (v := (nI 0)) hx hb d_X_sameEndings_70 (by decide +kernel) ?_
          refine lv_istore (lv' := [(7, .int (nI 0)), (6, .int (nI 0)), (0, .ref h0), (1, .int (nI k)), (2, .int (nI t)), (3, .int (nI j)), (4, .int (nI o)), (5, .int (nI x))]) hx hb d_X_sameEndings_71 hl (by decide) rfl (fun ls hl => ?_)
          refine lv_iload hx hb d_X_sameEndings_73 (lv_at hl 1 rfl) ?_
          refine lv_iload hx hb d_X_sameEndings_75 (lv_at hl 0 rfl) ?_
          refine lv_icmp_eq (tgt := 82) hx hb d_X_sameEndings_77 (by decide) (fun _ => ?_) (fun h => absurd h (by decide +kernel))
          refine lv_iload hx hb d_X_sameEndings_82 (lv_at hl 1 rfl) ?_
          refine lv_if_ne (tgt := 89) hx hb d_X_sameEndings_84 (by decide) (fun h => absurd h (by decide +kernel)) (fun _ => ?_)
          refine lv_iconst (v := (nI 1)) hx hb d_X_sameEndings_87 (by decide +kernel) ?_
          exact W.zret (ty := .boolean) (v := (nI 1)) hx hb hr (by decide +kernel) (fun tt hth hW => ⟨⟨_, (), rfl, (Or.inl rfl), wg_h hth hP⟩, hS.F hth⟩) hS.2.2 d_X_sameEndings_88
    · rw [nI_leI (by omega) (by omega)] at h18
      refine lv_aload_n hx hb d_X_sameEndings_21 rfl (lv_at hl 0 rfl) ?_
      refine lv_iload_n hx hb d_X_sameEndings_22 rfl (lv_at hl 1 rfl) ?_
      refine lv_iload hx hb d_X_sameEndings_23 (lv_at hl 5 rfl) ?_
      refine t_iadd (v := nI (k + x)) hx hb d_X_sameEndings_25 (nI_add _ _) ?_
      refine lv_iload_n hx hb d_X_sameEndings_26 rfl (lv_at hl 1 rfl) ?_
      refine lv_iload_n hx hb d_X_sameEndings_27 rfl (lv_at hl 2 rfl) ?_
      refine wg_cvi (As := [.int (nI (k + x)), .int (nI k), .int (nI t)]) (rest := []) hx hb hml hown hts hK hP (hD _) hS hA rfl rfl rfl (c_X_beginsAs l D cJ cI h0 ad _ I (k + x) k t (by omega) hk ht hI) kc_X_87 ⟨rfl, rfl⟩ ⟨Nat.le_of_ble_eq_true rfl, Nat.le_of_ble_eq_true rfl⟩ rfl hl.1 rfl (Nat.le_of_ble_eq_true rfl) d_X_sameEndings_28 ⟨Nat.zero_le _, Nat.zero_le _⟩ (fun r u28 tt H locs ht q28 hB _ _ hS => ?_)
      have hP : va_P D wg_cl (wg_WX cJ cI h0 ad I) H := by rw [← ht]; exact hB
      clear hB ht tt
      rcases q28 with ⟨rfl, hb28⟩ | ⟨rfl, hb28⟩
      · skip
        refine lv_if_eq (tgt := 38) hx hb d_X_sameEndings_31 (by decide) (fun h => absurd h (by decide +kernel)) (fun _ => ?_)
        refine lv_iconst (v := (nI 1)) hx hb d_X_sameEndings_34 (by decide +kernel) ?_
        refine lv_goto (tgt := 39) hx hb d_X_sameEndings_35 (by decide) ?_
        refine lv_istore (lv' := [(6, .int (nI 1)), (0, .ref h0), (1, .int (nI k)), (2, .int (nI t)), (3, .int (nI j)), (4, .int (nI o)), (5, .int (nI x))]) hx hb d_X_sameEndings_39 hl (by decide) rfl (fun ls hl => ?_)
        refine lv_iload_n hx hb d_X_sameEndings_41 rfl (lv_at hl 4 rfl) ?_
        refine lv_iload hx hb d_X_sameEndings_42 (lv_at hl 6 rfl) ?_
        refine t_iadd (v := nI (j + x)) hx hb d_X_sameEndings_44 (nI_add _ _) ?_
        refine lv_aload_n hx hb d_X_sameEndings_45 rfl (lv_at hl 1 rfl) ?_
        refine wg_gX hx hb hts hown hK hP 3 (by decide) (v := .int (nI (I 3 0))) kf_X_52 rfl d_X_sameEndings_46 ?_
        refine lv_icmp_ge (tgt := 70) hx hb d_X_sameEndings_49 (by decide) (fun h49 => ?_) (fun h49 => ?_)
        · rw [nI_leI (by omega) (by omega)] at h49
          refine lv_iconst (v := (nI 0)) hx hb d_X_sameEndings_70 (by decide +kernel) ?_
          refine lv_istore (lv' := [(7, .int (nI 0)), (6, .int (nI 1)), (0, .ref h0), (1, .int (nI k)), (2, .int (nI t)), (3, .int (nI j)), (4, .int (nI o)), (5, .int (nI x))]) hx hb d_X_sameEndings_71 hl (by decide) rfl (fun ls hl => ?_)
          refine lv_iload hx hb d_X_sameEndings_73 (lv_at hl 1 rfl) ?_
          refine lv_iload hx hb d_X_sameEndings_75 (lv_at hl 0 rfl) ?_
          refine lv_icmp_eq (tgt := 82) hx hb d_X_sameEndings_77 (by decide) (fun h => absurd h (by decide +kernel)) (fun _ => ?_)
          refine lv_iconst (v := (nI 0)) hx hb d_X_sameEndings_80 (by decide +kernel) ?_
          exact W.zret (ty := .boolean) (v := (nI 0)) hx hb hr (by decide +kernel) (fun tt hth hW => ⟨⟨_, (), rfl, (Or.inr rfl), wg_h hth hP⟩, hS.F hth⟩) hS.2.2 d_X_sameEndings_81
        · rw [nI_leI (by omega) (by omega)] at h49
          refine lv_aload_n hx hb d_X_sameEndings_52 rfl (lv_at hl 1 rfl) ?_
          refine lv_iload_n hx hb d_X_sameEndings_53 rfl (lv_at hl 4 rfl) ?_
          refine lv_iload hx hb d_X_sameEndings_54 (lv_at hl 6 rfl) ?_
          refine t_iadd (v := nI (j + x)) hx hb d_X_sameEndings_56 (nI_add _ _) ?_
          refine lv_iload_n hx hb d_X_sameEndings_57 rfl (lv_at hl 4 rfl) ?_
          refine lv_iload hx hb d_X_sameEndings_58 (lv_at hl 5 rfl) ?_
          refine wg_cvi (As := [.int (nI (j + x)), .int (nI j), .int (nI o)]) (rest := []) hx hb hml hown hts hK hP (hD _) hS hA rfl rfl rfl (c_X_beginsAs l D cJ cI h0 ad _ I (j + x) j o (by omega) hj ho hI) kc_X_87 ⟨rfl, rfl⟩ ⟨Nat.le_of_ble_eq_true rfl, Nat.le_of_ble_eq_true rfl⟩ rfl hl.1 rfl (Nat.le_of_ble_eq_true rfl) d_X_sameEndings_60 ⟨Nat.zero_le _, Nat.zero_le _⟩ (fun r u60 tt H locs ht q60 hB _ _ hS => ?_)
          have hP : va_P D wg_cl (wg_WX cJ cI h0 ad I) H := by rw [← ht]; exact hB
          clear hB ht tt
          rcases q60 with ⟨rfl, hb60⟩ | ⟨rfl, hb60⟩
          · skip
            refine lv_if_eq (tgt := 70) hx hb d_X_sameEndings_63 (by decide) (fun h => absurd h (by decide +kernel)) (fun _ => ?_)
            refine lv_iconst (v := (nI 1)) hx hb d_X_sameEndings_66 (by decide +kernel) ?_
            refine lv_goto (tgt := 71) hx hb d_X_sameEndings_67 (by decide) ?_
            refine lv_istore (lv' := [(7, .int (nI 1)), (6, .int (nI 1)), (0, .ref h0), (1, .int (nI k)), (2, .int (nI t)), (3, .int (nI j)), (4, .int (nI o)), (5, .int (nI x))]) hx hb d_X_sameEndings_71 hl (by decide) rfl (fun ls hl => ?_)
            refine lv_iload hx hb d_X_sameEndings_73 (lv_at hl 1 rfl) ?_
            refine lv_iload hx hb d_X_sameEndings_75 (lv_at hl 0 rfl) ?_
            refine lv_icmp_eq (tgt := 82) hx hb d_X_sameEndings_77 (by decide) (fun _ => ?_) (fun h => absurd h (by decide +kernel))
            refine lv_iload hx hb d_X_sameEndings_82 (lv_at hl 1 rfl) ?_
            refine lv_if_ne (tgt := 89) hx hb d_X_sameEndings_84 (by decide) (fun _ => ?_) (fun h => absurd h (by decide +kernel))
            refine lv_aload_n hx hb d_X_sameEndings_89 rfl (lv_at hl 2 rfl) ?_
            refine wg_gX hx hb hts hown hK hP 0 (by decide) (v := .ref (ad 0)) kf_X_9 rfl d_X_sameEndings_90 ?_
            refine lv_iload_n hx hb d_X_sameEndings_93 rfl (lv_at hl 3 rfl) ?_
            refine lv_iload hx hb d_X_sameEndings_94 (lv_at hl 7 rfl) ?_
            refine t_iadd (v := nI (k + x)) hx hb d_X_sameEndings_96 (nI_add _ _) ?_
            refine wg_lld (f := I 0) (j := (k + x)) hx hb hK hP 1 rfl (by omega) (by decide) d_X_sameEndings_97 ?_
            have hB97 := hw (k + x) (by omega)
            refine lv_iload_n hx hb d_X_sameEndings_98 rfl (lv_at hl 4 rfl) ?_
            refine wg_csl (As := [.long (lN (I 0 (k + x))), .int (nI t)]) (rest := []) hx hb hml hown hts hK hP hS hA (c_X_restOf l D cJ cI _ (I 0 (k + x)) t (by omega)) kc_X_114 ⟨rfl, rfl⟩ ⟨Nat.le_of_ble_eq_true rfl, Nat.le_of_ble_eq_true rfl⟩ rfl hl.1 rfl (Nat.le_of_ble_eq_true rfl) d_X_sameEndings_99 ⟨Nat.zero_le _, Nat.zero_le _⟩ (fun r H locs q99 hP hS => ?_)
            obtain rfl := q99
            refine lv_aload_n hx hb d_X_sameEndings_102 rfl (lv_at hl 2 rfl) ?_
            refine wg_gX hx hb hts hown hK hP 0 (by decide) (v := .ref (ad 0)) kf_X_9 rfl d_X_sameEndings_103 ?_
            refine lv_iload_n hx hb d_X_sameEndings_106 rfl (lv_at hl 5 rfl) ?_
            refine lv_iload hx hb d_X_sameEndings_107 (lv_at hl 7 rfl) ?_
            refine t_iadd (v := nI (j + x)) hx hb d_X_sameEndings_109 (nI_add _ _) ?_
            refine wg_lld (f := I 0) (j := (j + x)) hx hb hK hP 1 rfl (by omega) (by decide) d_X_sameEndings_110 ?_
            have hB110 := hw (j + x) (by omega)
            refine lv_iload hx hb d_X_sameEndings_111 (lv_at hl 6 rfl) ?_
            refine wg_csl (As := [.long (lN (I 0 (j + x))), .int (nI o)]) (rest := [.long (lN ((I 0 (k + x)) * 2 ^ (5 * t) % 2 ^ 60))]) hx hb hml hown hts hK hP hS hA (c_X_restOf l D cJ cI _ (I 0 (j + x)) o (by omega)) kc_X_114 ⟨rfl, rfl⟩ ⟨Nat.le_of_ble_eq_true rfl, Nat.le_of_ble_eq_true rfl⟩ rfl hl.1 rfl (Nat.le_of_ble_eq_true rfl) d_X_sameEndings_113 ⟨Nat.zero_le _, Nat.zero_le _⟩ (fun r H locs q113 hP hS => ?_)
            obtain rfl := q113
            refine W.lcmp hx hb d_X_sameEndings_116 ?_
            refine lv_if_eq (tgt := 122) hx hb d_X_sameEndings_117 (by decide) (fun h117 => ?_) (fun h117 => ?_)
            · rw [lg_cmp_eq] at h117
              rw [pk_lEQ (by omega) (by omega)] at h117
              refine lv_iinc (v := nI (x + 1)) (k := 7) (lv' := [(5, .int (nI (x + 1))), (7, .int (nI 1)), (6, .int (nI 1)), (0, .ref h0), (1, .int (nI k)), (2, .int (nI t)), (3, .int (nI j)), (4, .int (nI o))]) hx hb d_X_sameEndings_122 hl rfl (nI_1 _) (by decide) rfl (fun ls hl => ?_)
              refine lv_goto (tgt := 3) hx hb d_X_sameEndings_125 (by decide) ?_
              exact ih3 (x + 1) 0 0 (fun _ _ => 0) _ _ _ ⟨(by omega), hP, hS, lv_sub hl [3, 4, 5, 6, 7, 0] rfl⟩ (by omega)
            · rw [lg_cmp_eq] at h117
              rw [pk_lEQ (by omega) (by omega)] at h117
              refine lv_iconst (v := (nI 0)) hx hb d_X_sameEndings_120 (by decide +kernel) ?_
              exact W.zret (ty := .boolean) (v := (nI 0)) hx hb hr (by decide +kernel) (fun tt hth hW => ⟨⟨_, (), rfl, (Or.inr rfl), wg_h hth hP⟩, hS.F hth⟩) hS.2.2 d_X_sameEndings_121
          · skip
            refine lv_if_eq (tgt := 70) hx hb d_X_sameEndings_63 (by decide) (fun _ => ?_) (fun h => absurd h (by decide +kernel))
            refine lv_iconst (v := (nI 0)) hx hb d_X_sameEndings_70 (by decide +kernel) ?_
            refine lv_istore (lv' := [(7, .int (nI 0)), (6, .int (nI 1)), (0, .ref h0), (1, .int (nI k)), (2, .int (nI t)), (3, .int (nI j)), (4, .int (nI o)), (5, .int (nI x))]) hx hb d_X_sameEndings_71 hl (by decide) rfl (fun ls hl => ?_)
            refine lv_iload hx hb d_X_sameEndings_73 (lv_at hl 1 rfl) ?_
            refine lv_iload hx hb d_X_sameEndings_75 (lv_at hl 0 rfl) ?_
            refine lv_icmp_eq (tgt := 82) hx hb d_X_sameEndings_77 (by decide) (fun h => absurd h (by decide +kernel)) (fun _ => ?_)
            refine lv_iconst (v := (nI 0)) hx hb d_X_sameEndings_80 (by decide +kernel) ?_
            exact W.zret (ty := .boolean) (v := (nI 0)) hx hb hr (by decide +kernel) (fun tt hth hW => ⟨⟨_, (), rfl, (Or.inr rfl), wg_h hth hP⟩, hS.F hth⟩) hS.2.2 d_X_sameEndings_81
      · skip
        refine lv_if_eq (tgt := 38) hx hb d_X_sameEndings_31 (by decide) (fun _ => ?_) (fun h => absurd h (by decide +kernel))
        refine lv_iconst (v := (nI 0)) hx hb d_X_sameEndings_38 (by decide +kernel) ?_
        refine lv_istore (lv' := [(6, .int (nI 0)), (0, .ref h0), (1, .int (nI k)), (2, .int (nI t)), (3, .int (nI j)), (4, .int (nI o)), (5, .int (nI x))]) hx hb d_X_sameEndings_39 hl (by decide) rfl (fun ls hl => ?_)
        refine lv_iload_n hx hb d_X_sameEndings_41 rfl (lv_at hl 4 rfl) ?_
        refine lv_iload hx hb d_X_sameEndings_42 (lv_at hl 6 rfl) ?_
        refine t_iadd (v := nI (j + x)) hx hb d_X_sameEndings_44 (nI_add _ _) ?_
        refine lv_aload_n hx hb d_X_sameEndings_45 rfl (lv_at hl 1 rfl) ?_
        refine wg_gX hx hb hts hown hK hP 3 (by decide) (v := .int (nI (I 3 0))) kf_X_52 rfl d_X_sameEndings_46 ?_
        refine lv_icmp_ge (tgt := 70) hx hb d_X_sameEndings_49 (by decide) (fun h49 => ?_) (fun h49 => ?_)
        · rw [nI_leI (by omega) (by omega)] at h49
          refine lv_iconst (v := (nI 0)) hx hb d_X_sameEndings_70 (by decide +kernel) ?_
          refine lv_istore (lv' := [(7, .int (nI 0)), (6, .int (nI 0)), (0, .ref h0), (1, .int (nI k)), (2, .int (nI t)), (3, .int (nI j)), (4, .int (nI o)), (5, .int (nI x))]) hx hb d_X_sameEndings_71 hl (by decide) rfl (fun ls hl => ?_)
          refine lv_iload hx hb d_X_sameEndings_73 (lv_at hl 1 rfl) ?_
          refine lv_iload hx hb d_X_sameEndings_75 (lv_at hl 0 rfl) ?_
          refine lv_icmp_eq (tgt := 82) hx hb d_X_sameEndings_77 (by decide) (fun _ => ?_) (fun h => absurd h (by decide +kernel))
          refine lv_iload hx hb d_X_sameEndings_82 (lv_at hl 1 rfl) ?_
          refine lv_if_ne (tgt := 89) hx hb d_X_sameEndings_84 (by decide) (fun h => absurd h (by decide +kernel)) (fun _ => ?_)
          refine lv_iconst (v := (nI 1)) hx hb d_X_sameEndings_87 (by decide +kernel) ?_
          exact W.zret (ty := .boolean) (v := (nI 1)) hx hb hr (by decide +kernel) (fun tt hth hW => ⟨⟨_, (), rfl, (Or.inl rfl), wg_h hth hP⟩, hS.F hth⟩) hS.2.2 d_X_sameEndings_88
        · rw [nI_leI (by omega) (by omega)] at h49
          refine lv_aload_n hx hb d_X_sameEndings_52 rfl (lv_at hl 1 rfl) ?_
          refine lv_iload_n hx hb d_X_sameEndings_53 rfl (lv_at hl 4 rfl) ?_
          refine lv_iload hx hb d_X_sameEndings_54 (lv_at hl 6 rfl) ?_
          refine t_iadd (v := nI (j + x)) hx hb d_X_sameEndings_56 (nI_add _ _) ?_
          refine lv_iload_n hx hb d_X_sameEndings_57 rfl (lv_at hl 4 rfl) ?_
          refine lv_iload hx hb d_X_sameEndings_58 (lv_at hl 5 rfl) ?_
          refine wg_cvi (As := [.int (nI (j + x)), .int (nI j), .int (nI o)]) (rest := []) hx hb hml hown hts hK hP (hD _) hS hA rfl rfl rfl (c_X_beginsAs l D cJ cI h0 ad _ I (j + x) j o (by omega) hj ho hI) kc_X_87 ⟨rfl, rfl⟩ ⟨Nat.le_of_ble_eq_true rfl, Nat.le_of_ble_eq_true rfl⟩ rfl hl.1 rfl (Nat.le_of_ble_eq_true rfl) d_X_sameEndings_60 ⟨Nat.zero_le _, Nat.zero_le _⟩ (fun r u60 tt H locs ht q60 hB _ _ hS => ?_)
          have hP : va_P D wg_cl (wg_WX cJ cI h0 ad I) H := by rw [← ht]; exact hB
          clear hB ht tt
          rcases q60 with ⟨rfl, hb60⟩ | ⟨rfl, hb60⟩
          · skip
            refine lv_if_eq (tgt := 70) hx hb d_X_sameEndings_63 (by decide) (fun h => absurd h (by decide +kernel)) (fun _ => ?_)
            refine lv_iconst (v := (nI 1)) hx hb d_X_sameEndings_66 (by decide +kernel) ?_
            refine lv_goto (tgt := 71) hx hb d_X_sameEndings_67 (by decide) ?_
            refine lv_istore (lv' := [(7, .int (nI 1)), (6, .int (nI 0)), (0, .ref h0), (1, .int (nI k)), (2, .int (nI t)), (3, .int (nI j)), (4, .int (nI o)), (5, .int (nI x))]) hx hb d_X_sameEndings_71 hl (by decide) rfl (fun ls hl => ?_)
            refine lv_iload hx hb d_X_sameEndings_73 (lv_at hl 1 rfl) ?_
            refine lv_iload hx hb d_X_sameEndings_75 (lv_at hl 0 rfl) ?_
            refine lv_icmp_eq (tgt := 82) hx hb d_X_sameEndings_77 (by decide) (fun h => absurd h (by decide +kernel)) (fun _ => ?_)
            refine lv_iconst (v := (nI 0)) hx hb d_X_sameEndings_80 (by decide +kernel) ?_
            exact W.zret (ty := .boolean) (v := (nI 0)) hx hb hr (by decide +kernel) (fun tt hth hW => ⟨⟨_, (), rfl, (Or.inr rfl), wg_h hth hP⟩, hS.F hth⟩) hS.2.2 d_X_sameEndings_81
          · skip
            refine lv_if_eq (tgt := 70) hx hb d_X_sameEndings_63 (by decide) (fun _ => ?_) (fun h => absurd h (by decide +kernel))
            refine lv_iconst (v := (nI 0)) hx hb d_X_sameEndings_70 (by decide +kernel) ?_
            refine lv_istore (lv' := [(7, .int (nI 0)), (6, .int (nI 0)), (0, .ref h0), (1, .int (nI k)), (2, .int (nI t)), (3, .int (nI j)), (4, .int (nI o)), (5, .int (nI x))]) hx hb d_X_sameEndings_71 hl (by decide) rfl (fun ls hl => ?_)
            refine lv_iload hx hb d_X_sameEndings_73 (lv_at hl 1 rfl) ?_
            refine lv_iload hx hb d_X_sameEndings_75 (lv_at hl 0 rfl) ?_
            refine lv_icmp_eq (tgt := 82) hx hb d_X_sameEndings_77 (by decide) (fun _ => ?_) (fun h => absurd h (by decide +kernel))
            refine lv_iload hx hb d_X_sameEndings_82 (lv_at hl 1 rfl) ?_
            refine lv_if_ne (tgt := 89) hx hb d_X_sameEndings_84 (by decide) (fun h => absurd h (by decide +kernel)) (fun _ => ?_)
            refine lv_iconst (v := (nI 1)) hx hb d_X_sameEndings_87 (by decide +kernel) ?_
            exact W.zret (ty := .boolean) (v := (nI 1)) hx hb hr (by decide +kernel) (fun tt hth hW => ⟨⟨_, (), rfl, (Or.inl rfl), wg_h hth hP⟩, hS.F hth⟩) hS.2.2 d_X_sameEndings_88
set_option maxHeartbeats 4000000 in
set_option maxRecDepth 100000 in
theorem c_X_earlierNode (l : Launch) (D : va_G) (cJ cI : ClassId) (h0 : Nat) (ad : Nat → Nat) (sz : Nat) (I : wg_S) (k : Nat) (t : Nat) (hk : k < 48) (ht : t ≤ I 1 k) (hI : wg_XI I) : Met l y_X_earlierNode (wg_ws y_X_earlierNode b_X_earlierNode 6 (some .int)) ({ frames := 2, cells := 0, slots := 0, locals := 50 }) (va_Pc [.ref h0, .int (nI k), .int (nI t)] (wg_Pc D cJ cI (wg_WX cJ cI h0 ad I) sz)) (va_Qi (fun (r : Int32) (u : Unit) => r = -1 ∨ ∃ v, v < 577 ∧ r = nI v) (fun (_ : Unit) t => va_P D wg_cl (wg_WX cJ cI h0 ad I) t.heap) (va_A (wg_WX cJ cI h0 ad I) sz)) 0 0 (va_A (wg_WX cJ cI h0 ad I) sz) := by
  refine wg_head (Wd := (fun I => wg_WX cJ cI h0 ad I)) (I := I) (fun A => va_Qi (fun (r : Int32) (u : Unit) => r = -1 ∨ ∃ v, v < 577 ∧ r = nI v) (fun (_ : Unit) t => va_P D wg_cl (wg_WX cJ cI h0 ad I) t.heap) A) R_X (by decide) rfl (Nat.le_of_ble_eq_true rfl) (fun I J => wg_same_X I J) ?_
  intro p e s m below meth c A ls hx hb hr hlk hml hown hnm hts hA hK hD hP hS hl hsz
  clear hsz
  have hl : lv_has ls 6 [(0, .ref h0), (1, .int (nI k)), (2, .int (nI t))] := hl
  have hP : va_P D wg_cl (wg_WX cJ cI h0 ad I) s.heap := hP
  skip
  have hI' := hI
  obtain ⟨hn, hse, hc, hrc, hso, hw, hL, hF, hF1, hNW, hNL, hT, hWF, hNO⟩ := hI'
  refine lv_aload_n hx hb d_X_earlierNode_0 rfl (lv_at hl 0 rfl) ?_
  refine wg_gX hx hb hts hown hK hP 1 (by decide) (v := .ref (ad 1)) kf_X_13 rfl d_X_earlierNode_1 ?_
  refine lv_iload_n hx hb d_X_earlierNode_4 rfl (lv_at hl 1 rfl) ?_
  refine wg_ild (f := I 1) (j := k) hx hb hK hP 2 rfl (by omega) (by decide) d_X_earlierNode_5 ?_
  have hB5 := hL k (by omega)
  refine lv_iload_n hx hb d_X_earlierNode_6 rfl (lv_at hl 2 rfl) ?_
  refine t_isub (v := nI ((I 1 k) - t)) hx hb d_X_earlierNode_7 (pk_sub (by omega)) ?_
  refine lv_istore_n (lv' := [(3, .int (nI ((I 1 k) - t))), (0, .ref h0), (1, .int (nI k)), (2, .int (nI t))]) hx hb d_X_earlierNode_8 rfl hl (by decide) rfl (fun ls hl => ?_)
  refine lv_iconst (v := (nI 0)) hx hb d_X_earlierNode_9 (by decide +kernel) ?_
  refine lv_istore (lv' := [(4, .int (nI 0)), (3, .int (nI ((I 1 k) - t))), (0, .ref h0), (1, .int (nI k)), (2, .int (nI t))]) hx hb d_X_earlierNode_10 hl (by decide) rfl (fun ls hl => ?_)
  refine wg_loop (fun j _ _ _ H locs ls => (j ≤ k) ∧ va_P D wg_cl (wg_WX cJ cI h0 ad I) H ∧ va_S A s.heap H locs ∧ lv_has ls 6 [(0, .ref h0), (1, .int (nI k)), (2, .int (nI t)), (3, .int (nI ((I 1 k) - t))), (4, .int (nI j))]) (fun j _ _ _ => 48 - j) (fun j _z0 _z1 _J H locs ls hI ih12 => ?_) 0 0 0 (fun _ _ => 0) _ _ _ ⟨(by omega), hP, hS, lv_sub hl [2, 3, 4, 1, 0] rfl⟩
  obtain ⟨hj, hP, hS, hl⟩ := hI
  refine lv_iload hx hb d_X_earlierNode_12 (lv_at hl 4 rfl) ?_
  refine lv_iload_n hx hb d_X_earlierNode_14 rfl (lv_at hl 1 rfl) ?_
  refine lv_icmp_ge (tgt := 74) hx hb d_X_earlierNode_15 (by decide) (fun h15 => ?_) (fun h15 => ?_)
  · rw [nI_leI (by omega) (by omega)] at h15
    refine lv_iconst (v := (-1)) hx hb d_X_earlierNode_74 (by decide +kernel) ?_
    exact W.iret (v := (-1)) hx hb hr (fun tt hth hW => ⟨⟨_, (), rfl, (Or.inl rfl), wg_h hth hP⟩, hS.F hth⟩) hS.2.2 d_X_earlierNode_75
  · rw [nI_leI (by omega) (by omega)] at h15
    refine lv_aload_n hx hb d_X_earlierNode_18 rfl (lv_at hl 0 rfl) ?_
    refine wg_gX hx hb hts hown hK hP 1 (by decide) (v := .ref (ad 1)) kf_X_13 rfl d_X_earlierNode_19 ?_
    refine lv_iload hx hb d_X_earlierNode_22 (lv_at hl 4 rfl) ?_
    refine wg_ild (f := I 1) (j := j) hx hb hK hP 2 rfl (by omega) (by decide) d_X_earlierNode_24 ?_
    have hB24 := hL j (by omega)
    refine lv_iload_n hx hb d_X_earlierNode_25 rfl (lv_at hl 3 rfl) ?_
    refine lv_isub hx hb d_X_earlierNode_26 ?_
    refine lv_istore (lv' := [(5, .int (nI (I 1 j) - nI ((I 1 k) - t))), (0, .ref h0), (1, .int (nI k)), (2, .int (nI t)), (3, .int (nI ((I 1 k) - t))), (4, .int (nI j))]) hx hb d_X_earlierNode_27 hl (by decide) rfl (fun ls hl => ?_)
    refine lv_iload hx hb d_X_earlierNode_29 (lv_at hl 0 rfl) ?_
    refine lv_aload_n hx hb d_X_earlierNode_31 rfl (lv_at hl 1 rfl) ?_
    refine wg_gX hx hb hts hown hK hP 2 (by decide) (v := .ref (ad 2)) kf_X_17 rfl d_X_earlierNode_32 ?_
    refine lv_iload hx hb d_X_earlierNode_35 (lv_at hl 5 rfl) ?_
    refine wg_ild (f := I 2) (j := j) hx hb hK hP 3 rfl (by omega) (by decide) d_X_earlierNode_37 ?_
    have hB37 := hF j (by omega)
    refine lv_icmp_lt (tgt := 68) hx hb d_X_earlierNode_38 (by decide) (fun h38 => ?_) (fun h38 => ?_)
    · rw [wg_DltN (by omega) (by omega) (by omega)] at h38
      refine lv_iinc (v := nI (j + 1)) (k := 5) (lv' := [(4, .int (nI (j + 1))), (5, .int (nI (I 1 j) - nI ((I 1 k) - t))), (0, .ref h0), (1, .int (nI k)), (2, .int (nI t)), (3, .int (nI ((I 1 k) - t)))]) hx hb d_X_earlierNode_68 hl rfl (nI_1 _) (by decide) rfl (fun ls hl => ?_)
      refine lv_goto (tgt := 12) hx hb d_X_earlierNode_71 (by decide) ?_
      exact ih12 (j + 1) 0 0 (fun _ _ => 0) _ _ _ ⟨(by omega), hP, hS, lv_sub hl [2, 3, 4, 5, 0] rfl⟩ (by omega)
    · rw [wg_DltN (by omega) (by omega) (by omega)] at h38
      rw [pk_sub (show (I 1 k) - t ≤ I 1 j by omega)] at hl
      refine lv_aload_n hx hb d_X_earlierNode_41 rfl (lv_at hl 1 rfl) ?_
      refine lv_iload_n hx hb d_X_earlierNode_42 rfl (lv_at hl 2 rfl) ?_
      refine lv_iload_n hx hb d_X_earlierNode_43 rfl (lv_at hl 3 rfl) ?_
      refine lv_iload hx hb d_X_earlierNode_44 (lv_at hl 5 rfl) ?_
      refine lv_iload hx hb d_X_earlierNode_46 (lv_at hl 0 rfl) ?_
      refine wg_cvi (As := [.int (nI k), .int (nI t), .int (nI j), .int (nI ((I 1 j) - ((I 1 k) - t)))]) (rest := []) hx hb hml hown hts hK hP (hD _) hS hA rfl rfl rfl (c_X_sameEndings l D cJ cI h0 ad _ I k t j ((I 1 j) - ((I 1 k) - t)) hk (by omega) (by omega) (by omega) hI) kc_X_121 ⟨rfl, rfl⟩ ⟨Nat.le_of_ble_eq_true rfl, Nat.le_of_ble_eq_true rfl⟩ rfl hl.1 rfl (Nat.le_of_ble_eq_true rfl) d_X_earlierNode_48 ⟨Nat.zero_le _, Nat.zero_le _⟩ (fun r u48 tt H locs ht q48 hB _ _ hS => ?_)
      have hP : va_P D wg_cl (wg_WX cJ cI h0 ad I) H := by rw [← ht]; exact hB
      clear hB ht tt
      rcases q48 with rfl | rfl
      · skip
        refine lv_if_eq (tgt := 68) hx hb d_X_earlierNode_51 (by decide) (fun h => absurd h (by decide +kernel)) (fun _ => ?_)
        refine lv_aload_n hx hb d_X_earlierNode_54 rfl (lv_at hl 1 rfl) ?_
        refine wg_gX hx hb hts hown hK hP 5 (by decide) (v := .ref (ad 5)) kf_X_20 rfl d_X_earlierNode_55 ?_
        refine lv_iload hx hb d_X_earlierNode_58 (lv_at hl 5 rfl) ?_
        refine lv_bipush (v := (nI 13)) hx hb d_X_earlierNode_60 (by decide +kernel) ?_
        refine t_imul (v := nI (j * 13)) hx hb d_X_earlierNode_62 (pk_mul _ _) ?_
        refine lv_iload hx hb d_X_earlierNode_63 (lv_at hl 0 rfl) ?_
        refine t_iadd (v := nI ((j * 13) + ((I 1 j) - ((I 1 k) - t)))) hx hb d_X_earlierNode_65 (nI_add _ _) ?_
        refine wg_ild (f := I 5) (j := ((j * 13) + ((I 1 j) - ((I 1 k) - t)))) hx hb hK hP 4 rfl (by omega) (by decide) d_X_earlierNode_66 ?_
        have hB66 := hNO ((j * 13) + ((I 1 j) - ((I 1 k) - t))) (by omega)
        exact W.iret (v := (nI (I 5 ((j * 13) + ((I 1 j) - ((I 1 k) - t)))))) hx hb hr (fun tt hth hW => ⟨⟨_, (), rfl, (Or.inr ⟨_, hB66, rfl⟩), wg_h hth hP⟩, hS.F hth⟩) hS.2.2 d_X_earlierNode_67
      · skip
        refine lv_if_eq (tgt := 68) hx hb d_X_earlierNode_51 (by decide) (fun _ => ?_) (fun h => absurd h (by decide +kernel))
        refine lv_iinc (v := nI (j + 1)) (k := 5) (lv' := [(4, .int (nI (j + 1))), (5, .int (nI ((I 1 j) - ((I 1 k) - t)))), (0, .ref h0), (1, .int (nI k)), (2, .int (nI t)), (3, .int (nI ((I 1 k) - t)))]) hx hb d_X_earlierNode_68 hl rfl (nI_1 _) (by decide) rfl (fun ls hl => ?_)
        refine lv_goto (tgt := 12) hx hb d_X_earlierNode_71 (by decide) ?_
        exact ih12 (j + 1) 0 0 (fun _ _ => 0) _ _ _ ⟨(by omega), hP, hS, lv_sub hl [2, 3, 4, 5, 0] rfl⟩ (by omega)
set_option maxHeartbeats 4000000 in
set_option maxRecDepth 100000 in
theorem c_X_numberBeginnings (l : Launch) (D : va_G) (cJ cI : ClassId) (h0 : Nat) (ad : Nat → Nat) (sz : Nat) (I : wg_S) (k : Nat) (hk : k < I 3 0) (hI : wg_XI I) (hs1 : I 4 0 = 1) (hc1 : I 8 0 ≤ 12 * k + 1) (hc0 : k = 0 → I 8 0 = 0) : Met l y_X_numberBeginnings (wg_ws y_X_numberBeginnings b_X_numberBeginnings 4 none) ({ frames := 3, cells := 0, slots := 0, locals := 75 }) (va_Pc [.ref h0, .int (nI k)] (wg_Pc D cJ cI (wg_WX cJ cI h0 ad I) sz)) (va_Qv (fun (u : wg_S) => wg_XI u ∧ (∀ j, j < 5 ∨ 8 < j → u j = I j) ∧ u 8 0 ≤ 12 * (k + 1) + 1) (fun (u : wg_S) t => va_P D wg_cl (wg_WX cJ cI h0 ad u) t.heap) (va_A (wg_WX cJ cI h0 ad I) sz)) 0 0 (va_A (wg_WX cJ cI h0 ad I) sz) := by
  refine wg_head (Wd := (fun I => wg_WX cJ cI h0 ad I)) (I := I) (fun A => va_Qv (fun (u : wg_S) => wg_XI u ∧ (∀ j, j < 5 ∨ 8 < j → u j = I j) ∧ u 8 0 ≤ 12 * (k + 1) + 1) (fun (u : wg_S) t => va_P D wg_cl (wg_WX cJ cI h0 ad u) t.heap) A) R_X (by decide) rfl (Nat.le_of_ble_eq_true rfl) (fun I J => wg_same_X I J) ?_
  intro p e s m below meth c A ls hx hb hr hlk hml hown hnm hts hA hK hD hP hS hl hsz
  clear hsz
  have hl : lv_has ls 4 [(0, .ref h0), (1, .int (nI k))] := hl
  have hP : va_P D wg_cl (wg_WX cJ cI h0 ad I) s.heap := hP
  skip
  have hI' := hI
  obtain ⟨hn, hse, hc, hrc, hso, hw, hL, hF, hF1, hNW, hNL, hT, hWF, hNO⟩ := hI'
  have hF1k : 0 < k → 1 ≤ I 2 k := fun h => hF1 k h hk
  refine lv_aload_n hx hb d_X_numberBeginnings_0 rfl (lv_at hl 0 rfl) ?_
  refine wg_gX hx hb hts hown hK hP 2 (by decide) (v := .ref (ad 2)) kf_X_17 rfl d_X_numberBeginnings_1 ?_
  refine lv_iload_n hx hb d_X_numberBeginnings_4 rfl (lv_at hl 1 rfl) ?_
  refine wg_ild (f := I 2) (j := k) hx hb hK hP 3 rfl (by omega) (by decide) d_X_numberBeginnings_5 ?_
  have hB5 := hF k (by omega)
  refine lv_istore_n (lv' := [(2, .int (nI (I 2 k))), (0, .ref h0), (1, .int (nI k))]) hx hb d_X_numberBeginnings_6 rfl hl (by decide) rfl (fun ls hl => ?_)
  refine wg_loop (fun t _ _ J H locs ls => (wg_XI J) ∧ (∀ j, j < 5 ∨ 8 < j → J j = I j) ∧ (t ≤ 13 ∧ I 2 k ≤ t) ∧ (J 8 0 + I 2 k ≤ 12 * k + 1 + t ∧ (k = 0 → J 8 0 + I 2 k ≤ t)) ∧ va_P D wg_cl (wg_WX cJ cI h0 ad J) H ∧ va_S A s.heap H locs ∧ lv_has ls 4 [(0, .ref h0), (1, .int (nI k)), (2, .int (nI t))]) (fun t _ _ J => 13 - t) (fun t _z0 _z1 J H locs ls hI ih7 => ?_) (I 2 k) 0 0 I _ _ _ ⟨hI, (fun _ _ => rfl), (by omega), (by omega), hP, hS, lv_sub hl [1, 2, 0] rfl⟩
  obtain ⟨hJ, hkp, ht, hcc, hP, hS, hl⟩ := hI
  have hI' := hJ
  clear hn hse hc hrc hso hw hL hF hF1 hNW hNL hT hWF hNO
  obtain ⟨hn, hse, hc, hrc, hso, hw, hL, hF, hF1, hNW, hNL, hT, hWF, hNO⟩ := hI'
  have hJk : J 3 0 = I 3 0 := by rw [hkp 3 (by omega)]
  have hJs : J 4 0 = I 4 0 := by rw [hkp 4 (by omega)]
  refine lv_iload_n hx hb d_X_numberBeginnings_7 rfl (lv_at hl 2 rfl) ?_
  refine lv_aload_n hx hb d_X_numberBeginnings_8 rfl (lv_at hl 0 rfl) ?_
  refine wg_gX hx hb hts hown hK hP 1 (by decide) (v := .ref (ad 1)) kf_X_13 rfl d_X_numberBeginnings_9 ?_
  refine lv_iload_n hx hb d_X_numberBeginnings_12 rfl (lv_at hl 1 rfl) ?_
  refine wg_ild (f := J 1) (j := k) hx hb hK hP 2 rfl (by omega) (by decide) d_X_numberBeginnings_13 ?_
  have hB13 := hL k (by omega)
  refine lv_icmp_gt (tgt := 55) hx hb d_X_numberBeginnings_14 (by decide) (fun h14 => ?_) (fun h14 => ?_)
  · rw [nI_ltI (by omega) (by omega)] at h14
    exact W.vret hx hb hr (fun tt hth hW => ⟨⟨J, rfl, ⟨hJ, hkp, by omega⟩, wg_h hth hP⟩, hS.F hth⟩) hS.2.2 d_X_numberBeginnings_55
  · rw [nI_ltI (by omega) (by omega)] at h14
    refine lv_aload_n hx hb d_X_numberBeginnings_17 rfl (lv_at hl 0 rfl) ?_
    refine lv_iload_n hx hb d_X_numberBeginnings_18 rfl (lv_at hl 1 rfl) ?_
    refine lv_iload_n hx hb d_X_numberBeginnings_19 rfl (lv_at hl 2 rfl) ?_
    refine wg_cvi (As := [.int (nI k), .int (nI t)]) (rest := []) hx hb hml hown hts hK hP (hD _) hS hA rfl rfl rfl (c_X_earlierNode l D cJ cI h0 ad _ J k t (by omega) (by omega) hJ) kc_X_118 ⟨rfl, rfl⟩ ⟨Nat.le_of_ble_eq_true rfl, Nat.le_of_ble_eq_true rfl⟩ rfl hl.1 rfl (Nat.le_of_ble_eq_true rfl) d_X_numberBeginnings_20 ⟨Nat.zero_le _, Nat.zero_le _⟩ (fun r u20 tt H locs ht q20 hB _ _ hS => ?_)
    have hP : va_P D wg_cl (wg_WX cJ cI h0 ad J) H := by rw [← ht]; exact hB
    clear hB ht tt
    rcases q20 with rfl | ⟨v20, hv20, rfl⟩
    · skip
      refine lv_istore_n (lv' := [(3, .int (-1)), (0, .ref h0), (1, .int (nI k)), (2, .int (nI t))]) hx hb d_X_numberBeginnings_23 rfl hl (by decide) rfl (fun ls hl => ?_)
      refine lv_aload_n hx hb d_X_numberBeginnings_24 rfl (lv_at hl 1 rfl) ?_
      refine wg_gX hx hb hts hown hK hP 5 (by decide) (v := .ref (ad 5)) kf_X_20 rfl d_X_numberBeginnings_25 ?_
      refine lv_iload_n hx hb d_X_numberBeginnings_28 rfl (lv_at hl 2 rfl) ?_
      refine lv_bipush (v := (nI 13)) hx hb d_X_numberBeginnings_29 (by decide +kernel) ?_
      refine t_imul (v := nI (k * 13)) hx hb d_X_numberBeginnings_31 (pk_mul _ _) ?_
      refine lv_iload_n hx hb d_X_numberBeginnings_32 rfl (lv_at hl 3 rfl) ?_
      refine t_iadd (v := nI ((k * 13) + t)) hx hb d_X_numberBeginnings_33 (nI_add _ _) ?_
      refine lv_iload_n hx hb d_X_numberBeginnings_34 rfl (lv_at hl 0 rfl) ?_
      refine lv_if_lt (tgt := 42) hx hb d_X_numberBeginnings_35 (by decide) (fun _ => ?_) (fun h => absurd h (by decide +kernel))
      refine lv_aload_n hx hb d_X_numberBeginnings_42 rfl (lv_at hl 1 rfl) ?_
      refine lv_iload_n hx hb d_X_numberBeginnings_43 rfl (lv_at hl 2 rfl) ?_
      refine lv_iload_n hx hb d_X_numberBeginnings_44 rfl (lv_at hl 3 rfl) ?_
      refine wg_cvi (As := [.int (nI k), .int (nI t)]) (rest := [.int (nI ((k * 13) + t)), .ref (ad 5)]) hx hb hml hown hts hK hP (hD _) hS hA rfl rfl rfl (c_X_makeNode l D cJ cI h0 ad _ J k t (by omega)) kc_X_64 ⟨rfl, rfl⟩ ⟨Nat.le_of_ble_eq_true rfl, Nat.le_of_ble_eq_true rfl⟩ rfl hl.1 rfl (Nat.le_of_ble_eq_true rfl) d_X_numberBeginnings_45 ⟨Nat.zero_le _, Nat.zero_le _⟩ (fun r u45 tt H locs ht q45 hB _ _ hS => ?_)
      have hP : va_P D wg_cl (wg_WX cJ cI h0 ad u45) H := by rw [← ht]; exact hB
      clear hB ht tt
      obtain ⟨rfl, rfl⟩ := q45
      have hP : va_P D wg_cl (wg_WX cJ cI h0 ad (wg_st (wg_st (wg_st J 6 (J 8 0) k) 7 (J 8 0) t) 8 0 (J 8 0 + 1))) H := hP
      refine wg_sX5 (j := ((k * 13) + t)) (x := (J 8 0)) hx hb hK hP hD hS (by omega) d_X_numberBeginnings_48 (fun H locs hP hS => ?_)
      refine lv_iinc (v := nI (t + 1)) (k := 3) (lv' := [(2, .int (nI (t + 1))), (3, .int (-1)), (0, .ref h0), (1, .int (nI k))]) hx hb d_X_numberBeginnings_49 hl rfl (nI_1 _) (by decide) rfl (fun ls hl => ?_)
      refine lv_goto (tgt := 7) hx hb d_X_numberBeginnings_52 (by decide) ?_
      exact ih7 (t + 1) 0 0 (wg_st (wg_st (wg_st (wg_st J 6 (J 8 0) k) 7 (J 8 0) t) 8 0 (J 8 0 + 1)) 5 ((k * 13) + t) (J 8 0)) _ _ _ ⟨(by first | exact wg_XI_5 hJ (by omega) | exact wg_XI_mk hJ (by omega) (by omega) (by omega) (by omega)), (by first | exact fun j h => (wg_st_o _ _ _ _ (by omega)).trans (hkp j h) | exact fun j h => (wg_st_o _ _ _ _ (by omega)).trans ((wg_st_o _ _ _ _ (by omega)).trans ((wg_st_o _ _ _ _ (by omega)).trans ((wg_st_o _ _ _ _ (by omega)).trans (hkp j h))))), (by omega), (by first | exact ⟨by show J 8 0 + I 2 k ≤ _; omega, fun h => by show J 8 0 + I 2 k ≤ _; omega⟩ | exact ⟨by show J 8 0 + 1 + I 2 k ≤ _; omega, fun h => by show J 8 0 + 1 + I 2 k ≤ _; omega⟩), hP, hS, lv_sub hl [2, 3, 0] rfl⟩ (by omega)
    · skip
      refine lv_istore_n (lv' := [(3, .int (nI v20)), (0, .ref h0), (1, .int (nI k)), (2, .int (nI t))]) hx hb d_X_numberBeginnings_23 rfl hl (by decide) rfl (fun ls hl => ?_)
      refine lv_aload_n hx hb d_X_numberBeginnings_24 rfl (lv_at hl 1 rfl) ?_
      refine wg_gX hx hb hts hown hK hP 5 (by decide) (v := .ref (ad 5)) kf_X_20 rfl d_X_numberBeginnings_25 ?_
      refine lv_iload_n hx hb d_X_numberBeginnings_28 rfl (lv_at hl 2 rfl) ?_
      refine lv_bipush (v := (nI 13)) hx hb d_X_numberBeginnings_29 (by decide +kernel) ?_
      refine t_imul (v := nI (k * 13)) hx hb d_X_numberBeginnings_31 (pk_mul _ _) ?_
      refine lv_iload_n hx hb d_X_numberBeginnings_32 rfl (lv_at hl 3 rfl) ?_
      refine t_iadd (v := nI ((k * 13) + t)) hx hb d_X_numberBeginnings_33 (nI_add _ _) ?_
      refine lv_iload_n hx hb d_X_numberBeginnings_34 rfl (lv_at hl 0 rfl) ?_
      refine lv_if_lt (tgt := 42) hx hb d_X_numberBeginnings_35 (by decide) (fun h => absurd h (nI_pos (by omega))) (fun _ => ?_)
      refine lv_iload_n hx hb d_X_numberBeginnings_38 rfl (lv_at hl 0 rfl) ?_
      refine lv_goto (tgt := 48) hx hb d_X_numberBeginnings_39 (by decide) ?_
      refine wg_sX5 (j := ((k * 13) + t)) (x := v20) hx hb hK hP hD hS (by omega) d_X_numberBeginnings_48 (fun H locs hP hS => ?_)
      refine lv_iinc (v := nI (t + 1)) (k := 3) (lv' := [(2, .int (nI (t + 1))), (3, .int (nI v20)), (0, .ref h0), (1, .int (nI k))]) hx hb d_X_numberBeginnings_49 hl rfl (nI_1 _) (by decide) rfl (fun ls hl => ?_)
      refine lv_goto (tgt := 7) hx hb d_X_numberBeginnings_52 (by decide) ?_
      exact ih7 (t + 1) 0 0 (wg_st J 5 ((k * 13) + t) v20) _ _ _ ⟨(by first | exact wg_XI_5 hJ (by omega) | exact wg_XI_mk hJ (by omega) (by omega) (by omega) (by omega)), (by first | exact fun j h => (wg_st_o _ _ _ _ (by omega)).trans (hkp j h) | exact fun j h => (wg_st_o _ _ _ _ (by omega)).trans ((wg_st_o _ _ _ _ (by omega)).trans ((wg_st_o _ _ _ _ (by omega)).trans ((wg_st_o _ _ _ _ (by omega)).trans (hkp j h))))), (by omega), (by first | exact ⟨by show J 8 0 + I 2 k ≤ _; omega, fun h => by show J 8 0 + I 2 k ≤ _; omega⟩ | exact ⟨by show J 8 0 + 1 + I 2 k ≤ _; omega, fun h => by show J 8 0 + 1 + I 2 k ≤ _; omega⟩), hP, hS, lv_sub hl [2, 3, 0] rfl⟩ (by omega)
set_option maxHeartbeats 4000000 in
set_option maxRecDepth 100000 in
theorem c_X_seal (l : Launch) (D : va_G) (cJ cI : ClassId) (h0 : Nat) (ad : Nat → Nat) (sz : Nat) (I : wg_S) (hI : wg_XI I) : Met l y_X_seal (wg_ws y_X_seal b_X_seal 2 (some .boolean)) ({ frames := 4, cells := 0, slots := 0, locals := 98 }) (va_Pc [.ref h0] (wg_Pc D cJ cI (wg_WX cJ cI h0 ad I) sz)) (va_Qi (fun (r : Int32) (u : wg_S) => (¬ I 4 0 = 0 ∧ r = nI 0 ∧ u = I) ∨ (I 4 0 = 0 ∧ r = nI 1 ∧ u 4 0 = 1 ∧ wg_XI u ∧ (∀ j, j < 4 ∨ 8 < j → u j = I j))) (fun (u : wg_S) t => va_P D wg_cl (wg_WX cJ cI h0 ad u) t.heap) (va_A (wg_WX cJ cI h0 ad I) sz)) 0 0 (va_A (wg_WX cJ cI h0 ad I) sz) := by
  refine wg_head (Wd := (fun I => wg_WX cJ cI h0 ad I)) (I := I) (fun A => va_Qi (fun (r : Int32) (u : wg_S) => (¬ I 4 0 = 0 ∧ r = nI 0 ∧ u = I) ∨ (I 4 0 = 0 ∧ r = nI 1 ∧ u 4 0 = 1 ∧ wg_XI u ∧ (∀ j, j < 4 ∨ 8 < j → u j = I j))) (fun (u : wg_S) t => va_P D wg_cl (wg_WX cJ cI h0 ad u) t.heap) A) R_X (by decide) rfl (Nat.le_of_ble_eq_true rfl) (fun I J => wg_same_X I J) ?_
  intro p e s m below meth c A ls hx hb hr hlk hml hown hnm hts hA hK hD hP hS hl hsz
  clear hsz
  have hl : lv_has ls 2 [(0, .ref h0)] := hl
  have hP : va_P D wg_cl (wg_WX cJ cI h0 ad I) s.heap := hP
  skip
  have hI' := hI
  obtain ⟨hn, hse, hc, hrc, hso, hw, hL, hF, hF1, hNW, hNL, hT, hWF, hNO⟩ := hI'
  refine lv_aload_n hx hb d_X_seal_0 rfl (lv_at hl 0 rfl) ?_
  refine wg_gX hx hb hts hown hK hP 4 (by decide) (v := .int (nI (I 4 0))) kf_X_44 rfl d_X_seal_1 ?_
  refine lv_if_eq (tgt := 9) hx hb d_X_seal_4 (by decide) (fun h4 => ?_) (fun h4 => ?_)
  · rw [wg_z0 (by omega)] at h4
    refine lv_aload_n hx hb d_X_seal_9 rfl (lv_at hl 0 rfl) ?_
    refine lv_iconst (v := (nI 1)) hx hb d_X_seal_10 (by decide +kernel) ?_
    refine wg_pX4 (v := 1) hx hb hts hown hK hP hD hS kf_X_44 (by decide +kernel) (by decide +kernel) d_X_seal_11 (fun H locs hP hS => ?_)
    refine lv_aload_n hx hb d_X_seal_14 rfl (lv_at hl 0 rfl) ?_
    refine wg_gX hx hb hts hown hK hP 3 (by decide) (v := .int (nI (I 3 0))) kf_X_52 rfl d_X_seal_15 ?_
    refine lv_if_ne (tgt := 28) hx hb d_X_seal_18 (by decide) (fun h18 => ?_) (fun h18 => ?_)
    · rw [wg_z0 (by omega)] at h18
      refine lv_iconst (v := (nI 0)) hx hb d_X_seal_28 (by decide +kernel) ?_
      refine lv_istore_n (lv' := [(1, .int (nI 0)), (0, .ref h0)]) hx hb d_X_seal_29 rfl hl (by decide) rfl (fun ls hl => ?_)
      refine wg_loop (fun k _ _ J H locs ls => (wg_XI J) ∧ (J 4 0 = 1) ∧ (∀ j, j < 4 ∨ 8 < j → J j = I j) ∧ (J 8 0 ≤ 12 * k + 1 ∧ (k = 0 → 0 < J 3 0 → J 8 0 = 0)) ∧ (k ≤ 48) ∧ va_P D wg_cl (wg_WX cJ cI h0 ad J) H ∧ va_S A s.heap H locs ∧ lv_has ls 2 [(0, .ref h0), (1, .int (nI k))]) (fun k _ _ J => 48 - k) (fun k _z0 _z1 J H locs ls hI ih30 => ?_) 0 0 0 (wg_st I 4 0 1) _ _ _ ⟨(by first | exact wg_XI_4 hI | exact wg_XI_40 hI (by omega)), rfl, (by first | exact fun j h => wg_st_o _ _ _ _ (by omega) | exact fun j h => (wg_st_o _ _ _ _ (by omega)).trans ((wg_st_o _ _ _ _ (by omega)).trans ((wg_st_o _ _ _ _ (by omega)).trans (wg_st_o _ _ _ _ (by omega))))), (by first | exact ⟨by show I 8 0 ≤ _; omega, fun _ _ => by show I 8 0 = 0; omega⟩ | exact ⟨by show I 8 0 + 1 ≤ _; omega, fun _ h => absurd h (by show ¬ 0 < I 3 0; omega)⟩), (by omega), hP, hS, lv_sub hl [1, 0] rfl⟩
      obtain ⟨hJ, hJs, hJf, hJc, hk, hP, hS, hl⟩ := hI
      have hJ3 : J 3 0 ≤ 48 := hJ.1
      have hJn : J 3 0 = I 3 0 := by rw [hJf 3 (by omega)]
      refine lv_iload_n hx hb d_X_seal_30 rfl (lv_at hl 1 rfl) ?_
      refine lv_aload_n hx hb d_X_seal_31 rfl (lv_at hl 0 rfl) ?_
      refine wg_gX hx hb hts hown hK hP 3 (by decide) (v := .int (nI (J 3 0))) kf_X_52 rfl d_X_seal_32 ?_
      refine lv_icmp_ge (tgt := 49) hx hb d_X_seal_35 (by decide) (fun h35 => ?_) (fun h35 => ?_)
      · rw [nI_leI (by omega) (by omega)] at h35
        refine lv_iconst (v := (nI 1)) hx hb d_X_seal_49 (by decide +kernel) ?_
        exact W.zret (ty := .boolean) (v := (nI 1)) hx hb hr (by decide +kernel) (fun tt hth hW => ⟨⟨_, J, rfl, (Or.inr ⟨h4, rfl, hJs, hJ, hJf⟩), wg_h hth hP⟩, hS.F hth⟩) hS.2.2 d_X_seal_50
      · rw [nI_leI (by omega) (by omega)] at h35
        refine lv_aload_n hx hb d_X_seal_38 rfl (lv_at hl 0 rfl) ?_
        refine lv_iload_n hx hb d_X_seal_39 rfl (lv_at hl 1 rfl) ?_
        refine wg_cvv (As := [.int (nI k)]) (rest := []) hx hb hml hown hts hK hP (hD _) hS hA rfl rfl rfl (c_X_numberBeginnings l D cJ cI h0 ad _ J k (by omega) hJ hJs hJc.1 (fun h => hJc.2 h (by omega))) kc_X_68 ⟨rfl, rfl⟩ ⟨Nat.le_of_ble_eq_true rfl, Nat.le_of_ble_eq_true rfl⟩ rfl hl.1 rfl (Nat.le_of_ble_eq_true rfl) d_X_seal_40 ⟨Nat.zero_le _, Nat.zero_le _⟩ (fun u40 tt H locs ht q40 hB _ _ hS => ?_)
        have hP : va_P D wg_cl (wg_WX cJ cI h0 ad u40) H := by rw [← ht]; exact hB
        clear hB ht tt
        obtain ⟨hq40a, hq40b, hq40c⟩ := q40
        refine lv_iinc (v := nI (k + 1)) (k := 1) (lv' := [(1, .int (nI (k + 1))), (0, .ref h0)]) hx hb d_X_seal_43 hl rfl (nI_1 _) (by decide) rfl (fun ls hl => ?_)
        refine lv_goto (tgt := 30) hx hb d_X_seal_46 (by decide) ?_
        exact ih30 (k + 1) 0 0 u40 _ _ _ ⟨hq40a, (by rw [hq40b 4 (by omega)]; exact hJs), (fun j h => (hq40b j (by omega)).trans (hJf j h)), ⟨by omega, fun h => by omega⟩, (by omega), hP, hS, lv_sub hl [1, 0] rfl⟩ (by omega)
    · rw [wg_z0 (by omega)] at h18
      refine lv_aload_n hx hb d_X_seal_21 rfl (lv_at hl 0 rfl) ?_
      refine lv_iconst (v := (nI 0)) hx hb d_X_seal_22 (by decide +kernel) ?_
      refine lv_iconst (v := (nI 0)) hx hb d_X_seal_23 (by decide +kernel) ?_
      refine wg_cvi (As := [.int (nI 0), .int (nI 0)]) (rest := []) hx hb hml hown hts hK hP (hD _) hS hA rfl rfl rfl (c_X_makeNode l D cJ cI h0 ad _ (wg_st I 4 0 1) 0 0 (by show I 8 0 < 577; omega)) kc_X_64 ⟨rfl, rfl⟩ ⟨Nat.le_of_ble_eq_true rfl, Nat.le_of_ble_eq_true rfl⟩ rfl hl.1 rfl (Nat.le_of_ble_eq_true rfl) d_X_seal_24 ⟨Nat.zero_le _, Nat.zero_le _⟩ (fun r u24 tt H locs ht q24 hB _ _ hS => ?_)
      have hP : va_P D wg_cl (wg_WX cJ cI h0 ad u24) H := by rw [← ht]; exact hB
      clear hB ht tt
      obtain ⟨rfl, rfl⟩ := q24
      have hP : va_P D wg_cl (wg_WX cJ cI h0 ad (wg_st (wg_st (wg_st (wg_st I 4 0 1) 6 (I 8 0) 0) 7 (I 8 0) 0) 8 0 (I 8 0 + 1))) H := hP
      refine lv_pop hx hb d_X_seal_27 rfl ?_
      refine lv_iconst (v := (nI 0)) hx hb d_X_seal_28 (by decide +kernel) ?_
      refine lv_istore_n (lv' := [(1, .int (nI 0)), (0, .ref h0)]) hx hb d_X_seal_29 rfl hl (by decide) rfl (fun ls hl => ?_)
      refine wg_loop (fun k _ _ J H locs ls => (wg_XI J) ∧ (J 4 0 = 1) ∧ (∀ j, j < 4 ∨ 8 < j → J j = I j) ∧ (J 8 0 ≤ 12 * k + 1 ∧ (k = 0 → 0 < J 3 0 → J 8 0 = 0)) ∧ (k ≤ 48) ∧ va_P D wg_cl (wg_WX cJ cI h0 ad J) H ∧ va_S A s.heap H locs ∧ lv_has ls 2 [(0, .ref h0), (1, .int (nI k))]) (fun k _ _ J => 48 - k) (fun k _z0 _z1 J H locs ls hI ih30 => ?_) 0 0 0 (wg_st (wg_st (wg_st (wg_st I 4 0 1) 6 (I 8 0) 0) 7 (I 8 0) 0) 8 0 (I 8 0 + 1)) _ _ _ ⟨(by first | exact wg_XI_4 hI | exact wg_XI_40 hI (by omega)), rfl, (by first | exact fun j h => wg_st_o _ _ _ _ (by omega) | exact fun j h => (wg_st_o _ _ _ _ (by omega)).trans ((wg_st_o _ _ _ _ (by omega)).trans ((wg_st_o _ _ _ _ (by omega)).trans (wg_st_o _ _ _ _ (by omega))))), (by first | exact ⟨by show I 8 0 ≤ _; omega, fun _ _ => by show I 8 0 = 0; omega⟩ | exact ⟨by show I 8 0 + 1 ≤ _; omega, fun _ h => absurd h (by show ¬ 0 < I 3 0; omega)⟩), (by omega), hP, hS, lv_sub hl [1, 0] rfl⟩
      obtain ⟨hJ, hJs, hJf, hJc, hk, hP, hS, hl⟩ := hI
      have hJ3 : J 3 0 ≤ 48 := hJ.1
      have hJn : J 3 0 = I 3 0 := by rw [hJf 3 (by omega)]
      refine lv_iload_n hx hb d_X_seal_30 rfl (lv_at hl 1 rfl) ?_
      refine lv_aload_n hx hb d_X_seal_31 rfl (lv_at hl 0 rfl) ?_
      refine wg_gX hx hb hts hown hK hP 3 (by decide) (v := .int (nI (J 3 0))) kf_X_52 rfl d_X_seal_32 ?_
      refine lv_icmp_ge (tgt := 49) hx hb d_X_seal_35 (by decide) (fun h35 => ?_) (fun h35 => ?_)
      · rw [nI_leI (by omega) (by omega)] at h35
        refine lv_iconst (v := (nI 1)) hx hb d_X_seal_49 (by decide +kernel) ?_
        exact W.zret (ty := .boolean) (v := (nI 1)) hx hb hr (by decide +kernel) (fun tt hth hW => ⟨⟨_, J, rfl, (Or.inr ⟨h4, rfl, hJs, hJ, hJf⟩), wg_h hth hP⟩, hS.F hth⟩) hS.2.2 d_X_seal_50
      · rw [nI_leI (by omega) (by omega)] at h35
        refine lv_aload_n hx hb d_X_seal_38 rfl (lv_at hl 0 rfl) ?_
        refine lv_iload_n hx hb d_X_seal_39 rfl (lv_at hl 1 rfl) ?_
        refine wg_cvv (As := [.int (nI k)]) (rest := []) hx hb hml hown hts hK hP (hD _) hS hA rfl rfl rfl (c_X_numberBeginnings l D cJ cI h0 ad _ J k (by omega) hJ hJs hJc.1 (fun h => hJc.2 h (by omega))) kc_X_68 ⟨rfl, rfl⟩ ⟨Nat.le_of_ble_eq_true rfl, Nat.le_of_ble_eq_true rfl⟩ rfl hl.1 rfl (Nat.le_of_ble_eq_true rfl) d_X_seal_40 ⟨Nat.zero_le _, Nat.zero_le _⟩ (fun u40 tt H locs ht q40 hB _ _ hS => ?_)
        have hP : va_P D wg_cl (wg_WX cJ cI h0 ad u40) H := by rw [← ht]; exact hB
        clear hB ht tt
        obtain ⟨hq40a, hq40b, hq40c⟩ := q40
        refine lv_iinc (v := nI (k + 1)) (k := 1) (lv' := [(1, .int (nI (k + 1))), (0, .ref h0)]) hx hb d_X_seal_43 hl rfl (nI_1 _) (by decide) rfl (fun ls hl => ?_)
        refine lv_goto (tgt := 30) hx hb d_X_seal_46 (by decide) ?_
        exact ih30 (k + 1) 0 0 u40 _ _ _ ⟨hq40a, (by rw [hq40b 4 (by omega)]; exact hJs), (fun j h => (hq40b j (by omega)).trans (hJf j h)), ⟨by omega, fun h => by omega⟩, (by omega), hP, hS, lv_sub hl [1, 0] rfl⟩ (by omega)
  · rw [wg_z0 (by omega)] at h4
    refine lv_iconst (v := (nI 0)) hx hb d_X_seal_7 (by decide +kernel) ?_
    exact W.zret (ty := .boolean) (v := (nI 0)) hx hb hr (by decide +kernel) (fun tt hth hW => ⟨⟨_, I, rfl, (Or.inl ⟨h4, rfl, rfl⟩), wg_h hth hP⟩, hS.F hth⟩) hS.2.2 d_X_seal_8
set_option maxHeartbeats 4000000 in
set_option maxRecDepth 100000 in
theorem c_X_step (l : Launch) (D : va_G) (cJ cI : ClassId) (h0 : Nat) (ad : Nat → Nat) (sz : Nat) (I : wg_S) (x : Int32) (ch : Int32) (hI : wg_XI I) : Met l y_X_step (wg_ws y_X_step b_X_step 6 (some .int)) ({ frames := 1, cells := 0, slots := 0, locals := 23 }) (va_Pc [.ref h0, .int x, .int ch] (wg_Pc D cJ cI (wg_WX cJ cI h0 ad I) sz)) (va_Qi (fun (r : Int32) (u : Unit) => I 8 0 = 0 → r = -1) (fun (_ : Unit) t => va_P D wg_cl (wg_WX cJ cI h0 ad I) t.heap) (va_A (wg_WX cJ cI h0 ad I) sz)) 0 0 (va_A (wg_WX cJ cI h0 ad I) sz) := by
  refine wg_head (Wd := (fun I => wg_WX cJ cI h0 ad I)) (I := I) (fun A => va_Qi (fun (r : Int32) (u : Unit) => I 8 0 = 0 → r = -1) (fun (_ : Unit) t => va_P D wg_cl (wg_WX cJ cI h0 ad I) t.heap) A) R_X (by decide) rfl (Nat.le_of_ble_eq_true rfl) (fun I J => wg_same_X I J) ?_
  intro p e s m below meth c A ls hx hb hr hlk hml hown hnm hts hA hK hD hP hS hl hsz
  clear hsz
  have hl : lv_has ls 6 [(0, .ref h0), (1, .int x), (2, .int ch)] := hl
  have hP : va_P D wg_cl (wg_WX cJ cI h0 ad I) s.heap := hP
  skip
  have hI' := hI
  obtain ⟨hn, hse, hc, hrc, hso, hw, hL, hF, hF1, hNW, hNL, hT, hWF, hNO⟩ := hI'
  refine lv_aload_n hx hb d_X_step_0 rfl (lv_at hl 0 rfl) ?_
  refine lv_iload_n hx hb d_X_step_1 rfl (lv_at hl 1 rfl) ?_
  refine wg_cvi (As := [.int x]) (rest := []) hx hb hml hown hts hK hP (hD _) hS hA rfl rfl rfl (c_X_hasNode l D cJ cI h0 ad _ I x (by omega)) kc_X_84 ⟨rfl, rfl⟩ ⟨Nat.le_of_ble_eq_true rfl, Nat.le_of_ble_eq_true rfl⟩ rfl hl.1 rfl (Nat.le_of_ble_eq_true rfl) d_X_step_2 ⟨Nat.zero_le _, Nat.zero_le _⟩ (fun r u2 tt H locs ht q2 hB _ _ hS => ?_)
  have hP : va_P D wg_cl (wg_WX cJ cI h0 ad I) H := by rw [← ht]; exact hB
  clear hB ht tt
  rcases q2 with ⟨rfl, j2, hj2, rfl⟩ | ⟨rfl, hj2⟩
  · skip
    refine lv_if_eq (tgt := 19) hx hb d_X_step_5 (by decide) (fun h => absurd h (by decide +kernel)) (fun _ => ?_)
    refine lv_iload_n hx hb d_X_step_8 rfl (lv_at hl 2 rfl) ?_
    refine lv_iconst (v := (nI 1)) hx hb d_X_step_9 (by decide +kernel) ?_
    refine lv_icmp_lt (tgt := 19) hx hb d_X_step_10 (by decide) (fun h10 => ?_) (fun h10 => ?_)
    · refine lv_iconst (v := (-1)) hx hb d_X_step_19 (by decide +kernel) ?_
      exact W.iret (v := (-1)) hx hb hr (fun tt hth hW => ⟨⟨_, (), rfl, (fun _ => rfl), wg_h hth hP⟩, hS.F hth⟩) hS.2.2 d_X_step_20
    · refine lv_iload_n hx hb d_X_step_13 rfl (lv_at hl 2 rfl) ?_
      refine lv_bipush (v := (nI 26)) hx hb d_X_step_14 (by decide +kernel) ?_
      refine lv_icmp_le (tgt := 21) hx hb d_X_step_16 (by decide) (fun h16 => ?_) (fun h16 => ?_)
      · refine lv_aload_n hx hb d_X_step_21 rfl (lv_at hl 0 rfl) ?_
        refine wg_gX hx hb hts hown hK hP 6 (by decide) (v := .ref (ad 6)) kf_X_23 rfl d_X_step_22 ?_
        refine lv_iload_n hx hb d_X_step_25 rfl (lv_at hl 1 rfl) ?_
        refine wg_ild (f := I 6) (j := j2) hx hb hK hP 5 rfl (by omega) (by decide) d_X_step_26 ?_
        have hB26 := hNW j2 (by omega)
        refine lv_istore_n (lv' := [(3, .int (nI (I 6 j2))), (0, .ref h0), (1, .int (nI j2)), (2, .int ch)]) hx hb d_X_step_27 rfl hl (by decide) rfl (fun ls hl => ?_)
        refine lv_aload_n hx hb d_X_step_28 rfl (lv_at hl 1 rfl) ?_
        refine wg_gX hx hb hts hown hK hP 7 (by decide) (v := .ref (ad 7)) kf_X_26 rfl d_X_step_29 ?_
        refine lv_iload_n hx hb d_X_step_32 rfl (lv_at hl 2 rfl) ?_
        refine wg_ild (f := I 7) (j := j2) hx hb hK hP 6 rfl (by omega) (by decide) d_X_step_33 ?_
        have hB33 := hNL j2 (by omega)
        refine lv_istore (lv' := [(4, .int (nI (I 7 j2))), (3, .int (nI (I 6 j2))), (0, .ref h0), (1, .int (nI j2)), (2, .int ch)]) hx hb d_X_step_34 hl (by decide) rfl (fun ls hl => ?_)
        refine lv_iload_n hx hb d_X_step_36 rfl (lv_at hl 1 rfl) ?_
        refine lv_istore (lv' := [(5, .int (nI (I 6 j2))), (4, .int (nI (I 7 j2))), (3, .int (nI (I 6 j2))), (0, .ref h0), (1, .int (nI j2)), (2, .int ch)]) hx hb d_X_step_37 hl (by decide) rfl (fun ls hl => ?_)
        refine wg_loop (fun k _ _ _ H locs ls => (k ≤ 48) ∧ va_P D wg_cl (wg_WX cJ cI h0 ad I) H ∧ va_S A s.heap H locs ∧ lv_has ls 6 [(0, .ref h0), (2, .int ch), (3, .int (nI (I 6 j2))), (4, .int (nI (I 7 j2))), (5, .int (nI k))]) (fun k _ _ _ => 48 - k) (fun k _z0 _z1 _J H locs ls hI ih39 => ?_) (I 6 j2) 0 0 (fun _ _ => 0) _ _ _ ⟨(by omega), hP, hS, lv_sub hl [3, 5, 2, 1, 0] rfl⟩
        obtain ⟨hk, hP, hS, hl⟩ := hI
        refine lv_iload hx hb d_X_step_39 (lv_at hl 4 rfl) ?_
        refine lv_aload_n hx hb d_X_step_41 rfl (lv_at hl 0 rfl) ?_
        refine wg_gX hx hb hts hown hK hP 3 (by decide) (v := .int (nI (I 3 0))) kf_X_52 rfl d_X_step_42 ?_
        refine lv_icmp_ge (tgt := 98) hx hb d_X_step_45 (by decide) (fun h45 => ?_) (fun h45 => ?_)
        · rw [nI_leI (by omega) (by omega)] at h45
          refine lv_iconst (v := (-1)) hx hb d_X_step_98 (by decide +kernel) ?_
          exact W.iret (v := (-1)) hx hb hr (fun tt hth hW => ⟨⟨_, (), rfl, (fun _ => rfl), wg_h hth hP⟩, hS.F hth⟩) hS.2.2 d_X_step_99
        · rw [nI_leI (by omega) (by omega)] at h45
          refine lv_aload_n hx hb d_X_step_48 rfl (lv_at hl 0 rfl) ?_
          refine lv_iload hx hb d_X_step_49 (lv_at hl 4 rfl) ?_
          refine lv_iload_n hx hb d_X_step_51 rfl (lv_at hl 2 rfl) ?_
          refine lv_iload hx hb d_X_step_52 (lv_at hl 3 rfl) ?_
          refine wg_cvi (As := [.int (nI k), .int (nI (I 6 j2)), .int (nI (I 7 j2))]) (rest := []) hx hb hml hown hts hK hP (hD _) hS hA rfl rfl rfl (c_X_beginsAs l D cJ cI h0 ad _ I k (I 6 j2) (I 7 j2) (by omega) (by omega) (by omega) hI) kc_X_87 ⟨rfl, rfl⟩ ⟨Nat.le_of_ble_eq_true rfl, Nat.le_of_ble_eq_true rfl⟩ rfl hl.1 rfl (Nat.le_of_ble_eq_true rfl) d_X_step_54 ⟨Nat.zero_le _, Nat.zero_le _⟩ (fun r u54 tt H locs ht q54 hB _ _ hS => ?_)
          have hP : va_P D wg_cl (wg_WX cJ cI h0 ad I) H := by rw [← ht]; exact hB
          clear hB ht tt
          rcases q54 with ⟨rfl, hb54⟩ | ⟨rfl, hb54⟩
          · skip
            refine lv_if_eq (tgt := 98) hx hb d_X_step_57 (by decide) (fun h => absurd h (by decide +kernel)) (fun _ => ?_)
            refine lv_aload_n hx hb d_X_step_60 rfl (lv_at hl 0 rfl) ?_
            refine wg_gX hx hb hts hown hK hP 0 (by decide) (v := .ref (ad 0)) kf_X_9 rfl d_X_step_61 ?_
            refine lv_iload hx hb d_X_step_64 (lv_at hl 4 rfl) ?_
            refine wg_lld (f := I 0) (j := k) hx hb hK hP 1 rfl (by omega) (by decide) d_X_step_66 ?_
            have hB66 := hw k (by omega)
            refine lv_iload hx hb d_X_step_67 (lv_at hl 3 rfl) ?_
            refine wg_csi (As := [.long (lN (I 0 k)), .int (nI (I 7 j2))]) (rest := []) hx hb hml hown hts hK hP hS hA (c_X_letterAt l D cJ cI _ (I 0 k) (I 7 j2) (by omega) (by omega)) kc_X_91 ⟨rfl, rfl⟩ ⟨Nat.le_of_ble_eq_true rfl, Nat.le_of_ble_eq_true rfl⟩ rfl hl.1 rfl (Nat.le_of_ble_eq_true rfl) d_X_step_69 ⟨Nat.zero_le _, Nat.zero_le _⟩ (fun r H locs q69 hP hS => ?_)
            obtain rfl := q69
            have hq69 := wg_la_le (I 0 k) (I 7 j2)
            refine lv_iload_n hx hb d_X_step_72 rfl (lv_at hl 1 rfl) ?_
            refine lv_icmp_ne (tgt := 92) hx hb d_X_step_73 (by decide) (fun h73 => ?_) (fun h73 => ?_)
            · refine lv_iinc (v := nI (k + 1)) (k := 4) (lv' := [(5, .int (nI (k + 1))), (0, .ref h0), (2, .int ch), (3, .int (nI (I 6 j2))), (4, .int (nI (I 7 j2)))]) hx hb d_X_step_92 hl rfl (nI_1 _) (by decide) rfl (fun ls hl => ?_)
              refine lv_goto (tgt := 39) hx hb d_X_step_95 (by decide) ?_
              exact ih39 (k + 1) 0 0 (fun _ _ => 0) _ _ _ ⟨(by omega), hP, hS, lv_sub hl [1, 2, 3, 4, 0] rfl⟩ (by omega)
            · have h12 := wg_step12 h10 h73
              refine lv_aload_n hx hb d_X_step_76 rfl (lv_at hl 0 rfl) ?_
              refine wg_gX hx hb hts hown hK hP 5 (by decide) (v := .ref (ad 5)) kf_X_20 rfl d_X_step_77 ?_
              refine lv_iload hx hb d_X_step_80 (lv_at hl 4 rfl) ?_
              refine lv_bipush (v := (nI 13)) hx hb d_X_step_82 (by decide +kernel) ?_
              refine t_imul (v := nI (k * 13)) hx hb d_X_step_84 (pk_mul _ _) ?_
              refine lv_iload hx hb d_X_step_85 (lv_at hl 3 rfl) ?_
              refine t_iadd (v := nI ((k * 13) + (I 7 j2))) hx hb d_X_step_87 (nI_add _ _) ?_
              refine lv_iconst (v := (nI 1)) hx hb d_X_step_88 (by decide +kernel) ?_
              refine t_iadd (v := nI (((k * 13) + (I 7 j2)) + 1)) hx hb d_X_step_89 (nI_add _ _) ?_
              refine wg_ild (f := I 5) (j := (((k * 13) + (I 7 j2)) + 1)) hx hb hK hP 4 rfl (by omega) (by decide) d_X_step_90 ?_
              have hB90 := hNO (((k * 13) + (I 7 j2)) + 1) (by omega)
              exact W.iret (v := (nI (I 5 (((k * 13) + (I 7 j2)) + 1)))) hx hb hr (fun tt hth hW => ⟨⟨_, (), rfl, (fun h => by omega), wg_h hth hP⟩, hS.F hth⟩) hS.2.2 d_X_step_91
          · skip
            refine lv_if_eq (tgt := 98) hx hb d_X_step_57 (by decide) (fun _ => ?_) (fun h => absurd h (by decide +kernel))
            refine lv_iconst (v := (-1)) hx hb d_X_step_98 (by decide +kernel) ?_
            exact W.iret (v := (-1)) hx hb hr (fun tt hth hW => ⟨⟨_, (), rfl, (fun _ => rfl), wg_h hth hP⟩, hS.F hth⟩) hS.2.2 d_X_step_99
      · refine lv_iconst (v := (-1)) hx hb d_X_step_19 (by decide +kernel) ?_
        exact W.iret (v := (-1)) hx hb hr (fun tt hth hW => ⟨⟨_, (), rfl, (fun _ => rfl), wg_h hth hP⟩, hS.F hth⟩) hS.2.2 d_X_step_20
  · skip
    refine lv_if_eq (tgt := 19) hx hb d_X_step_5 (by decide) (fun _ => ?_) (fun h => absurd h (by decide +kernel))
    refine lv_iconst (v := (-1)) hx hb d_X_step_19 (by decide +kernel) ?_
    exact W.iret (v := (-1)) hx hb hr (fun tt hth hW => ⟨⟨_, (), rfl, (fun _ => rfl), wg_h hth hP⟩, hS.F hth⟩) hS.2.2 d_X_step_20
set_option maxHeartbeats 4000000 in
set_option maxRecDepth 100000 in
theorem c_X_ends (l : Launch) (D : va_G) (cJ cI : ClassId) (h0 : Nat) (ad : Nat → Nat) (sz : Nat) (I : wg_S) (x : Int32) (hI : wg_XI I) : Met l y_X_ends (wg_ws y_X_ends b_X_ends 3 (some .boolean)) ({ frames := 1, cells := 0, slots := 0, locals := 21 }) (va_Pc [.ref h0, .int x] (wg_Pc D cJ cI (wg_WX cJ cI h0 ad I) sz)) (va_Qi (fun (r : Int32) (u : Unit) => I 8 0 = 0 → r = nI 0) (fun (_ : Unit) t => va_P D wg_cl (wg_WX cJ cI h0 ad I) t.heap) (va_A (wg_WX cJ cI h0 ad I) sz)) 0 0 (va_A (wg_WX cJ cI h0 ad I) sz) := by
  refine wg_head (Wd := (fun I => wg_WX cJ cI h0 ad I)) (I := I) (fun A => va_Qi (fun (r : Int32) (u : Unit) => I 8 0 = 0 → r = nI 0) (fun (_ : Unit) t => va_P D wg_cl (wg_WX cJ cI h0 ad I) t.heap) A) R_X (by decide) rfl (Nat.le_of_ble_eq_true rfl) (fun I J => wg_same_X I J) ?_
  intro p e s m below meth c A ls hx hb hr hlk hml hown hnm hts hA hK hD hP hS hl hsz
  clear hsz
  have hl : lv_has ls 3 [(0, .ref h0), (1, .int x)] := hl
  have hP : va_P D wg_cl (wg_WX cJ cI h0 ad I) s.heap := hP
  skip
  have hI' := hI
  obtain ⟨hn, hse, hc, hrc, hso, hw, hL, hF, hF1, hNW, hNL, hT, hWF, hNO⟩ := hI'
  refine lv_aload_n hx hb d_X_ends_0 rfl (lv_at hl 0 rfl) ?_
  refine lv_iload_n hx hb d_X_ends_1 rfl (lv_at hl 1 rfl) ?_
  refine wg_cvi (As := [.int x]) (rest := []) hx hb hml hown hts hK hP (hD _) hS hA rfl rfl rfl (c_X_hasNode l D cJ cI h0 ad _ I x (by omega)) kc_X_84 ⟨rfl, rfl⟩ ⟨Nat.le_of_ble_eq_true rfl, Nat.le_of_ble_eq_true rfl⟩ rfl hl.1 rfl (Nat.le_of_ble_eq_true rfl) d_X_ends_2 ⟨Nat.zero_le _, Nat.zero_le _⟩ (fun r u2 tt H locs ht q2 hB _ _ hS => ?_)
  have hP : va_P D wg_cl (wg_WX cJ cI h0 ad I) H := by rw [← ht]; exact hB
  clear hB ht tt
  rcases q2 with ⟨rfl, j2, hj2, rfl⟩ | ⟨rfl, hj2⟩
  · skip
    refine lv_if_ne (tgt := 10) hx hb d_X_ends_5 (by decide) (fun _ => ?_) (fun h => absurd h (by decide +kernel))
    refine lv_aload_n hx hb d_X_ends_10 rfl (lv_at hl 0 rfl) ?_
    refine wg_gX hx hb hts hown hK hP 6 (by decide) (v := .ref (ad 6)) kf_X_23 rfl d_X_ends_11 ?_
    refine lv_iload_n hx hb d_X_ends_14 rfl (lv_at hl 1 rfl) ?_
    refine wg_ild (f := I 6) (j := j2) hx hb hK hP 5 rfl (by omega) (by decide) d_X_ends_15 ?_
    have hB15 := hNW j2 (by omega)
    refine lv_istore_n (lv' := [(2, .int (nI (I 6 j2))), (0, .ref h0), (1, .int (nI j2))]) hx hb d_X_ends_16 rfl hl (by decide) rfl (fun ls hl => ?_)
    refine lv_iload_n hx hb d_X_ends_17 rfl (lv_at hl 0 rfl) ?_
    refine lv_aload_n hx hb d_X_ends_18 rfl (lv_at hl 1 rfl) ?_
    refine wg_gX hx hb hts hown hK hP 3 (by decide) (v := .int (nI (I 3 0))) kf_X_52 rfl d_X_ends_19 ?_
    refine lv_icmp_ge (tgt := 44) hx hb d_X_ends_22 (by decide) (fun h22 => ?_) (fun h22 => ?_)
    · rw [nI_leI (by omega) (by omega)] at h22
      refine lv_iconst (v := (nI 0)) hx hb d_X_ends_44 (by decide +kernel) ?_
      exact W.zret (ty := .boolean) (v := (nI 0)) hx hb hr (by decide +kernel) (fun tt hth hW => ⟨⟨_, (), rfl, (fun h => by omega), wg_h hth hP⟩, hS.F hth⟩) hS.2.2 d_X_ends_45
    · rw [nI_leI (by omega) (by omega)] at h22
      refine lv_aload_n hx hb d_X_ends_25 rfl (lv_at hl 1 rfl) ?_
      refine wg_gX hx hb hts hown hK hP 1 (by decide) (v := .ref (ad 1)) kf_X_13 rfl d_X_ends_26 ?_
      refine lv_iload_n hx hb d_X_ends_29 rfl (lv_at hl 0 rfl) ?_
      refine wg_ild (f := I 1) (j := (I 6 j2)) hx hb hK hP 2 rfl (by omega) (by decide) d_X_ends_30 ?_
      have hB30 := hL (I 6 j2) (by omega)
      refine lv_aload_n hx hb d_X_ends_31 rfl (lv_at hl 1 rfl) ?_
      refine wg_gX hx hb hts hown hK hP 7 (by decide) (v := .ref (ad 7)) kf_X_26 rfl d_X_ends_32 ?_
      refine lv_iload_n hx hb d_X_ends_35 rfl (lv_at hl 2 rfl) ?_
      refine wg_ild (f := I 7) (j := j2) hx hb hK hP 6 rfl (by omega) (by decide) d_X_ends_36 ?_
      have hB36 := hNL j2 (by omega)
      refine lv_icmp_ne (tgt := 44) hx hb d_X_ends_37 (by decide) (fun h37 => ?_) (fun h37 => ?_)
      · rw [nI_eq (by omega) (by omega)] at h37
        refine lv_iconst (v := (nI 0)) hx hb d_X_ends_44 (by decide +kernel) ?_
        exact W.zret (ty := .boolean) (v := (nI 0)) hx hb hr (by decide +kernel) (fun tt hth hW => ⟨⟨_, (), rfl, (fun h => by omega), wg_h hth hP⟩, hS.F hth⟩) hS.2.2 d_X_ends_45
      · rw [nI_eq (by omega) (by omega)] at h37
        refine lv_iconst (v := (nI 1)) hx hb d_X_ends_40 (by decide +kernel) ?_
        refine lv_goto (tgt := 45) hx hb d_X_ends_41 (by decide) ?_
        exact W.zret (ty := .boolean) (v := (nI 1)) hx hb hr (by decide +kernel) (fun tt hth hW => ⟨⟨_, (), rfl, (fun h => by omega), wg_h hth hP⟩, hS.F hth⟩) hS.2.2 d_X_ends_45
  · skip
    refine lv_if_ne (tgt := 10) hx hb d_X_ends_5 (by decide) (fun h => absurd h (by decide +kernel)) (fun _ => ?_)
    refine lv_iconst (v := (nI 0)) hx hb d_X_ends_8 (by decide +kernel) ?_
    exact W.zret (ty := .boolean) (v := (nI 0)) hx hb hr (by decide +kernel) (fun tt hth hW => ⟨⟨_, (), rfl, (fun _ => rfl), wg_h hth hP⟩, hS.F hth⟩) hS.2.2 d_X_ends_9
set_option maxHeartbeats 4000000 in
set_option maxRecDepth 100000 in
theorem c_X_endings (l : Launch) (D : va_G) (cJ cI : ClassId) (h0 : Nat) (ad : Nat → Nat) (sz : Nat) (I : wg_S) (x : Int32) (hI : wg_XI I) : Met l y_X_endings (wg_ws y_X_endings b_X_endings 5 (some .int)) ({ frames := 1, cells := 0, slots := 0, locals := 23 }) (va_Pc [.ref h0, .int x] (wg_Pc D cJ cI (wg_WX cJ cI h0 ad I) sz)) (va_Qi (fun (r : Int32) (u : Unit) => I 8 0 = 0 → r = nI 0) (fun (_ : Unit) t => va_P D wg_cl (wg_WX cJ cI h0 ad I) t.heap) (va_A (wg_WX cJ cI h0 ad I) sz)) 0 0 (va_A (wg_WX cJ cI h0 ad I) sz) := by
  refine wg_head (Wd := (fun I => wg_WX cJ cI h0 ad I)) (I := I) (fun A => va_Qi (fun (r : Int32) (u : Unit) => I 8 0 = 0 → r = nI 0) (fun (_ : Unit) t => va_P D wg_cl (wg_WX cJ cI h0 ad I) t.heap) A) R_X (by decide) rfl (Nat.le_of_ble_eq_true rfl) (fun I J => wg_same_X I J) ?_
  intro p e s m below meth c A ls hx hb hr hlk hml hown hnm hts hA hK hD hP hS hl hsz
  clear hsz
  have hl : lv_has ls 5 [(0, .ref h0), (1, .int x)] := hl
  have hP : va_P D wg_cl (wg_WX cJ cI h0 ad I) s.heap := hP
  skip
  have hI' := hI
  obtain ⟨hn, hse, hc, hrc, hso, hw, hL, hF, hF1, hNW, hNL, hT, hWF, hNO⟩ := hI'
  refine lv_aload_n hx hb d_X_endings_0 rfl (lv_at hl 0 rfl) ?_
  refine lv_iload_n hx hb d_X_endings_1 rfl (lv_at hl 1 rfl) ?_
  refine wg_cvi (As := [.int x]) (rest := []) hx hb hml hown hts hK hP (hD _) hS hA rfl rfl rfl (c_X_hasNode l D cJ cI h0 ad _ I x (by omega)) kc_X_84 ⟨rfl, rfl⟩ ⟨Nat.le_of_ble_eq_true rfl, Nat.le_of_ble_eq_true rfl⟩ rfl hl.1 rfl (Nat.le_of_ble_eq_true rfl) d_X_endings_2 ⟨Nat.zero_le _, Nat.zero_le _⟩ (fun r u2 tt H locs ht q2 hB _ _ hS => ?_)
  have hP : va_P D wg_cl (wg_WX cJ cI h0 ad I) H := by rw [← ht]; exact hB
  clear hB ht tt
  rcases q2 with ⟨rfl, j2, hj2, rfl⟩ | ⟨rfl, hj2⟩
  · skip
    refine lv_if_ne (tgt := 10) hx hb d_X_endings_5 (by decide) (fun _ => ?_) (fun h => absurd h (by decide +kernel))
    refine lv_aload_n hx hb d_X_endings_10 rfl (lv_at hl 0 rfl) ?_
    refine wg_gX hx hb hts hown hK hP 6 (by decide) (v := .ref (ad 6)) kf_X_23 rfl d_X_endings_11 ?_
    refine lv_iload_n hx hb d_X_endings_14 rfl (lv_at hl 1 rfl) ?_
    refine wg_ild (f := I 6) (j := j2) hx hb hK hP 5 rfl (by omega) (by decide) d_X_endings_15 ?_
    have hB15 := hNW j2 (by omega)
    refine lv_istore_n (lv' := [(2, .int (nI (I 6 j2))), (0, .ref h0), (1, .int (nI j2))]) hx hb d_X_endings_16 rfl hl (by decide) rfl (fun ls hl => ?_)
    refine lv_iconst (v := (nI 0)) hx hb d_X_endings_17 (by decide +kernel) ?_
    refine lv_istore_n (lv' := [(3, .int (nI 0)), (2, .int (nI (I 6 j2))), (0, .ref h0), (1, .int (nI j2))]) hx hb d_X_endings_18 rfl hl (by decide) rfl (fun ls hl => ?_)
    refine lv_iload_n hx hb d_X_endings_19 rfl (lv_at hl 1 rfl) ?_
    refine lv_istore (lv' := [(4, .int (nI (I 6 j2))), (3, .int (nI 0)), (2, .int (nI (I 6 j2))), (0, .ref h0), (1, .int (nI j2))]) hx hb d_X_endings_20 hl (by decide) rfl (fun ls hl => ?_)
    refine wg_loop (fun k cnt _ _ H locs ls => (k ≤ 48) ∧ va_P D wg_cl (wg_WX cJ cI h0 ad I) H ∧ va_S A s.heap H locs ∧ lv_has ls 5 [(0, .ref h0), (1, .int (nI j2)), (2, .int (nI (I 6 j2))), (3, .int (nI cnt)), (4, .int (nI k))]) (fun k cnt _ _ => 48 - k) (fun k cnt _z0 _J H locs ls hI ih22 => ?_) (I 6 j2) 0 0 (fun _ _ => 0) _ _ _ ⟨(by omega), hP, hS, lv_sub hl [3, 4, 2, 1, 0] rfl⟩
    obtain ⟨hk, hP, hS, hl⟩ := hI
    refine lv_iload hx hb d_X_endings_22 (lv_at hl 4 rfl) ?_
    refine lv_aload_n hx hb d_X_endings_24 rfl (lv_at hl 0 rfl) ?_
    refine wg_gX hx hb hts hown hK hP 3 (by decide) (v := .int (nI (I 3 0))) kf_X_52 rfl d_X_endings_25 ?_
    refine lv_icmp_ge (tgt := 56) hx hb d_X_endings_28 (by decide) (fun h28 => ?_) (fun h28 => ?_)
    · rw [nI_leI (by omega) (by omega)] at h28
      refine lv_iload_n hx hb d_X_endings_56 rfl (lv_at hl 3 rfl) ?_
      exact W.iret (v := (nI cnt)) hx hb hr (fun tt hth hW => ⟨⟨_, (), rfl, (fun h => by omega), wg_h hth hP⟩, hS.F hth⟩) hS.2.2 d_X_endings_57
    · rw [nI_leI (by omega) (by omega)] at h28
      refine lv_aload_n hx hb d_X_endings_31 rfl (lv_at hl 0 rfl) ?_
      refine lv_iload hx hb d_X_endings_32 (lv_at hl 4 rfl) ?_
      refine lv_iload_n hx hb d_X_endings_34 rfl (lv_at hl 2 rfl) ?_
      refine lv_aload_n hx hb d_X_endings_35 rfl (lv_at hl 0 rfl) ?_
      refine wg_gX hx hb hts hown hK hP 7 (by decide) (v := .ref (ad 7)) kf_X_26 rfl d_X_endings_36 ?_
      refine lv_iload_n hx hb d_X_endings_39 rfl (lv_at hl 1 rfl) ?_
      refine wg_ild (f := I 7) (j := j2) hx hb hK hP 6 rfl (by omega) (by decide) d_X_endings_40 ?_
      have hB40 := hNL j2 (by omega)
      refine wg_cvi (As := [.int (nI k), .int (nI (I 6 j2)), .int (nI (I 7 j2))]) (rest := []) hx hb hml hown hts hK hP (hD _) hS hA rfl rfl rfl (c_X_beginsAs l D cJ cI h0 ad _ I k (I 6 j2) (I 7 j2) (by omega) (by omega) (by omega) hI) kc_X_87 ⟨rfl, rfl⟩ ⟨Nat.le_of_ble_eq_true rfl, Nat.le_of_ble_eq_true rfl⟩ rfl hl.1 rfl (Nat.le_of_ble_eq_true rfl) d_X_endings_41 ⟨Nat.zero_le _, Nat.zero_le _⟩ (fun r u41 tt H locs ht q41 hB _ _ hS => ?_)
      have hP : va_P D wg_cl (wg_WX cJ cI h0 ad I) H := by rw [← ht]; exact hB
      clear hB ht tt
      rcases q41 with ⟨rfl, hb41⟩ | ⟨rfl, hb41⟩
      · skip
        refine lv_if_eq (tgt := 56) hx hb d_X_endings_44 (by decide) (fun h => absurd h (by decide +kernel)) (fun _ => ?_)
        refine lv_iinc (v := nI (cnt + 1)) (k := 3) (lv' := [(3, .int (nI (cnt + 1))), (0, .ref h0), (1, .int (nI j2)), (2, .int (nI (I 6 j2))), (4, .int (nI k))]) hx hb d_X_endings_47 hl rfl (nI_1 _) (by decide) rfl (fun ls hl => ?_)
        refine lv_iinc (v := nI (k + 1)) (k := 4) (lv' := [(4, .int (nI (k + 1))), (3, .int (nI (cnt + 1))), (0, .ref h0), (1, .int (nI j2)), (2, .int (nI (I 6 j2)))]) hx hb d_X_endings_50 hl rfl (nI_1 _) (by decide) rfl (fun ls hl => ?_)
        refine lv_goto (tgt := 22) hx hb d_X_endings_53 (by decide) ?_
        exact ih22 (k + 1) (cnt + 1) 0 (fun _ _ => 0) _ _ _ ⟨(by omega), hP, hS, lv_sub hl [2, 3, 4, 1, 0] rfl⟩ (by omega)
      · skip
        refine lv_if_eq (tgt := 56) hx hb d_X_endings_44 (by decide) (fun _ => ?_) (fun h => absurd h (by decide +kernel))
        refine lv_iload_n hx hb d_X_endings_56 rfl (lv_at hl 3 rfl) ?_
        exact W.iret (v := (nI cnt)) hx hb hr (fun tt hth hW => ⟨⟨_, (), rfl, (fun h => by omega), wg_h hth hP⟩, hS.F hth⟩) hS.2.2 d_X_endings_57
  · skip
    refine lv_if_ne (tgt := 10) hx hb d_X_endings_5 (by decide) (fun h => absurd h (by decide +kernel)) (fun _ => ?_)
    refine lv_iconst (v := (nI 0)) hx hb d_X_endings_8 (by decide +kernel) ?_
    exact W.iret (v := (nI 0)) hx hb hr (fun tt hth hW => ⟨⟨_, (), rfl, (fun _ => rfl), wg_h hth hP⟩, hS.F hth⟩) hS.2.2 d_X_endings_9
end
section
set_option maxHeartbeats 4000000 in
set_option maxRecDepth 100000 in
theorem c_X_fillFirstRow (l : Launch) (D : va_G) (cJ cI : ClassId) (h0 : Nat) (ad : Nat → Nat) (sz : Nat) (I : wg_S) (a : Nat) (ha : a ≤ 12) (hT : ∀ k, k < 169 → I 12 k ≤ 24) : Met l y_X_fillFirstRow (wg_ws y_X_fillFirstRow b_X_fillFirstRow 3 none) ({ frames := 0, cells := 0, slots := 0, locals := 0 }) (va_Pc [.ref h0, .int (nI a)] (wg_Pc D cJ cI (wg_WX cJ cI h0 ad I) sz)) (va_Qv (fun (u : wg_S) => (∀ j, ¬ j = 12 → u j = I j) ∧ (∀ k, k < 169 → u 12 k ≤ 24) ∧ (∀ i, i ≤ a → u 12 i = i)) (fun (u : wg_S) t => va_P D wg_cl (wg_WX cJ cI h0 ad u) t.heap) (va_A (wg_WX cJ cI h0 ad I) sz)) 0 0 (va_A (wg_WX cJ cI h0 ad I) sz) := by
  refine wg_head (Wd := (fun I => wg_WX cJ cI h0 ad I)) (I := I) (fun A => va_Qv (fun (u : wg_S) => (∀ j, ¬ j = 12 → u j = I j) ∧ (∀ k, k < 169 → u 12 k ≤ 24) ∧ (∀ i, i ≤ a → u 12 i = i)) (fun (u : wg_S) t => va_P D wg_cl (wg_WX cJ cI h0 ad u) t.heap) A) R_X (by decide) rfl (Nat.le_of_ble_eq_true rfl) (fun I J => wg_same_X I J) ?_
  intro p e s m below meth c A ls hx hb hr hlk hml hown hnm hts hA hK hD hP hS hl hsz
  clear hsz
  have hl : lv_has ls 3 [(0, .ref h0), (1, .int (nI a))] := hl
  have hP : va_P D wg_cl (wg_WX cJ cI h0 ad I) s.heap := hP
  skip
  refine lv_iconst (v := (nI 0)) hx hb d_X_fillFirstRow_0 (by decide +kernel) ?_
  refine lv_istore_n (lv' := [(2, .int (nI 0)), (0, .ref h0), (1, .int (nI a))]) hx hb d_X_fillFirstRow_1 rfl hl (by decide) rfl (fun ls hl => ?_)
  refine wg_loop (fun i _ _ J H locs ls => (i ≤ a + 1) ∧ (∀ j, ¬ j = 12 → J j = I j) ∧ (∀ k, k < 169 → J 12 k ≤ 24) ∧ (∀ x, x < i → J 12 x = x) ∧ va_P D wg_cl (wg_WX cJ cI h0 ad J) H ∧ va_S A s.heap H locs ∧ lv_has ls 3 [(0, .ref h0), (1, .int (nI a)), (2, .int (nI i))]) (fun i _ _ J => 13 - i) (fun i _z0 _z1 J H locs ls hI ih2 => ?_) 0 0 0 I _ _ _ ⟨(by omega), (fun _ _ => rfl), hT, (fun x h => by omega), hP, hS, lv_sub hl [1, 2, 0] rfl⟩
  obtain ⟨hi, hJo, hJT, hJi, hP, hS, hl⟩ := hI
  refine lv_iload_n hx hb d_X_fillFirstRow_2 rfl (lv_at hl 2 rfl) ?_
  refine lv_iload_n hx hb d_X_fillFirstRow_3 rfl (lv_at hl 1 rfl) ?_
  refine lv_icmp_gt (tgt := 20) hx hb d_X_fillFirstRow_4 (by decide) (fun h4 => ?_) (fun h4 => ?_)
  · rw [nI_ltI (by omega) (by omega)] at h4
    exact W.vret hx hb hr (fun tt hth hW => ⟨⟨J, rfl, ⟨hJo, hJT, fun x h => hJi x (by omega)⟩, wg_h hth hP⟩, hS.F hth⟩) hS.2.2 d_X_fillFirstRow_20
  · rw [nI_ltI (by omega) (by omega)] at h4
    refine lv_aload_n hx hb d_X_fillFirstRow_7 rfl (lv_at hl 0 rfl) ?_
    refine wg_gX hx hb hts hown hK hP 12 (by decide) (v := .ref (ad 12)) kf_X_35 rfl d_X_fillFirstRow_8 ?_
    refine lv_iload_n hx hb d_X_fillFirstRow_11 rfl (lv_at hl 2 rfl) ?_
    refine lv_iload_n hx hb d_X_fillFirstRow_12 rfl (lv_at hl 2 rfl) ?_
    refine wg_sX12 (j := i) (x := i) hx hb hK hP hD hS (by omega) d_X_fillFirstRow_13 (fun H locs hP hS => ?_)
    refine lv_iinc (v := nI (i + 1)) (k := 2) (lv' := [(2, .int (nI (i + 1))), (0, .ref h0), (1, .int (nI a))]) hx hb d_X_fillFirstRow_14 hl rfl (nI_1 _) (by decide) rfl (fun ls hl => ?_)
    refine lv_goto (tgt := 2) hx hb d_X_fillFirstRow_17 (by decide) ?_
    exact ih2 (i + 1) 0 0 (wg_st J 12 i i) _ _ _ ⟨(by omega), (fun j h => (wg_st_o _ _ _ _ h).trans (hJo j h)), (wg_st_b hJT (by omega)), (fun x h => by rcases Nat.lt_succ_iff_lt_or_eq.mp h with h | rfl; exact (wg_st_n _ _ _ _ (by omega)).trans (hJi x h); exact wg_st_s _ _ _ _), hP, hS, lv_sub hl [1, 2, 0] rfl⟩ (by omega)
set_option maxHeartbeats 4000000 in
set_option maxRecDepth 100000 in
theorem c_X_fillRow (l : Launch) (D : va_G) (cJ cI : ClassId) (h0 : Nat) (ad : Nat → Nat) (sz : Nat) (I : wg_S) (row : Nat) (ch : Nat) (n : Nat) (a : Nat) (v : Nat) (hrow : 1 ≤ row ∧ row ≤ 12) (hch : ch ≤ 31) (hn : n < 2 ^ 64) (ha : a ≤ 12) (hT : ∀ k, k < 169 → I 12 k ≤ 24) (hch2 : ch = wg_lt v (row - 1)) (hab : ∀ i, i ≤ a → I 12 (row * 13 - 13 + i) = wg_bt v n (row - 1) i) : Met l y_X_fillRow (wg_ws y_X_fillRow b_X_fillRow 11 none) ({ frames := 1, cells := 0, slots := 0, locals := 22 }) (va_Pc [.ref h0, .int (nI row), .int (nI ch), .long (lN n), .int (nI a)] (wg_Pc D cJ cI (wg_WX cJ cI h0 ad I) sz)) (va_Qv (fun (u : wg_S) => (∀ j, ¬ j = 12 → u j = I j) ∧ (∀ k, k < 169 → u 12 k ≤ 24) ∧ (∀ i, i ≤ a → u 12 (row * 13 + i) = wg_bt v n row i) ∧ (∀ x, x < row * 13 → u 12 x = I 12 x)) (fun (u : wg_S) t => va_P D wg_cl (wg_WX cJ cI h0 ad u) t.heap) (va_A (wg_WX cJ cI h0 ad I) sz)) 0 0 (va_A (wg_WX cJ cI h0 ad I) sz) := by
  refine wg_head (Wd := (fun I => wg_WX cJ cI h0 ad I)) (I := I) (fun A => va_Qv (fun (u : wg_S) => (∀ j, ¬ j = 12 → u j = I j) ∧ (∀ k, k < 169 → u 12 k ≤ 24) ∧ (∀ i, i ≤ a → u 12 (row * 13 + i) = wg_bt v n row i) ∧ (∀ x, x < row * 13 → u 12 x = I 12 x)) (fun (u : wg_S) t => va_P D wg_cl (wg_WX cJ cI h0 ad u) t.heap) A) R_X (by decide) rfl (Nat.le_of_ble_eq_true rfl) (fun I J => wg_same_X I J) ?_
  intro p e s m below meth c A ls hx hb hr hlk hml hown hnm hts hA hK hD hP hS hl hsz
  clear hsz
  have hl : lv_has ls 11 [(0, .ref h0), (1, .int (nI row)), (2, .int (nI ch)), (3, .long (lN n)), (5, .int (nI a))] := hl
  have hP : va_P D wg_cl (wg_WX cJ cI h0 ad I) s.heap := hP
  skip
  refine lv_iload_n hx hb d_X_fillRow_0 rfl (lv_at hl 1 rfl) ?_
  refine lv_bipush (v := (nI 13)) hx hb d_X_fillRow_1 (by decide +kernel) ?_
  refine t_imul (v := nI (row * 13)) hx hb d_X_fillRow_3 (pk_mul _ _) ?_
  refine lv_istore (lv' := [(6, .int (nI (row * 13))), (0, .ref h0), (1, .int (nI row)), (2, .int (nI ch)), (3, .long (lN n)), (5, .int (nI a))]) hx hb d_X_fillRow_4 hl (by decide) rfl (fun ls hl => ?_)
  refine lv_iload hx hb d_X_fillRow_6 (lv_at hl 0 rfl) ?_
  refine lv_bipush (v := (nI 13)) hx hb d_X_fillRow_8 (by decide +kernel) ?_
  refine t_isub (v := nI ((row * 13) - 13)) hx hb d_X_fillRow_10 (pk_sub (by omega)) ?_
  refine lv_istore (lv' := [(7, .int (nI ((row * 13) - 13))), (6, .int (nI (row * 13))), (0, .ref h0), (1, .int (nI row)), (2, .int (nI ch)), (3, .long (lN n)), (5, .int (nI a))]) hx hb d_X_fillRow_11 hl (by decide) rfl (fun ls hl => ?_)
  refine lv_aload_n hx hb d_X_fillRow_13 rfl (lv_at hl 2 rfl) ?_
  refine wg_gX hx hb hts hown hK hP 12 (by decide) (v := .ref (ad 12)) kf_X_35 rfl d_X_fillRow_14 ?_
  refine lv_iload hx hb d_X_fillRow_17 (lv_at hl 1 rfl) ?_
  refine lv_iload_n hx hb d_X_fillRow_19 rfl (lv_at hl 3 rfl) ?_
  refine wg_sX12 (j := (row * 13)) (x := row) hx hb hK hP hD hS (by omega) d_X_fillRow_20 (fun H locs hP hS => ?_)
  refine lv_iconst (v := (nI 1)) hx hb d_X_fillRow_21 (by decide +kernel) ?_
  refine lv_istore (lv' := [(8, .int (nI 1)), (7, .int (nI ((row * 13) - 13))), (6, .int (nI (row * 13))), (0, .ref h0), (1, .int (nI row)), (2, .int (nI ch)), (3, .long (lN n)), (5, .int (nI a))]) hx hb d_X_fillRow_22 hl (by decide) rfl (fun ls hl => ?_)
  refine wg_loop (fun i _ _ J H locs ls => (1 ≤ i ∧ i ≤ a + 1) ∧ (∀ j, ¬ j = 12 → J j = I j) ∧ (∀ k, k < 169 → J 12 k ≤ 24) ∧ (J 12 (row * 13 + i - 1) ≤ row + i - 1) ∧ (∀ x, x < i → J 12 (row * 13 + x) = wg_bt v n row x) ∧ (∀ x, x < row * 13 → J 12 x = I 12 x) ∧ va_P D wg_cl (wg_WX cJ cI h0 ad J) H ∧ va_S A s.heap H locs ∧ lv_has ls 11 [(0, .ref h0), (1, .int (nI row)), (2, .int (nI ch)), (3, .long (lN n)), (5, .int (nI a)), (6, .int (nI (row * 13))), (7, .int (nI ((row * 13) - 13))), (8, .int (nI i))]) (fun i _ _ J => 13 - i) (fun i _z0 _z1 J H locs ls hI ih24 => ?_) 1 0 0 (wg_st I 12 (row * 13) row) _ _ _ ⟨(by omega), (fun j h => wg_st_o _ _ _ _ h), (wg_st_b hT (by omega)), (by rw [show row * 13 + 1 - 1 = row * 13 by omega, wg_st_s]; omega), (fun x h => by rw [show row * 13 + x = row * 13 by omega, wg_st_s, show x = 0 by omega, wg_bt_i]), (fun x h => wg_st_n _ _ _ _ (by omega)), hP, hS, lv_sub hl [3, 4, 5, 6, 7, 2, 1, 0] rfl⟩
  obtain ⟨hi, hJo, hJT, hJl, hrd, hlow, hP, hS, hl⟩ := hI
  refine lv_iload hx hb d_X_fillRow_24 (lv_at hl 7 rfl) ?_
  refine lv_iload hx hb d_X_fillRow_26 (lv_at hl 4 rfl) ?_
  refine lv_icmp_gt (tgt := 115) hx hb d_X_fillRow_28 (by decide) (fun h28 => ?_) (fun h28 => ?_)
  · rw [nI_ltI (by omega) (by omega)] at h28
    exact W.vret hx hb hr (fun tt hth hW => ⟨⟨J, rfl, ⟨hJo, hJT, fun x h => hrd x (by omega), hlow⟩, wg_h hth hP⟩, hS.F hth⟩) hS.2.2 d_X_fillRow_115
  · rw [nI_ltI (by omega) (by omega)] at h28
    refine lv_lload_n hx hb d_X_fillRow_31 rfl (lv_at hl 3 rfl) ?_
    refine lv_iload hx hb d_X_fillRow_32 (lv_at hl 7 rfl) ?_
    refine lv_iconst (v := (nI 1)) hx hb d_X_fillRow_34 (by decide +kernel) ?_
    refine t_isub (v := nI (i - 1)) hx hb d_X_fillRow_35 (pk_sub (by omega)) ?_
    refine wg_csi (As := [.long (lN n), .int (nI (i - 1))]) (rest := []) hx hb hml hown hts hK hP hS hA (c_X_letterAt l D cJ cI _ n (i - 1) (by omega) (by omega)) kc_X_91 ⟨rfl, rfl⟩ ⟨Nat.le_of_ble_eq_true rfl, Nat.le_of_ble_eq_true rfl⟩ rfl hl.1 rfl (Nat.le_of_ble_eq_true rfl) d_X_fillRow_36 ⟨Nat.zero_le _, Nat.zero_le _⟩ (fun r H locs q36 hP hS => ?_)
    obtain rfl := q36
    have hq36 := wg_la_le n (i - 1)
    refine lv_iload_n hx hb d_X_fillRow_39 rfl (lv_at hl 2 rfl) ?_
    refine lv_icmp_ne (tgt := 47) hx hb d_X_fillRow_40 (by decide) (fun h40 => ?_) (fun h40 => ?_)
    · rw [nI_eq (by omega) (by omega)] at h40
      have hcd : ¬ wg_lt v (row - 1) = wg_lt n (i - 1) := fun q => h40 (by rw [wg_la_lt (by omega), ← q, hch2])
      refine lv_iconst (v := (nI 1)) hx hb d_X_fillRow_47 (by decide +kernel) ?_
      refine lv_istore (lv' := [(9, .int (nI 1)), (0, .ref h0), (1, .int (nI row)), (2, .int (nI ch)), (3, .long (lN n)), (5, .int (nI a)), (6, .int (nI (row * 13))), (7, .int (nI ((row * 13) - 13))), (8, .int (nI i))]) hx hb d_X_fillRow_48 hl (by decide) rfl (fun ls hl => ?_)
      have e1 : J 12 (row * 13 - 13 + i - 1) = wg_bt v n (row - 1) (i - 1) := by rw [show row * 13 - 13 + i - 1 = row * 13 - 13 + (i - 1) by omega, hlow _ (by omega)]; exact hab _ (by omega)
      have e2 : J 12 (row * 13 - 13 + i) = wg_bt v n (row - 1) i := by rw [hlow _ (by omega)]; exact hab _ (by omega)
      have e3 : J 12 (row * 13 + i - 1) = wg_bt v n row (i - 1) := by rw [show row * 13 + i - 1 = row * 13 + (i - 1) by omega]; exact hrd _ (by omega)
      refine lv_aload_n hx hb d_X_fillRow_50 rfl (lv_at hl 1 rfl) ?_
      refine wg_gX hx hb hts hown hK hP 12 (by decide) (v := .ref (ad 12)) kf_X_35 rfl d_X_fillRow_51 ?_
      refine lv_iload hx hb d_X_fillRow_54 (lv_at hl 7 rfl) ?_
      refine lv_iload hx hb d_X_fillRow_56 (lv_at hl 8 rfl) ?_
      refine t_iadd (v := nI (((row * 13) - 13) + i)) hx hb d_X_fillRow_58 (nI_add _ _) ?_
      refine wg_ild (f := J 12) (j := (((row * 13) - 13) + i)) hx hb hK hP 9 rfl (by omega) (by decide) d_X_fillRow_59 ?_
      have hB59 := hJT (((row * 13) - 13) + i) (by omega)
      refine lv_aload_n hx hb d_X_fillRow_60 rfl (lv_at hl 1 rfl) ?_
      refine wg_gX hx hb hts hown hK hP 12 (by decide) (v := .ref (ad 12)) kf_X_35 rfl d_X_fillRow_61 ?_
      refine lv_iload hx hb d_X_fillRow_64 (lv_at hl 6 rfl) ?_
      refine lv_iload hx hb d_X_fillRow_66 (lv_at hl 8 rfl) ?_
      refine t_iadd (v := nI ((row * 13) + i)) hx hb d_X_fillRow_68 (nI_add _ _) ?_
      refine lv_iconst (v := (nI 1)) hx hb d_X_fillRow_69 (by decide +kernel) ?_
      refine t_isub (v := nI (((row * 13) + i) - 1)) hx hb d_X_fillRow_70 (pk_sub (by omega)) ?_
      refine wg_ild (f := J 12) (j := (((row * 13) + i) - 1)) hx hb hK hP 9 rfl (by omega) (by decide) d_X_fillRow_71 ?_
      have hB71 := hJT (((row * 13) + i) - 1) (by omega)
      refine va_mmin hx hb (by rw [hml]; exact hl.1.symm) hown (hts _ (wg_mmin_125).1) (hts _ (wg_mmin_125).2.1) (hts _ (wg_mmin_125).2.2.1) (hts _ (wg_mmin_125).2.2.2) (Nat.le_of_ble_eq_true rfl) (Nat.le_of_ble_eq_true rfl) (Nat.zero_le _) (Nat.zero_le _) d_X_fillRow_72 ?_
      rw [wg_min (by omega) (by omega)]
      refine lv_iconst (v := (nI 1)) hx hb d_X_fillRow_75 (by decide +kernel) ?_
      refine t_iadd (v := nI ((min (J 12 (((row * 13) - 13) + i)) (J 12 (((row * 13) + i) - 1))) + 1)) hx hb d_X_fillRow_76 (nI_add _ _) ?_
      refine lv_istore (lv' := [(10, .int (nI ((min (J 12 (((row * 13) - 13) + i)) (J 12 (((row * 13) + i) - 1))) + 1))), (9, .int (nI 1)), (0, .ref h0), (1, .int (nI row)), (2, .int (nI ch)), (3, .long (lN n)), (5, .int (nI a)), (6, .int (nI (row * 13))), (7, .int (nI ((row * 13) - 13))), (8, .int (nI i))]) hx hb d_X_fillRow_77 hl (by decide) rfl (fun ls hl => ?_)
      refine lv_aload_n hx hb d_X_fillRow_79 rfl (lv_at hl 2 rfl) ?_
      refine wg_gX hx hb hts hown hK hP 12 (by decide) (v := .ref (ad 12)) kf_X_35 rfl d_X_fillRow_80 ?_
      refine lv_iload hx hb d_X_fillRow_83 (lv_at hl 7 rfl) ?_
      refine lv_iload hx hb d_X_fillRow_85 (lv_at hl 9 rfl) ?_
      refine t_iadd (v := nI ((row * 13) + i)) hx hb d_X_fillRow_87 (nI_add _ _) ?_
      refine lv_aload_n hx hb d_X_fillRow_88 rfl (lv_at hl 2 rfl) ?_
      refine wg_gX hx hb hts hown hK hP 12 (by decide) (v := .ref (ad 12)) kf_X_35 rfl d_X_fillRow_89 ?_
      refine lv_iload hx hb d_X_fillRow_92 (lv_at hl 8 rfl) ?_
      refine lv_iload hx hb d_X_fillRow_94 (lv_at hl 9 rfl) ?_
      refine t_iadd (v := nI (((row * 13) - 13) + i)) hx hb d_X_fillRow_96 (nI_add _ _) ?_
      refine lv_iconst (v := (nI 1)) hx hb d_X_fillRow_97 (by decide +kernel) ?_
      refine t_isub (v := nI ((((row * 13) - 13) + i) - 1)) hx hb d_X_fillRow_98 (pk_sub (by omega)) ?_
      refine wg_ild (f := J 12) (j := ((((row * 13) - 13) + i) - 1)) hx hb hK hP 9 rfl (by omega) (by decide) d_X_fillRow_99 ?_
      have hB99 := hJT ((((row * 13) - 13) + i) - 1) (by omega)
      refine lv_iload hx hb d_X_fillRow_100 (lv_at hl 1 rfl) ?_
      refine t_iadd (v := nI ((J 12 ((((row * 13) - 13) + i) - 1)) + 1)) hx hb d_X_fillRow_102 (nI_add _ _) ?_
      refine lv_iload hx hb d_X_fillRow_103 (lv_at hl 0 rfl) ?_
      refine va_mmin hx hb (by rw [hml]; exact hl.1.symm) hown (hts _ (wg_mmin_125).1) (hts _ (wg_mmin_125).2.1) (hts _ (wg_mmin_125).2.2.1) (hts _ (wg_mmin_125).2.2.2) (Nat.le_of_ble_eq_true rfl) (Nat.le_of_ble_eq_true rfl) (Nat.zero_le _) (Nat.zero_le _) d_X_fillRow_105 ?_
      rw [wg_min (by omega) (by omega)]
      have hval : min ((J 12 ((((row * 13) - 13) + i) - 1)) + 1) ((min (J 12 (((row * 13) - 13) + i)) (J 12 (((row * 13) + i) - 1))) + 1) = wg_bt v n row i := by rw [wg_bt_p (by omega) (by omega), ← e1, ← e2, ← e3]; first | (rw [if_pos hcd]; omega) | (rw [if_neg hcd]; omega)
      refine wg_sX12 (j := ((row * 13) + i)) (x := (min ((J 12 ((((row * 13) - 13) + i) - 1)) + 1) ((min (J 12 (((row * 13) - 13) + i)) (J 12 (((row * 13) + i) - 1))) + 1))) hx hb hK hP hD hS (by omega) d_X_fillRow_108 (fun H locs hP hS => ?_)
      refine lv_iinc (v := nI (i + 1)) (k := 9) (lv' := [(8, .int (nI (i + 1))), (10, .int (nI ((min (J 12 (((row * 13) - 13) + i)) (J 12 (((row * 13) + i) - 1))) + 1))), (9, .int (nI 1)), (0, .ref h0), (1, .int (nI row)), (2, .int (nI ch)), (3, .long (lN n)), (5, .int (nI a)), (6, .int (nI (row * 13))), (7, .int (nI ((row * 13) - 13)))]) hx hb d_X_fillRow_109 hl rfl (nI_1 _) (by decide) rfl (fun ls hl => ?_)
      refine lv_goto (tgt := 24) hx hb d_X_fillRow_112 (by decide) ?_
      exact ih24 (i + 1) 0 0 (wg_st J 12 ((row * 13) + i) (min ((J 12 ((((row * 13) - 13) + i) - 1)) + 1) ((min (J 12 (((row * 13) - 13) + i)) (J 12 (((row * 13) + i) - 1))) + 1))) _ _ _ ⟨(by omega), (fun j h => (wg_st_o _ _ _ _ h).trans (hJo j h)), (wg_st_b hJT (by omega)), (by rw [show row * 13 + (i + 1) - 1 = row * 13 + i by omega, wg_st_s]; omega), (fun x h => by rcases Nat.lt_succ_iff_lt_or_eq.mp h with h | rfl; exact (wg_st_n _ _ _ _ (by omega)).trans (hrd x h); exact (wg_st_s _ _ _ _).trans hval), (fun x h => (wg_st_n _ _ _ _ (by omega)).trans (hlow x h)), hP, hS, lv_sub hl [3, 4, 5, 6, 7, 8, 9, 0] rfl⟩ (by omega)
    · rw [nI_eq (by omega) (by omega)] at h40
      have hcd : wg_lt v (row - 1) = wg_lt n (i - 1) := by rw [← hch2, ← h40, wg_la_lt (by omega)]
      refine lv_iconst (v := (nI 0)) hx hb d_X_fillRow_43 (by decide +kernel) ?_
      refine lv_goto (tgt := 48) hx hb d_X_fillRow_44 (by decide) ?_
      refine lv_istore (lv' := [(9, .int (nI 0)), (0, .ref h0), (1, .int (nI row)), (2, .int (nI ch)), (3, .long (lN n)), (5, .int (nI a)), (6, .int (nI (row * 13))), (7, .int (nI ((row * 13) - 13))), (8, .int (nI i))]) hx hb d_X_fillRow_48 hl (by decide) rfl (fun ls hl => ?_)
      have e1 : J 12 (row * 13 - 13 + i - 1) = wg_bt v n (row - 1) (i - 1) := by rw [show row * 13 - 13 + i - 1 = row * 13 - 13 + (i - 1) by omega, hlow _ (by omega)]; exact hab _ (by omega)
      have e2 : J 12 (row * 13 - 13 + i) = wg_bt v n (row - 1) i := by rw [hlow _ (by omega)]; exact hab _ (by omega)
      have e3 : J 12 (row * 13 + i - 1) = wg_bt v n row (i - 1) := by rw [show row * 13 + i - 1 = row * 13 + (i - 1) by omega]; exact hrd _ (by omega)
      refine lv_aload_n hx hb d_X_fillRow_50 rfl (lv_at hl 1 rfl) ?_
      refine wg_gX hx hb hts hown hK hP 12 (by decide) (v := .ref (ad 12)) kf_X_35 rfl d_X_fillRow_51 ?_
      refine lv_iload hx hb d_X_fillRow_54 (lv_at hl 7 rfl) ?_
      refine lv_iload hx hb d_X_fillRow_56 (lv_at hl 8 rfl) ?_
      refine t_iadd (v := nI (((row * 13) - 13) + i)) hx hb d_X_fillRow_58 (nI_add _ _) ?_
      refine wg_ild (f := J 12) (j := (((row * 13) - 13) + i)) hx hb hK hP 9 rfl (by omega) (by decide) d_X_fillRow_59 ?_
      have hB59 := hJT (((row * 13) - 13) + i) (by omega)
      refine lv_aload_n hx hb d_X_fillRow_60 rfl (lv_at hl 1 rfl) ?_
      refine wg_gX hx hb hts hown hK hP 12 (by decide) (v := .ref (ad 12)) kf_X_35 rfl d_X_fillRow_61 ?_
      refine lv_iload hx hb d_X_fillRow_64 (lv_at hl 6 rfl) ?_
      refine lv_iload hx hb d_X_fillRow_66 (lv_at hl 8 rfl) ?_
      refine t_iadd (v := nI ((row * 13) + i)) hx hb d_X_fillRow_68 (nI_add _ _) ?_
      refine lv_iconst (v := (nI 1)) hx hb d_X_fillRow_69 (by decide +kernel) ?_
      refine t_isub (v := nI (((row * 13) + i) - 1)) hx hb d_X_fillRow_70 (pk_sub (by omega)) ?_
      refine wg_ild (f := J 12) (j := (((row * 13) + i) - 1)) hx hb hK hP 9 rfl (by omega) (by decide) d_X_fillRow_71 ?_
      have hB71 := hJT (((row * 13) + i) - 1) (by omega)
      refine va_mmin hx hb (by rw [hml]; exact hl.1.symm) hown (hts _ (wg_mmin_125).1) (hts _ (wg_mmin_125).2.1) (hts _ (wg_mmin_125).2.2.1) (hts _ (wg_mmin_125).2.2.2) (Nat.le_of_ble_eq_true rfl) (Nat.le_of_ble_eq_true rfl) (Nat.zero_le _) (Nat.zero_le _) d_X_fillRow_72 ?_
      rw [wg_min (by omega) (by omega)]
      refine lv_iconst (v := (nI 1)) hx hb d_X_fillRow_75 (by decide +kernel) ?_
      refine t_iadd (v := nI ((min (J 12 (((row * 13) - 13) + i)) (J 12 (((row * 13) + i) - 1))) + 1)) hx hb d_X_fillRow_76 (nI_add _ _) ?_
      refine lv_istore (lv' := [(10, .int (nI ((min (J 12 (((row * 13) - 13) + i)) (J 12 (((row * 13) + i) - 1))) + 1))), (9, .int (nI 0)), (0, .ref h0), (1, .int (nI row)), (2, .int (nI ch)), (3, .long (lN n)), (5, .int (nI a)), (6, .int (nI (row * 13))), (7, .int (nI ((row * 13) - 13))), (8, .int (nI i))]) hx hb d_X_fillRow_77 hl (by decide) rfl (fun ls hl => ?_)
      refine lv_aload_n hx hb d_X_fillRow_79 rfl (lv_at hl 2 rfl) ?_
      refine wg_gX hx hb hts hown hK hP 12 (by decide) (v := .ref (ad 12)) kf_X_35 rfl d_X_fillRow_80 ?_
      refine lv_iload hx hb d_X_fillRow_83 (lv_at hl 7 rfl) ?_
      refine lv_iload hx hb d_X_fillRow_85 (lv_at hl 9 rfl) ?_
      refine t_iadd (v := nI ((row * 13) + i)) hx hb d_X_fillRow_87 (nI_add _ _) ?_
      refine lv_aload_n hx hb d_X_fillRow_88 rfl (lv_at hl 2 rfl) ?_
      refine wg_gX hx hb hts hown hK hP 12 (by decide) (v := .ref (ad 12)) kf_X_35 rfl d_X_fillRow_89 ?_
      refine lv_iload hx hb d_X_fillRow_92 (lv_at hl 8 rfl) ?_
      refine lv_iload hx hb d_X_fillRow_94 (lv_at hl 9 rfl) ?_
      refine t_iadd (v := nI (((row * 13) - 13) + i)) hx hb d_X_fillRow_96 (nI_add _ _) ?_
      refine lv_iconst (v := (nI 1)) hx hb d_X_fillRow_97 (by decide +kernel) ?_
      refine t_isub (v := nI ((((row * 13) - 13) + i) - 1)) hx hb d_X_fillRow_98 (pk_sub (by omega)) ?_
      refine wg_ild (f := J 12) (j := ((((row * 13) - 13) + i) - 1)) hx hb hK hP 9 rfl (by omega) (by decide) d_X_fillRow_99 ?_
      have hB99 := hJT ((((row * 13) - 13) + i) - 1) (by omega)
      refine lv_iload hx hb d_X_fillRow_100 (lv_at hl 1 rfl) ?_
      refine t_iadd (v := nI ((J 12 ((((row * 13) - 13) + i) - 1)) + 0)) hx hb d_X_fillRow_102 (nI_add _ _) ?_
      refine lv_iload hx hb d_X_fillRow_103 (lv_at hl 0 rfl) ?_
      refine va_mmin hx hb (by rw [hml]; exact hl.1.symm) hown (hts _ (wg_mmin_125).1) (hts _ (wg_mmin_125).2.1) (hts _ (wg_mmin_125).2.2.1) (hts _ (wg_mmin_125).2.2.2) (Nat.le_of_ble_eq_true rfl) (Nat.le_of_ble_eq_true rfl) (Nat.zero_le _) (Nat.zero_le _) d_X_fillRow_105 ?_
      rw [wg_min (by omega) (by omega)]
      have hval : min ((J 12 ((((row * 13) - 13) + i) - 1)) + 0) ((min (J 12 (((row * 13) - 13) + i)) (J 12 (((row * 13) + i) - 1))) + 1) = wg_bt v n row i := by rw [wg_bt_p (by omega) (by omega), ← e1, ← e2, ← e3]; first | (rw [if_pos hcd]; omega) | (rw [if_neg hcd]; omega)
      refine wg_sX12 (j := ((row * 13) + i)) (x := (min ((J 12 ((((row * 13) - 13) + i) - 1)) + 0) ((min (J 12 (((row * 13) - 13) + i)) (J 12 (((row * 13) + i) - 1))) + 1))) hx hb hK hP hD hS (by omega) d_X_fillRow_108 (fun H locs hP hS => ?_)
      refine lv_iinc (v := nI (i + 1)) (k := 9) (lv' := [(8, .int (nI (i + 1))), (10, .int (nI ((min (J 12 (((row * 13) - 13) + i)) (J 12 (((row * 13) + i) - 1))) + 1))), (9, .int (nI 0)), (0, .ref h0), (1, .int (nI row)), (2, .int (nI ch)), (3, .long (lN n)), (5, .int (nI a)), (6, .int (nI (row * 13))), (7, .int (nI ((row * 13) - 13)))]) hx hb d_X_fillRow_109 hl rfl (nI_1 _) (by decide) rfl (fun ls hl => ?_)
      refine lv_goto (tgt := 24) hx hb d_X_fillRow_112 (by decide) ?_
      exact ih24 (i + 1) 0 0 (wg_st J 12 ((row * 13) + i) (min ((J 12 ((((row * 13) - 13) + i) - 1)) + 0) ((min (J 12 (((row * 13) - 13) + i)) (J 12 (((row * 13) + i) - 1))) + 1))) _ _ _ ⟨(by omega), (fun j h => (wg_st_o _ _ _ _ h).trans (hJo j h)), (wg_st_b hJT (by omega)), (by rw [show row * 13 + (i + 1) - 1 = row * 13 + i by omega, wg_st_s]; omega), (fun x h => by rcases Nat.lt_succ_iff_lt_or_eq.mp h with h | rfl; exact (wg_st_n _ _ _ _ (by omega)).trans (hrd x h); exact (wg_st_s _ _ _ _).trans hval), (fun x h => (wg_st_n _ _ _ _ (by omega)).trans (hlow x h)), hP, hS, lv_sub hl [3, 4, 5, 6, 7, 8, 9, 0] rfl⟩ (by omega)
set_option maxHeartbeats 4000000 in
set_option maxRecDepth 100000 in
theorem c_X_farOfWord (l : Launch) (D : va_G) (cJ cI : ClassId) (h0 : Nat) (ad : Nat → Nat) (sz : Nat) (I : wg_S) (k : Nat) (f : Nat) (n : Nat) (a : Nat) (hk : k < 48) (hf : 1 ≤ f ∧ f ≤ 13) (hn64 : n < 2 ^ 64) (ha : a ≤ 12) (hI : wg_XI I) (hLk : I 1 k = wg_len (I 0 k)) (hrs : ∀ x i, x < f → i ≤ a → I 12 (x * 13 + i) = wg_bt (I 0 k) n x i) : Met l y_X_farOfWord (wg_ws y_X_farOfWord b_X_farOfWord 7 (some .int)) ({ frames := 2, cells := 0, slots := 0, locals := 52 }) (va_Pc [.ref h0, .int (nI k), .int (nI f), .long (lN n), .int (nI a)] (wg_Pc D cJ cI (wg_WX cJ cI h0 ad I) sz)) (va_Qi (fun (r : Int32) (u : wg_S) => r = nI (wg_bt (I 0 k) n (wg_len (I 0 k)) a) ∧ (∀ j, ¬ j = 12 → u j = I j) ∧ (∀ k, k < 169 → u 12 k ≤ 24) ∧ (∀ x i, x ≤ wg_len (I 0 k) → i ≤ a → u 12 (x * 13 + i) = wg_bt (I 0 k) n x i)) (fun (u : wg_S) t => va_P D wg_cl (wg_WX cJ cI h0 ad u) t.heap) (va_A (wg_WX cJ cI h0 ad I) sz)) 0 0 (va_A (wg_WX cJ cI h0 ad I) sz) := by
  refine wg_head (Wd := (fun I => wg_WX cJ cI h0 ad I)) (I := I) (fun A => va_Qi (fun (r : Int32) (u : wg_S) => r = nI (wg_bt (I 0 k) n (wg_len (I 0 k)) a) ∧ (∀ j, ¬ j = 12 → u j = I j) ∧ (∀ k, k < 169 → u 12 k ≤ 24) ∧ (∀ x i, x ≤ wg_len (I 0 k) → i ≤ a → u 12 (x * 13 + i) = wg_bt (I 0 k) n x i)) (fun (u : wg_S) t => va_P D wg_cl (wg_WX cJ cI h0 ad u) t.heap) A) R_X (by decide) rfl (Nat.le_of_ble_eq_true rfl) (fun I J => wg_same_X I J) ?_
  intro p e s m below meth c A ls hx hb hr hlk hml hown hnm hts hA hK hD hP hS hl hsz
  clear hsz
  have hl : lv_has ls 7 [(0, .ref h0), (1, .int (nI k)), (2, .int (nI f)), (3, .long (lN n)), (5, .int (nI a))] := hl
  have hP : va_P D wg_cl (wg_WX cJ cI h0 ad I) s.heap := hP
  skip
  have hI' := hI
  obtain ⟨hn, hse, hc, hrc, hso, hw, hL, hF, hF1, hNW, hNL, hT, hWF, hNO⟩ := hI'
  refine lv_iload_n hx hb d_X_farOfWord_0 rfl (lv_at hl 2 rfl) ?_
  refine lv_istore (lv' := [(6, .int (nI f)), (0, .ref h0), (1, .int (nI k)), (2, .int (nI f)), (3, .long (lN n)), (5, .int (nI a))]) hx hb d_X_farOfWord_1 hl (by decide) rfl (fun ls hl => ?_)
  refine wg_loop (fun row _ _ J H locs ls => (1 ≤ row ∧ row ≤ 13) ∧ (∀ j, ¬ j = 12 → J j = I j) ∧ (∀ k, k < 169 → J 12 k ≤ 24) ∧ (∀ x i, x < row → i ≤ a → J 12 (x * 13 + i) = wg_bt (I 0 k) n x i) ∧ va_P D wg_cl (wg_WX cJ cI h0 ad J) H ∧ va_S A s.heap H locs ∧ lv_has ls 7 [(0, .ref h0), (1, .int (nI k)), (3, .long (lN n)), (5, .int (nI a)), (6, .int (nI row))]) (fun row _ _ J => 13 - row) (fun row _z0 _z1 J H locs ls hI ih3 => ?_) f 0 0 I _ _ _ ⟨(by omega), (fun _ _ => rfl), hT, hrs, hP, hS, lv_sub hl [1, 2, 4, 5, 0] rfl⟩
  obtain ⟨hrow, hJo, hJT, hrw, hP, hS, hl⟩ := hI
  have hJ := wg_XI_12 hI hJo hJT
  have hJ' := hJ
  clear hn hse hc hrc hso hw hL hF hF1 hNW hNL hT hWF hNO
  obtain ⟨hn, hse, hc, hrc, hso, hw, hL, hF, hF1, hNW, hNL, hT, hWF, hNO⟩ := hJ'
  have hJ0 : J 0 = I 0 := hJo 0 (by decide)
  have hJ1 : J 1 k = wg_len (I 0 k) := by rw [hJo 1 (by decide)]; exact hLk
  refine lv_iload hx hb d_X_farOfWord_3 (lv_at hl 4 rfl) ?_
  refine lv_aload_n hx hb d_X_farOfWord_5 rfl (lv_at hl 0 rfl) ?_
  refine wg_gX hx hb hts hown hK hP 1 (by decide) (v := .ref (ad 1)) kf_X_13 rfl d_X_farOfWord_6 ?_
  refine lv_iload_n hx hb d_X_farOfWord_9 rfl (lv_at hl 1 rfl) ?_
  refine wg_ild (f := J 1) (j := k) hx hb hK hP 2 rfl (by omega) (by decide) d_X_farOfWord_10 ?_
  have hB10 := hL k (by omega)
  refine lv_icmp_gt (tgt := 42) hx hb d_X_farOfWord_11 (by decide) (fun h11 => ?_) (fun h11 => ?_)
  · rw [nI_ltI (by omega) (by omega)] at h11
    refine lv_aload_n hx hb d_X_farOfWord_42 rfl (lv_at hl 0 rfl) ?_
    refine wg_gX hx hb hts hown hK hP 12 (by decide) (v := .ref (ad 12)) kf_X_35 rfl d_X_farOfWord_43 ?_
    refine lv_aload_n hx hb d_X_farOfWord_46 rfl (lv_at hl 0 rfl) ?_
    refine wg_gX hx hb hts hown hK hP 1 (by decide) (v := .ref (ad 1)) kf_X_13 rfl d_X_farOfWord_47 ?_
    refine lv_iload_n hx hb d_X_farOfWord_50 rfl (lv_at hl 1 rfl) ?_
    refine wg_ild (f := J 1) (j := k) hx hb hK hP 2 rfl (by omega) (by decide) d_X_farOfWord_51 ?_
    have hB51 := hL k (by omega)
    refine lv_bipush (v := (nI 13)) hx hb d_X_farOfWord_52 (by decide +kernel) ?_
    refine t_imul (v := nI ((J 1 k) * 13)) hx hb d_X_farOfWord_54 (pk_mul _ _) ?_
    refine lv_iload hx hb d_X_farOfWord_55 (lv_at hl 3 rfl) ?_
    refine t_iadd (v := nI (((J 1 k) * 13) + a)) hx hb d_X_farOfWord_57 (nI_add _ _) ?_
    refine wg_ild (f := J 12) (j := (((J 1 k) * 13) + a)) hx hb hK hP 9 rfl (by omega) (by decide) d_X_farOfWord_58 ?_
    have hB58 := hT (((J 1 k) * 13) + a) (by omega)
    exact W.iret (v := (nI (J 12 (((J 1 k) * 13) + a)))) hx hb hr (fun tt hth hW => ⟨⟨_, J, rfl, ⟨by rw [hJ1, hrw _ _ (by omega) (Nat.le_refl _)], hJo, hJT, fun x i h1 h2 => hrw x i (by omega) h2⟩, wg_h hth hP⟩, hS.F hth⟩) hS.2.2 d_X_farOfWord_59
  · rw [nI_ltI (by omega) (by omega)] at h11
    refine lv_aload_n hx hb d_X_farOfWord_14 rfl (lv_at hl 0 rfl) ?_
    refine lv_iload hx hb d_X_farOfWord_15 (lv_at hl 4 rfl) ?_
    refine lv_aload_n hx hb d_X_farOfWord_17 rfl (lv_at hl 0 rfl) ?_
    refine wg_gX hx hb hts hown hK hP 0 (by decide) (v := .ref (ad 0)) kf_X_9 rfl d_X_farOfWord_18 ?_
    refine lv_iload_n hx hb d_X_farOfWord_21 rfl (lv_at hl 1 rfl) ?_
    refine wg_lld (f := J 0) (j := k) hx hb hK hP 1 rfl (by omega) (by decide) d_X_farOfWord_22 ?_
    have hB22 := hw k (by omega)
    refine lv_iload hx hb d_X_farOfWord_23 (lv_at hl 4 rfl) ?_
    refine lv_iconst (v := (nI 1)) hx hb d_X_farOfWord_25 (by decide +kernel) ?_
    refine t_isub (v := nI (row - 1)) hx hb d_X_farOfWord_26 (pk_sub (by omega)) ?_
    refine wg_csi (As := [.long (lN (J 0 k)), .int (nI (row - 1))]) (rest := [.int (nI row), .ref h0]) hx hb hml hown hts hK hP hS hA (c_X_letterAt l D cJ cI _ (J 0 k) (row - 1) (by omega) (by omega)) kc_X_91 ⟨rfl, rfl⟩ ⟨Nat.le_of_ble_eq_true rfl, Nat.le_of_ble_eq_true rfl⟩ rfl hl.1 rfl (Nat.le_of_ble_eq_true rfl) d_X_farOfWord_27 ⟨Nat.zero_le _, Nat.zero_le _⟩ (fun r H locs q27 hP hS => ?_)
    obtain rfl := q27
    have hq27 := wg_la_le (J 0 k) (row - 1)
    refine lv_lload_n hx hb d_X_farOfWord_30 rfl (lv_at hl 2 rfl) ?_
    refine lv_iload hx hb d_X_farOfWord_31 (lv_at hl 3 rfl) ?_
    refine wg_cvv (As := [.int (nI row), .int (nI (wg_la (J 0 k) (row - 1))), .long (lN n), .int (nI a)]) (rest := []) hx hb hml hown hts hK hP (hD _) hS hA rfl rfl rfl (c_X_fillRow l D cJ cI h0 ad _ J row (wg_la (J 0 k) (row - 1)) n a (I 0 k) (by omega) (by omega) hn64 ha hT (by rw [hJ0, wg_la_lt (by omega)]) (fun i h => by rw [show row * 13 - 13 + i = (row - 1) * 13 + i by omega]; exact hrw _ _ (by omega) h)) kc_X_130 ⟨rfl, rfl⟩ ⟨Nat.le_of_ble_eq_true rfl, Nat.le_of_ble_eq_true rfl⟩ rfl hl.1 rfl (Nat.le_of_ble_eq_true rfl) d_X_farOfWord_33 ⟨Nat.zero_le _, Nat.zero_le _⟩ (fun u33 tt H locs ht q33 hB _ _ hS => ?_)
    have hP : va_P D wg_cl (wg_WX cJ cI h0 ad u33) H := by rw [← ht]; exact hB
    clear hB ht tt
    obtain ⟨hq33a, hq33b, hq33c, hq33d⟩ := q33
    refine lv_iinc (v := nI (row + 1)) (k := 4) (lv' := [(6, .int (nI (row + 1))), (0, .ref h0), (1, .int (nI k)), (3, .long (lN n)), (5, .int (nI a))]) hx hb d_X_farOfWord_36 hl rfl (nI_1 _) (by decide) rfl (fun ls hl => ?_)
    refine lv_goto (tgt := 3) hx hb d_X_farOfWord_39 (by decide) ?_
    exact ih3 (row + 1) 0 0 u33 _ _ _ ⟨(by omega), (fun j h => (hq33a j h).trans (hJo j h)), hq33b, (fun x i h1 h2 => by rcases Nat.lt_succ_iff_lt_or_eq.mp h1 with h | rfl; exact (hq33d _ (by omega)).trans (hrw x i h h2); exact hq33c i h2), hP, hS, lv_sub hl [1, 2, 3, 4, 0] rfl⟩ (by omega)
set_option maxHeartbeats 4000000 in
set_option maxRecDepth 100000 in
theorem c_X_measureAll (l : Launch) (D : va_G) (cJ cI : ClassId) (h0 : Nat) (ad : Nat → Nat) (sz : Nat) (I : wg_S) (n : Nat) (hn64 : n < 2 ^ 64) (hI : wg_XI I) (hXF : wg_XF I) : Met l y_X_measureAll (wg_ws y_X_measureAll b_X_measureAll 5 none) ({ frames := 3, cells := 0, slots := 0, locals := 78 }) (va_Pc [.ref h0, .long (lN n)] (wg_Pc D cJ cI (wg_WX cJ cI h0 ad I) sz)) (va_Qv (fun (u : wg_S) => (∀ j, ¬ j = 12 → ¬ j = 13 → u j = I j) ∧ (∀ k, k < 169 → u 12 k ≤ 24) ∧ (∀ k, k < 48 → u 13 k ≤ 24) ∧ (∀ k, k < I 3 0 → u 13 k = wg_bt (I 0 k) n (wg_len (I 0 k)) (wg_len n))) (fun (u : wg_S) t => va_P D wg_cl (wg_WX cJ cI h0 ad u) t.heap) (va_A (wg_WX cJ cI h0 ad I) sz)) 0 0 (va_A (wg_WX cJ cI h0 ad I) sz) := by
  refine wg_head (Wd := (fun I => wg_WX cJ cI h0 ad I)) (I := I) (fun A => va_Qv (fun (u : wg_S) => (∀ j, ¬ j = 12 → ¬ j = 13 → u j = I j) ∧ (∀ k, k < 169 → u 12 k ≤ 24) ∧ (∀ k, k < 48 → u 13 k ≤ 24) ∧ (∀ k, k < I 3 0 → u 13 k = wg_bt (I 0 k) n (wg_len (I 0 k)) (wg_len n))) (fun (u : wg_S) t => va_P D wg_cl (wg_WX cJ cI h0 ad u) t.heap) A) R_X (by decide) rfl (Nat.le_of_ble_eq_true rfl) (fun I J => wg_same_X I J) ?_
  intro p e s m below meth c A ls hx hb hr hlk hml hown hnm hts hA hK hD hP hS hl hsz
  clear hsz
  have hl : lv_has ls 5 [(0, .ref h0), (1, .long (lN n))] := hl
  have hP : va_P D wg_cl (wg_WX cJ cI h0 ad I) s.heap := hP
  skip
  have hI' := hI
  obtain ⟨hn, hse, hc, hrc, hso, hw, hL, hF, hF1, hNW, hNL, hT, hWF, hNO⟩ := hI'
  refine lv_lload_n hx hb d_X_measureAll_0 rfl (lv_at hl 1 rfl) ?_
  refine wg_csi (As := [.long (lN n)]) (rest := []) hx hb hml hown hts hK hP hS hA (c_X_lengthOf l D cJ cI _ n (by omega)) kc_X_56 ⟨rfl, rfl⟩ ⟨Nat.le_of_ble_eq_true rfl, Nat.le_of_ble_eq_true rfl⟩ rfl hl.1 rfl (Nat.le_of_ble_eq_true rfl) d_X_measureAll_1 ⟨Nat.zero_le _, Nat.zero_le _⟩ (fun r H locs q1 hP hS => ?_)
  obtain rfl := q1
  have hq1 := wg_len_le n
  refine lv_istore_n (lv' := [(3, .int (nI (wg_len n))), (0, .ref h0), (1, .long (lN n))]) hx hb d_X_measureAll_4 rfl hl (by decide) rfl (fun ls hl => ?_)
  refine lv_aload_n hx hb d_X_measureAll_5 rfl (lv_at hl 1 rfl) ?_
  refine lv_iload_n hx hb d_X_measureAll_6 rfl (lv_at hl 0 rfl) ?_
  refine wg_cvv (As := [.int (nI (wg_len n))]) (rest := []) hx hb hml hown hts hK hP (hD _) hS hA rfl rfl rfl (c_X_fillFirstRow l D cJ cI h0 ad _ I (wg_len n) (by omega) hT) kc_X_95 ⟨rfl, rfl⟩ ⟨Nat.le_of_ble_eq_true rfl, Nat.le_of_ble_eq_true rfl⟩ rfl hl.1 rfl (Nat.le_of_ble_eq_true rfl) d_X_measureAll_7 ⟨Nat.zero_le _, Nat.zero_le _⟩ (fun u7 tt H locs ht q7 hB _ _ hS => ?_)
  have hP : va_P D wg_cl (wg_WX cJ cI h0 ad u7) H := by rw [← ht]; exact hB
  clear hB ht tt
  obtain ⟨hq7a, hq7b, hq7c⟩ := q7
  refine lv_iconst (v := (nI 0)) hx hb d_X_measureAll_10 (by decide +kernel) ?_
  refine lv_istore (lv' := [(4, .int (nI 0)), (3, .int (nI (wg_len n))), (0, .ref h0), (1, .long (lN n))]) hx hb d_X_measureAll_11 hl (by decide) rfl (fun ls hl => ?_)
  refine wg_loop (fun k _ _ J H locs ls => (k ≤ 48) ∧ (∀ j, ¬ j = 12 → ¬ j = 13 → J j = I j) ∧ (∀ k, k < 169 → J 12 k ≤ 24) ∧ (∀ k, k < 48 → J 13 k ≤ 24) ∧ (∀ i, i ≤ wg_len n → J 12 i = i) ∧ (0 < k → k ≤ I 3 0 → ∀ x i, x ≤ wg_len (I 0 (k - 1)) → i ≤ wg_len n → J 12 (x * 13 + i) = wg_bt (I 0 (k - 1)) n x i) ∧ (∀ j, j < k → j < I 3 0 → J 13 j = wg_bt (I 0 j) n (wg_len (I 0 j)) (wg_len n)) ∧ va_P D wg_cl (wg_WX cJ cI h0 ad J) H ∧ va_S A s.heap H locs ∧ lv_has ls 5 [(0, .ref h0), (1, .long (lN n)), (3, .int (nI (wg_len n))), (4, .int (nI k))]) (fun k _ _ J => 48 - k) (fun k _z0 _z1 J H locs ls hI ih13 => ?_) 0 0 0 u7 _ _ _ ⟨(by omega), (fun j h _ => hq7a j h), hq7b, (by rw [hq7a 13 (by decide)]; exact hWF), hq7c, (fun h => absurd h (by omega)), (fun j h => absurd h (by omega)), hP, hS, lv_sub hl [2, 3, 1, 0] rfl⟩
  obtain ⟨hk, hJo, hJT, hJW, hr0, hrp, hWd, hP, hS, hl⟩ := hI
  have hJ := wg_XI_f hI hJo hJT hJW
  have hJ' := hJ
  clear hn hse hc hrc hso hw hL hF hF1 hNW hNL hT hWF hNO
  obtain ⟨hn, hse, hc, hrc, hso, hw, hL, hF, hF1, hNW, hNL, hT, hWF, hNO⟩ := hJ'
  have hJ0 : J 0 = I 0 := hJo 0 (by decide) (by decide)
  have hJ1 : J 1 = I 1 := hJo 1 (by decide) (by decide)
  have hJ2 : J 2 = I 2 := hJo 2 (by decide) (by decide)
  have hJ3 : J 3 0 = I 3 0 := by rw [hJo 3 (by decide) (by decide)]
  refine lv_iload hx hb d_X_measureAll_13 (lv_at hl 3 rfl) ?_
  refine lv_aload_n hx hb d_X_measureAll_15 rfl (lv_at hl 0 rfl) ?_
  refine wg_gX hx hb hts hown hK hP 3 (by decide) (v := .int (nI (J 3 0))) kf_X_52 rfl d_X_measureAll_16 ?_
  refine lv_icmp_ge (tgt := 54) hx hb d_X_measureAll_19 (by decide) (fun h19 => ?_) (fun h19 => ?_)
  · rw [nI_leI (by omega) (by omega)] at h19
    exact W.vret hx hb hr (fun tt hth hW => ⟨⟨J, rfl, ⟨hJo, hJT, hJW, fun j h => hWd j (by omega) h⟩, wg_h hth hP⟩, hS.F hth⟩) hS.2.2 d_X_measureAll_54
  · rw [nI_leI (by omega) (by omega)] at h19
    have hLk : J 1 k = wg_len (J 0 k) := by rw [hJ0, hJ1]; exact (hXF.1 k (by omega)).2
    have hrs : ∀ x i, x < max (J 2 k) 1 → i ≤ wg_len n → J 12 (x * 13 + i) = wg_bt (J 0 k) n x i := by
      intro x i h1 h2
      rw [hJ2] at h1
      rw [hJ0]
      by_cases hz : k = 0
      · subst hz
        have h20 := hXF.2.1 (by omega)
        rw [show x = 0 by omega, wg_bt_0, show 0 * 13 + i = i by omega]
        exact hr0 i h2
      · obtain ⟨g1, g2⟩ := hXF.2.2 k (by omega) (by omega)
        exact wg_rows_prev (hXF.1 (k - 1) (by omega)).1 (hXF.1 k (by omega)).1 (by omega) (hrp (by omega) (by omega)) (by omega) h2
    refine lv_aload_n hx hb d_X_measureAll_22 rfl (lv_at hl 0 rfl) ?_
    refine wg_gX hx hb hts hown hK hP 13 (by decide) (v := .ref (ad 13)) kf_X_38 rfl d_X_measureAll_23 ?_
    refine lv_iload hx hb d_X_measureAll_26 (lv_at hl 3 rfl) ?_
    refine lv_aload_n hx hb d_X_measureAll_28 rfl (lv_at hl 0 rfl) ?_
    refine lv_iload hx hb d_X_measureAll_29 (lv_at hl 3 rfl) ?_
    refine lv_aload_n hx hb d_X_measureAll_31 rfl (lv_at hl 0 rfl) ?_
    refine wg_gX hx hb hts hown hK hP 2 (by decide) (v := .ref (ad 2)) kf_X_17 rfl d_X_measureAll_32 ?_
    refine lv_iload hx hb d_X_measureAll_35 (lv_at hl 3 rfl) ?_
    refine wg_ild (f := J 2) (j := k) hx hb hK hP 3 rfl (by omega) (by decide) d_X_measureAll_37 ?_
    have hB37 := hF k (by omega)
    refine lv_iconst (v := (nI 1)) hx hb d_X_measureAll_38 (by decide +kernel) ?_
    refine va_mmax hx hb (by rw [hml]; exact hl.1.symm) hown (hts _ (wg_mmax_134).1) (hts _ (wg_mmax_134).2.1) (hts _ (wg_mmax_134).2.2.1) (hts _ (wg_mmax_134).2.2.2) (Nat.le_of_ble_eq_true rfl) (Nat.le_of_ble_eq_true rfl) (Nat.zero_le _) (Nat.zero_le _) d_X_measureAll_39 ?_
    rw [wg_max (by omega) (by omega)]
    refine lv_lload_n hx hb d_X_measureAll_42 rfl (lv_at hl 1 rfl) ?_
    refine lv_iload_n hx hb d_X_measureAll_43 rfl (lv_at hl 2 rfl) ?_
    refine wg_cvi (As := [.int (nI k), .int (nI (max (J 2 k) 1)), .long (lN n), .int (nI (wg_len n))]) (rest := [.int (nI k), .ref (ad 13)]) hx hb hml hown hts hK hP (hD _) hS hA rfl rfl rfl (c_X_farOfWord l D cJ cI h0 ad _ J k (max (J 2 k) 1) n (wg_len n) (by omega) (by omega) hn64 (by omega) hJ hLk hrs) kc_X_98 ⟨rfl, rfl⟩ ⟨Nat.le_of_ble_eq_true rfl, Nat.le_of_ble_eq_true rfl⟩ rfl hl.1 rfl (Nat.le_of_ble_eq_true rfl) d_X_measureAll_44 ⟨Nat.zero_le _, Nat.zero_le _⟩ (fun r u44 tt H locs ht q44 hB _ _ hS => ?_)
    have hP : va_P D wg_cl (wg_WX cJ cI h0 ad u44) H := by rw [← ht]; exact hB
    clear hB ht tt
    obtain ⟨rfl, hq44a, hq44b, hq44c⟩ := q44
    have hb44 := wg_bt_le (J 0 k) n (wg_len (J 0 k)) (wg_len n)
    have hb45 := wg_len_le (J 0 k)
    refine wg_sX13 (j := k) (x := (wg_bt (J 0 k) n (wg_len (J 0 k)) (wg_len n))) hx hb hK hP hD hS (by omega) d_X_measureAll_47 (fun H locs hP hS => ?_)
    refine lv_iinc (v := nI (k + 1)) (k := 3) (lv' := [(4, .int (nI (k + 1))), (0, .ref h0), (1, .long (lN n)), (3, .int (nI (wg_len n)))]) hx hb d_X_measureAll_48 hl rfl (nI_1 _) (by decide) rfl (fun ls hl => ?_)
    refine lv_goto (tgt := 13) hx hb d_X_measureAll_51 (by decide) ?_
    exact ih13 (k + 1) 0 0 (wg_st u44 13 k (wg_bt (J 0 k) n (wg_len (J 0 k)) (wg_len n))) _ _ _ ⟨(by omega), (fun j h1 h2 => (wg_st_o _ _ _ _ h2).trans ((hq44a j h1).trans (hJo j h1 h2))), hq44b, (wg_st_b (by rw [hq44a 13 (by decide)]; exact hJW) (by omega)), (fun i h => by have := hq44c 0 i (Nat.zero_le _) h; rw [wg_bt_0, show 0 * 13 + i = i by omega] at this; exact this), (fun _ _ => by rw [show k + 1 - 1 = k by omega, ← hJ0]; exact hq44c), (fun j h h2 => by rcases Nat.lt_succ_iff_lt_or_eq.mp h with h | rfl; exact (wg_st_n _ _ _ _ (by omega)).trans (by rw [hq44a 13 (by decide)]; exact hWd j h h2); exact (wg_st_s _ _ _ _).trans (by rw [hJ0])), hP, hS, lv_sub hl [1, 2, 3, 0] rfl⟩ (by omega)
set_option maxHeartbeats 4000000 in
set_option maxRecDepth 100000 in
theorem c_X_takeResults (l : Launch) (D : va_G) (cJ cI : ClassId) (h0 : Nat) (ad : Nat → Nat) (sz : Nat) (I : wg_S) (ee : Nat) (he : ee < 2 ^ 20) (h3 : I 3 0 ≤ 48) (hcnt : I 11 0 = wg_ct (I 13) ee (I 3 0)) (hWF : ∀ k, k < 48 → I 13 k ≤ 24) (hRS : wg_RS (I 13) (I 3 0) (I 9) (I 10) ee 0) : Met l y_X_takeResults (wg_ws y_X_takeResults b_X_takeResults 3 none) ({ frames := 0, cells := 0, slots := 0, locals := 0 }) (va_Pc [.ref h0, .int (nI ee)] (wg_Pc D cJ cI (wg_WX cJ cI h0 ad I) sz)) (va_Qv (fun (u : wg_S) => (∀ j, ¬ j = 9 → ¬ j = 10 → ¬ j = 11 → u j = I j) ∧ u 11 0 = wg_ct (I 13) (ee + 1) (I 3 0) ∧ wg_RS (I 13) (I 3 0) (u 9) (u 10) (ee + 1) 0) (fun (u : wg_S) t => va_P D wg_cl (wg_WX cJ cI h0 ad u) t.heap) (va_A (wg_WX cJ cI h0 ad I) sz)) 0 0 (va_A (wg_WX cJ cI h0 ad I) sz) := by
  refine wg_head (Wd := (fun I => wg_WX cJ cI h0 ad I)) (I := I) (fun A => va_Qv (fun (u : wg_S) => (∀ j, ¬ j = 9 → ¬ j = 10 → ¬ j = 11 → u j = I j) ∧ u 11 0 = wg_ct (I 13) (ee + 1) (I 3 0) ∧ wg_RS (I 13) (I 3 0) (u 9) (u 10) (ee + 1) 0) (fun (u : wg_S) t => va_P D wg_cl (wg_WX cJ cI h0 ad u) t.heap) A) R_X (by decide) rfl (Nat.le_of_ble_eq_true rfl) (fun I J => wg_same_X I J) ?_
  intro p e s m below meth c A ls hx hb hr hlk hml hown hnm hts hA hK hD hP hS hl hsz
  clear hsz
  have hl : lv_has ls 3 [(0, .ref h0), (1, .int (nI ee))] := hl
  have hP : va_P D wg_cl (wg_WX cJ cI h0 ad I) s.heap := hP
  skip
  refine lv_iconst (v := (nI 0)) hx hb d_X_takeResults_0 (by decide +kernel) ?_
  refine lv_istore_n (lv' := [(2, .int (nI 0)), (0, .ref h0), (1, .int (nI ee))]) hx hb d_X_takeResults_1 rfl hl (by decide) rfl (fun ls hl => ?_)
  refine wg_loop (fun k _ _ J H locs ls => (k ≤ I 3 0) ∧ (∀ j, ¬ j = 9 → ¬ j = 10 → ¬ j = 11 → J j = I j) ∧ (J 11 0 = wg_ct (I 13) ee (I 3 0) + wg_cq (I 13) ee k) ∧ (wg_RS (I 13) (I 3 0) (J 9) (J 10) ee k) ∧ va_P D wg_cl (wg_WX cJ cI h0 ad J) H ∧ va_S A s.heap H locs ∧ lv_has ls 3 [(0, .ref h0), (1, .int (nI ee)), (2, .int (nI k))]) (fun k _ _ J => 48 - k) (fun k _z0 _z1 J H locs ls hI ih2 => ?_) 0 0 0 I _ _ _ ⟨(by omega), (fun _ _ _ _ => rfl), hcnt, hRS, hP, hS, lv_sub hl [1, 2, 0] rfl⟩
  obtain ⟨hk, hJo, hJc, hJR, hP, hS, hl⟩ := hI
  have hJ3 : J 3 0 = I 3 0 := by rw [hJo 3 (by decide) (by decide) (by decide)]
  have hJ13 : J 13 = I 13 := hJo 13 (by decide) (by decide) (by decide)
  have hJW : ∀ k, k < 48 → J 13 k ≤ 24 := by rw [hJ13]; exact hWF
  refine lv_iload_n hx hb d_X_takeResults_2 rfl (lv_at hl 2 rfl) ?_
  refine lv_aload_n hx hb d_X_takeResults_3 rfl (lv_at hl 0 rfl) ?_
  refine wg_gX hx hb hts hown hK hP 3 (by decide) (v := .int (nI (J 3 0))) kf_X_52 rfl d_X_takeResults_4 ?_
  refine lv_icmp_ge (tgt := 56) hx hb d_X_takeResults_7 (by decide) (fun h7 => ?_) (fun h7 => ?_)
  · rw [nI_leI (by omega) (by omega)] at h7
    have hkk : k = I 3 0 := by omega
    exact W.vret hx hb hr (fun tt hth hW => ⟨⟨J, rfl, ⟨hJo, by rw [hJc, hkk, wg_ct_s], wg_RS_n (by rw [hkk] at hJR; exact hJR)⟩, wg_h hth hP⟩, hS.F hth⟩) hS.2.2 d_X_takeResults_56
  · rw [nI_leI (by omega) (by omega)] at h7
    refine lv_aload_n hx hb d_X_takeResults_10 rfl (lv_at hl 0 rfl) ?_
    refine wg_gX hx hb hts hown hK hP 13 (by decide) (v := .ref (ad 13)) kf_X_38 rfl d_X_takeResults_11 ?_
    refine lv_iload_n hx hb d_X_takeResults_14 rfl (lv_at hl 2 rfl) ?_
    refine wg_ild (f := J 13) (j := k) hx hb hK hP 10 rfl (by omega) (by decide) d_X_takeResults_15 ?_
    have hB15 := hJW k (by omega)
    refine lv_iload_n hx hb d_X_takeResults_16 rfl (lv_at hl 1 rfl) ?_
    refine lv_icmp_ne (tgt := 50) hx hb d_X_takeResults_17 (by decide) (fun h17 => ?_) (fun h17 => ?_)
    · rw [nI_eq (by omega) (by omega)] at h17
      rw [hJ13] at h17
      refine lv_iinc (v := nI (k + 1)) (k := 2) (lv' := [(2, .int (nI (k + 1))), (0, .ref h0), (1, .int (nI ee))]) hx hb d_X_takeResults_50 hl rfl (nI_1 _) (by decide) rfl (fun ls hl => ?_)
      refine lv_goto (tgt := 2) hx hb d_X_takeResults_53 (by decide) ?_
      exact ih2 (k + 1) 0 0 J _ _ _ ⟨(by omega), (by first | exact hJo | exact fun j h1 h2 h3 => (wg_st_o _ _ _ _ h3).trans ((wg_st_o _ _ _ _ h2).trans ((wg_st_o _ _ _ _ h1).trans (hJo j h1 h2 h3)))), (by first | (show J 11 0 + 1 = _; rw [wg_cq_t h17]; omega) | (rw [wg_cq_f h17]; exact hJc)), (by first | exact wg_RS_f hJR h17 | exact wg_RS_t (A' := wg_st J 9 (J 11 0) k 9) (B' := wg_st J 10 (J 11 0) ee 10) hJR (by omega) h17 (fun x h => by rw [← hJc] at h; exact wg_st_n _ _ _ _ h) (fun x h => by rw [← hJc] at h; exact wg_st_n _ _ _ _ h) (by rw [← hJc]; exact wg_st_s _ _ _ _) (by rw [← hJc]; exact wg_st_s _ _ _ _)), hP, hS, lv_sub hl [1, 2, 0] rfl⟩ (by omega)
    · rw [nI_eq (by omega) (by omega)] at h17
      rw [hJ13] at h17
      have hcl := wg_cc_lt (n := I 3 0) (by omega) h17
      refine lv_aload_n hx hb d_X_takeResults_20 rfl (lv_at hl 0 rfl) ?_
      refine wg_gX hx hb hts hown hK hP 9 (by decide) (v := .ref (ad 9)) kf_X_29 rfl d_X_takeResults_21 ?_
      refine lv_aload_n hx hb d_X_takeResults_24 rfl (lv_at hl 0 rfl) ?_
      refine wg_gX hx hb hts hown hK hP 11 (by decide) (v := .int (nI (J 11 0))) kf_X_75 rfl d_X_takeResults_25 ?_
      refine lv_iload_n hx hb d_X_takeResults_28 rfl (lv_at hl 2 rfl) ?_
      refine wg_sX9 (j := (J 11 0)) (x := k) hx hb hK hP hD hS (by omega) d_X_takeResults_29 (fun H locs hP hS => ?_)
      refine lv_aload_n hx hb d_X_takeResults_30 rfl (lv_at hl 0 rfl) ?_
      refine wg_gX hx hb hts hown hK hP 10 (by decide) (v := .ref (ad 10)) kf_X_32 rfl d_X_takeResults_31 ?_
      refine lv_aload_n hx hb d_X_takeResults_34 rfl (lv_at hl 0 rfl) ?_
      refine wg_gX hx hb hts hown hK hP 11 (by decide) (v := .int (nI (J 11 0))) kf_X_75 rfl d_X_takeResults_35 ?_
      refine lv_iload_n hx hb d_X_takeResults_38 rfl (lv_at hl 1 rfl) ?_
      refine wg_sX10 (j := (J 11 0)) (x := ee) hx hb hK hP hD hS (by omega) d_X_takeResults_39 (fun H locs hP hS => ?_)
      refine lv_aload_n hx hb d_X_takeResults_40 rfl (lv_at hl 0 rfl) ?_
      refine lv_dup hx hb d_X_takeResults_41 rfl ?_
      refine wg_gX hx hb hts hown hK hP 11 (by decide) (v := .int (nI (J 11 0))) kf_X_75 rfl d_X_takeResults_42 ?_
      refine lv_iconst (v := (nI 1)) hx hb d_X_takeResults_45 (by decide +kernel) ?_
      refine t_iadd (v := nI ((J 11 0) + 1)) hx hb d_X_takeResults_46 (nI_add _ _) ?_
      refine wg_pX11 (v := ((J 11 0) + 1)) hx hb hts hown hK hP hD hS kf_X_75 d_X_takeResults_47 (fun H locs hP hS => ?_)
      refine lv_iinc (v := nI (k + 1)) (k := 2) (lv' := [(2, .int (nI (k + 1))), (0, .ref h0), (1, .int (nI ee))]) hx hb d_X_takeResults_50 hl rfl (nI_1 _) (by decide) rfl (fun ls hl => ?_)
      refine lv_goto (tgt := 2) hx hb d_X_takeResults_53 (by decide) ?_
      exact ih2 (k + 1) 0 0 (wg_st (wg_st (wg_st J 9 (J 11 0) k) 10 (J 11 0) ee) 11 0 ((J 11 0) + 1)) _ _ _ ⟨(by omega), (by first | exact hJo | exact fun j h1 h2 h3 => (wg_st_o _ _ _ _ h3).trans ((wg_st_o _ _ _ _ h2).trans ((wg_st_o _ _ _ _ h1).trans (hJo j h1 h2 h3)))), (by first | (show J 11 0 + 1 = _; rw [wg_cq_t h17]; omega) | (rw [wg_cq_f h17]; exact hJc)), (by first | exact wg_RS_f hJR h17 | exact wg_RS_t (A' := wg_st J 9 (J 11 0) k 9) (B' := wg_st J 10 (J 11 0) ee 10) hJR (by omega) h17 (fun x h => by rw [← hJc] at h; exact wg_st_n _ _ _ _ h) (fun x h => by rw [← hJc] at h; exact wg_st_n _ _ _ _ h) (by rw [← hJc]; exact wg_st_s _ _ _ _) (by rw [← hJc]; exact wg_st_s _ _ _ _)), hP, hS, lv_sub hl [1, 2, 0] rfl⟩ (by omega)
set_option maxHeartbeats 4000000 in
set_option maxRecDepth 100000 in
theorem c_X_search (l : Launch) (D : va_G) (cJ cI : ClassId) (h0 : Nat) (ad : Nat → Nat) (sz : Nat) (I : wg_S) (n : Nat) (d : Int32) (hn64 : n < 2 ^ 64) (hI : wg_XI I) (hXF : wg_XF I) : Met l y_X_search (wg_ws y_X_search b_X_search 5 (some .int)) ({ frames := 4, cells := 0, slots := 0, locals := 102 }) (va_Pc [.ref h0, .long (lN n), .int d] (wg_Pc D cJ cI (wg_WX cJ cI h0 ad I) sz)) (va_Qi (fun (r : Int32) (u : wg_S) => (I 4 0 = 0 ∧ r = -1 ∧ u = I) ∨ (¬ I 4 0 = 0 ∧ ¬ (wg_ok n ∧ ∃ dn, dn ≤ 3 ∧ d = nI dn) ∧ r = -2 ∧ u = I) ∨ (¬ I 4 0 = 0 ∧ wg_ok n ∧ ∃ dn, dn ≤ 3 ∧ d = nI dn ∧ r = nI (u 11 0) ∧ u 11 0 = wg_ct (fun k => wg_bt (I 0 k) n (wg_len (I 0 k)) (wg_len n)) (dn + 1) (I 3 0) ∧ wg_RS (fun k => wg_bt (I 0 k) n (wg_len (I 0 k)) (wg_len n)) (I 3 0) (u 9) (u 10) (dn + 1) 0 ∧ wg_XI u ∧ (∀ j, j < 9 → u j = I j))) (fun (u : wg_S) t => va_P D wg_cl (wg_WX cJ cI h0 ad u) t.heap) (va_A (wg_WX cJ cI h0 ad I) sz)) 0 0 (va_A (wg_WX cJ cI h0 ad I) sz) := by
  refine wg_head (Wd := (fun I => wg_WX cJ cI h0 ad I)) (I := I) (fun A => va_Qi (fun (r : Int32) (u : wg_S) => (I 4 0 = 0 ∧ r = -1 ∧ u = I) ∨ (¬ I 4 0 = 0 ∧ ¬ (wg_ok n ∧ ∃ dn, dn ≤ 3 ∧ d = nI dn) ∧ r = -2 ∧ u = I) ∨ (¬ I 4 0 = 0 ∧ wg_ok n ∧ ∃ dn, dn ≤ 3 ∧ d = nI dn ∧ r = nI (u 11 0) ∧ u 11 0 = wg_ct (fun k => wg_bt (I 0 k) n (wg_len (I 0 k)) (wg_len n)) (dn + 1) (I 3 0) ∧ wg_RS (fun k => wg_bt (I 0 k) n (wg_len (I 0 k)) (wg_len n)) (I 3 0) (u 9) (u 10) (dn + 1) 0 ∧ wg_XI u ∧ (∀ j, j < 9 → u j = I j))) (fun (u : wg_S) t => va_P D wg_cl (wg_WX cJ cI h0 ad u) t.heap) A) R_X (by decide) rfl (Nat.le_of_ble_eq_true rfl) (fun I J => wg_same_X I J) ?_
  intro p e s m below meth c A ls hx hb hr hlk hml hown hnm hts hA hK hD hP hS hl hsz
  clear hsz
  have hl : lv_has ls 5 [(0, .ref h0), (1, .long (lN n)), (3, .int d)] := hl
  have hP : va_P D wg_cl (wg_WX cJ cI h0 ad I) s.heap := hP
  skip
  have hI' := hI
  obtain ⟨hn, hse, hc, hrc, hso, hw, hL, hF, hF1, hNW, hNL, hT, hWF, hNO⟩ := hI'
  refine lv_aload_n hx hb d_X_search_0 rfl (lv_at hl 0 rfl) ?_
  refine wg_gX hx hb hts hown hK hP 4 (by decide) (v := .int (nI (I 4 0))) kf_X_44 rfl d_X_search_1 ?_
  refine lv_if_ne (tgt := 9) hx hb d_X_search_4 (by decide) (fun h4 => ?_) (fun h4 => ?_)
  · rw [wg_z0 (by omega)] at h4
    refine lv_lload_n hx hb d_X_search_9 rfl (lv_at hl 1 rfl) ?_
    refine wg_csi (As := [.long (lN n)]) (rest := []) hx hb hml hown hts hK hP hS hA (c_X_isWord l D cJ cI _ n (by omega)) kc_X_48 ⟨rfl, rfl⟩ ⟨Nat.le_of_ble_eq_true rfl, Nat.le_of_ble_eq_true rfl⟩ rfl hl.1 rfl (Nat.le_of_ble_eq_true rfl) d_X_search_10 ⟨Nat.zero_le _, Nat.zero_le _⟩ (fun r H locs q10 hP hS => ?_)
    rcases q10 with ⟨rfl, hok10⟩ | ⟨rfl, hok10⟩
    · skip
      have hlt10 := hok10.1
      refine lv_if_eq (tgt := 25) hx hb d_X_search_13 (by decide) (fun h => absurd h (by decide +kernel)) (fun _ => ?_)
      refine lv_iload_n hx hb d_X_search_16 rfl (lv_at hl 2 rfl) ?_
      refine lv_if_lt (tgt := 25) hx hb d_X_search_17 (by decide) (fun h17 => ?_) (fun h17 => ?_)
      · refine lv_bipush (v := (-2)) hx hb d_X_search_25 (by decide +kernel) ?_
        exact W.iret (v := (-2)) hx hb hr (fun tt hth hW => ⟨⟨_, I, rfl, (Or.inr (Or.inl ⟨h4, by first | exact fun q => hok10 q.1 | exact fun q => wg_dno1 h17 q.2 | exact fun q => wg_dno2 h22 q.2, rfl, rfl⟩)), wg_h hth hP⟩, hS.F hth⟩) hS.2.2 d_X_search_27
      · refine lv_iload_n hx hb d_X_search_20 rfl (lv_at hl 2 rfl) ?_
        refine lv_iconst (v := (nI 3)) hx hb d_X_search_21 (by decide +kernel) ?_
        refine lv_icmp_le (tgt := 28) hx hb d_X_search_22 (by decide) (fun h22 => ?_) (fun h22 => ?_)
        · obtain ⟨dn, hdn, rfl⟩ := nI_of2 (n := 3) (by decide +kernel) h17 h22
          refine lv_aload_n hx hb d_X_search_28 rfl (lv_at hl 0 rfl) ?_
          refine lv_lload_n hx hb d_X_search_29 rfl (lv_at hl 1 rfl) ?_
          refine wg_cvv (As := [.long (lN n)]) (rest := []) hx hb hml hown hts hK hP (hD _) hS hA rfl rfl rfl (c_X_measureAll l D cJ cI h0 ad _ I n hn64 hI hXF) kc_X_102 ⟨rfl, rfl⟩ ⟨Nat.le_of_ble_eq_true rfl, Nat.le_of_ble_eq_true rfl⟩ rfl hl.1 rfl (Nat.le_of_ble_eq_true rfl) d_X_search_30 ⟨Nat.zero_le _, Nat.zero_le _⟩ (fun u30 tt H locs ht q30 hB _ _ hS => ?_)
          have hP : va_P D wg_cl (wg_WX cJ cI h0 ad u30) H := by rw [← ht]; exact hB
          clear hB ht tt
          obtain ⟨hq30a, hq30b, hq30c, hq30d⟩ := q30
          have h3 : u30 3 0 = I 3 0 := by rw [hq30a 3 (by decide) (by decide)]
          refine lv_aload_n hx hb d_X_search_33 rfl (lv_at hl 0 rfl) ?_
          refine lv_iconst (v := (nI 0)) hx hb d_X_search_34 (by decide +kernel) ?_
          refine wg_pX11 (v := 0) hx hb hts hown hK hP hD hS kf_X_75 d_X_search_35 (fun H locs hP hS => ?_)
          refine lv_iconst (v := (nI 0)) hx hb d_X_search_38 (by decide +kernel) ?_
          refine lv_istore (lv' := [(4, .int (nI 0)), (0, .ref h0), (1, .long (lN n)), (3, .int (nI dn))]) hx hb d_X_search_39 hl (by decide) rfl (fun ls hl => ?_)
          refine wg_loop (fun g _ _ J H locs ls => (g ≤ dn + 1) ∧ (∀ j, ¬ j = 9 → ¬ j = 10 → ¬ j = 11 → ¬ j = 12 → ¬ j = 13 → J j = I j) ∧ (J 11 0 = wg_ct (J 13) g (J 3 0)) ∧ (∀ k, k < 169 → J 12 k ≤ 24) ∧ (∀ k, k < 48 → J 13 k ≤ 24) ∧ (wg_RS (J 13) (J 3 0) (J 9) (J 10) g 0) ∧ (∀ k, k < I 3 0 → J 13 k = wg_bt (I 0 k) n (wg_len (I 0 k)) (wg_len n)) ∧ va_P D wg_cl (wg_WX cJ cI h0 ad J) H ∧ va_S A s.heap H locs ∧ lv_has ls 5 [(0, .ref h0), (3, .int (nI dn)), (4, .int (nI g))]) (fun g _ _ J => dn + 1 - g) (fun g _z0 _z1 J H locs ls hI ih41 => ?_) 0 0 0 (wg_st u30 11 0 0) _ _ _ ⟨(by omega), (fun j _ _ h11 h12 h13 => (wg_st_o _ _ _ _ h11).trans (hq30a j h12 h13)), (wg_ct_0 _ _).symm, hq30b, hq30c, (wg_RS_0 _ _ _ _), hq30d, hP, hS, lv_sub hl [1, 3, 0] rfl⟩
          obtain ⟨hg, hJo, hJc, hJT, hJW, hJR, hJD, hP, hS, hl⟩ := hI
          have hJ3 : J 3 0 = I 3 0 := by rw [hJo 3 (by decide) (by decide) (by decide) (by decide) (by decide)]
          have hJ48 : J 11 0 ≤ 48 := by rw [hJc]; have := wg_cc_le (J 13) g (J 3 0); omega
          refine lv_iload hx hb d_X_search_41 (lv_at hl 2 rfl) ?_
          refine lv_iload_n hx hb d_X_search_43 rfl (lv_at hl 1 rfl) ?_
          refine lv_icmp_gt (tgt := 59) hx hb d_X_search_44 (by decide) (fun h44 => ?_) (fun h44 => ?_)
          · rw [nI_ltI (by omega) (by omega)] at h44
            refine lv_aload_n hx hb d_X_search_59 rfl (lv_at hl 0 rfl) ?_
            refine wg_gX hx hb hts hown hK hP 11 (by decide) (v := .int (nI (J 11 0))) kf_X_75 rfl d_X_search_60 ?_
            exact W.iret (v := (nI (J 11 0))) hx hb hr (fun tt hth hW => ⟨⟨_, J, rfl, (Or.inr (Or.inr ⟨h4, hok10, dn, hdn, rfl, rfl, by rw [hJc, hJ3, show g = dn + 1 by omega]; exact wg_ct_ext _ hJD, wg_RS_ext hJD (by rw [hJ3, show g = dn + 1 by omega] at hJR; exact hJR), wg_XI_s hI hJo hJ48 hJT hJW, fun j h => hJo j (by omega) (by omega) (by omega) (by omega) (by omega)⟩)), wg_h hth hP⟩, hS.F hth⟩) hS.2.2 d_X_search_63
          · rw [nI_ltI (by omega) (by omega)] at h44
            refine lv_aload_n hx hb d_X_search_47 rfl (lv_at hl 0 rfl) ?_
            refine lv_iload hx hb d_X_search_48 (lv_at hl 2 rfl) ?_
            refine wg_cvv (As := [.int (nI g)]) (rest := []) hx hb hml hown hts hK hP (hD _) hS hA rfl rfl rfl (c_X_takeResults l D cJ cI h0 ad _ J g (by omega) (by omega) hJc hJW hJR) kc_X_106 ⟨rfl, rfl⟩ ⟨Nat.le_of_ble_eq_true rfl, Nat.le_of_ble_eq_true rfl⟩ rfl hl.1 rfl (Nat.le_of_ble_eq_true rfl) d_X_search_50 ⟨Nat.zero_le _, Nat.zero_le _⟩ (fun u50 tt H locs ht q50 hB _ _ hS => ?_)
            have hP : va_P D wg_cl (wg_WX cJ cI h0 ad u50) H := by rw [← ht]; exact hB
            clear hB ht tt
            obtain ⟨hq50a, hq50b, hq50c⟩ := q50
            refine lv_iinc (v := nI (g + 1)) (k := 2) (lv' := [(4, .int (nI (g + 1))), (0, .ref h0), (3, .int (nI dn))]) hx hb d_X_search_53 hl rfl (nI_1 _) (by decide) rfl (fun ls hl => ?_)
            refine lv_goto (tgt := 41) hx hb d_X_search_56 (by decide) ?_
            exact ih41 (g + 1) 0 0 u50 _ _ _ ⟨(by omega), (fun j h1 h2 h3 h4 h5 => (hq50a j h1 h2 h3).trans (hJo j h1 h2 h3 h4 h5)), (by rw [hq50b, hq50a 13 (by decide) (by decide) (by decide), hq50a 3 (by decide) (by decide) (by decide)]), (by rw [hq50a 12 (by decide) (by decide) (by decide)]; exact hJT), (by rw [hq50a 13 (by decide) (by decide) (by decide)]; exact hJW), (by rw [hq50a 13 (by decide) (by decide) (by decide), hq50a 3 (by decide) (by decide) (by decide)]; exact hq50c), (by rw [hq50a 13 (by decide) (by decide) (by decide)]; exact hJD), hP, hS, lv_sub hl [1, 2, 0] rfl⟩ (by omega)
        · refine lv_bipush (v := (-2)) hx hb d_X_search_25 (by decide +kernel) ?_
          exact W.iret (v := (-2)) hx hb hr (fun tt hth hW => ⟨⟨_, I, rfl, (Or.inr (Or.inl ⟨h4, by first | exact fun q => hok10 q.1 | exact fun q => wg_dno1 h17 q.2 | exact fun q => wg_dno2 h22 q.2, rfl, rfl⟩)), wg_h hth hP⟩, hS.F hth⟩) hS.2.2 d_X_search_27
    · skip
      refine lv_if_eq (tgt := 25) hx hb d_X_search_13 (by decide) (fun _ => ?_) (fun h => absurd h (by decide +kernel))
      refine lv_bipush (v := (-2)) hx hb d_X_search_25 (by decide +kernel) ?_
      exact W.iret (v := (-2)) hx hb hr (fun tt hth hW => ⟨⟨_, I, rfl, (Or.inr (Or.inl ⟨h4, by first | exact fun q => hok10 q.1 | exact fun q => wg_dno1 h17 q.2 | exact fun q => wg_dno2 h22 q.2, rfl, rfl⟩)), wg_h hth hP⟩, hS.F hth⟩) hS.2.2 d_X_search_27
  · rw [wg_z0 (by omega)] at h4
    refine lv_iconst (v := (-1)) hx hb d_X_search_7 (by decide +kernel) ?_
    exact W.iret (v := (-1)) hx hb hr (fun tt hth hW => ⟨⟨_, I, rfl, (Or.inl ⟨h4, rfl, rfl⟩), wg_h hth hP⟩, hS.F hth⟩) hS.2.2 d_X_search_8
set_option maxHeartbeats 4000000 in
set_option maxRecDepth 100000 in
theorem c_X_distance (l : Launch) (D : va_G) (cJ cI : ClassId) (h0 : Nat) (ad : Nat → Nat) (sz : Nat) (I : wg_S) (n : Nat) (k : Int32) (hn64 : n < 2 ^ 64) (hI : wg_XI I) (hXF : wg_XF I) : Met l y_X_distance (wg_ws y_X_distance b_X_distance 5 (some .int)) ({ frames := 3, cells := 0, slots := 0, locals := 78 }) (va_Pc [.ref h0, .long (lN n), .int k] (wg_Pc D cJ cI (wg_WX cJ cI h0 ad I) sz)) (va_Qi (fun (r : Int32) (u : wg_S) => (¬ (wg_ok n ∧ ∃ j, j < I 3 0 ∧ k = nI j) ∧ r = -1 ∧ u = I) ∨ (wg_ok n ∧ ∃ j, j < I 3 0 ∧ k = nI j ∧ r = nI (wg_bt (I 0 j) n (wg_len (I 0 j)) (wg_len n)) ∧ wg_XI u ∧ (∀ x, ¬ x = 12 → u x = I x))) (fun (u : wg_S) t => va_P D wg_cl (wg_WX cJ cI h0 ad u) t.heap) (va_A (wg_WX cJ cI h0 ad I) sz)) 0 0 (va_A (wg_WX cJ cI h0 ad I) sz) := by
  refine wg_head (Wd := (fun I => wg_WX cJ cI h0 ad I)) (I := I) (fun A => va_Qi (fun (r : Int32) (u : wg_S) => (¬ (wg_ok n ∧ ∃ j, j < I 3 0 ∧ k = nI j) ∧ r = -1 ∧ u = I) ∨ (wg_ok n ∧ ∃ j, j < I 3 0 ∧ k = nI j ∧ r = nI (wg_bt (I 0 j) n (wg_len (I 0 j)) (wg_len n)) ∧ wg_XI u ∧ (∀ x, ¬ x = 12 → u x = I x))) (fun (u : wg_S) t => va_P D wg_cl (wg_WX cJ cI h0 ad u) t.heap) A) R_X (by decide) rfl (Nat.le_of_ble_eq_true rfl) (fun I J => wg_same_X I J) ?_
  intro p e s m below meth c A ls hx hb hr hlk hml hown hnm hts hA hK hD hP hS hl hsz
  clear hsz
  have hl : lv_has ls 5 [(0, .ref h0), (1, .long (lN n)), (3, .int k)] := hl
  have hP : va_P D wg_cl (wg_WX cJ cI h0 ad I) s.heap := hP
  skip
  have hI' := hI
  obtain ⟨hn, hse, hc, hrc, hso, hw, hL, hF, hF1, hNW, hNL, hT, hWF, hNO⟩ := hI'
  refine lv_lload_n hx hb d_X_distance_0 rfl (lv_at hl 1 rfl) ?_
  refine wg_csi (As := [.long (lN n)]) (rest := []) hx hb hml hown hts hK hP hS hA (c_X_isWord l D cJ cI _ n (by omega)) kc_X_48 ⟨rfl, rfl⟩ ⟨Nat.le_of_ble_eq_true rfl, Nat.le_of_ble_eq_true rfl⟩ rfl hl.1 rfl (Nat.le_of_ble_eq_true rfl) d_X_distance_1 ⟨Nat.zero_le _, Nat.zero_le _⟩ (fun r H locs q1 hP hS => ?_)
  rcases q1 with ⟨rfl, hok1⟩ | ⟨rfl, hok1⟩
  · skip
    have hlt1 := hok1.1
    refine lv_if_eq (tgt := 15) hx hb d_X_distance_4 (by decide) (fun h => absurd h (by decide +kernel)) (fun _ => ?_)
    refine lv_aload_n hx hb d_X_distance_7 rfl (lv_at hl 0 rfl) ?_
    refine lv_iload_n hx hb d_X_distance_8 rfl (lv_at hl 2 rfl) ?_
    refine wg_cvi (As := [.int k]) (rest := []) hx hb hml hown hts hK hP (hD _) hS hA rfl rfl rfl (c_X_hasWord l D cJ cI h0 ad _ I k (by omega)) kc_X_78 ⟨rfl, rfl⟩ ⟨Nat.le_of_ble_eq_true rfl, Nat.le_of_ble_eq_true rfl⟩ rfl hl.1 rfl (Nat.le_of_ble_eq_true rfl) d_X_distance_9 ⟨Nat.zero_le _, Nat.zero_le _⟩ (fun r u9 tt H locs ht q9 hB _ _ hS => ?_)
    have hP : va_P D wg_cl (wg_WX cJ cI h0 ad I) H := by rw [← ht]; exact hB
    clear hB ht tt
    rcases q9 with ⟨rfl, j9, hj9, rfl⟩ | ⟨rfl, hj9⟩
    · skip
      refine lv_if_ne (tgt := 17) hx hb d_X_distance_12 (by decide) (fun _ => ?_) (fun h => absurd h (by decide +kernel))
      refine lv_lload_n hx hb d_X_distance_17 rfl (lv_at hl 1 rfl) ?_
      refine wg_csi (As := [.long (lN n)]) (rest := []) hx hb hml hown hts hK hP hS hA (c_X_lengthOf l D cJ cI _ n (by omega)) kc_X_56 ⟨rfl, rfl⟩ ⟨Nat.le_of_ble_eq_true rfl, Nat.le_of_ble_eq_true rfl⟩ rfl hl.1 rfl (Nat.le_of_ble_eq_true rfl) d_X_distance_18 ⟨Nat.zero_le _, Nat.zero_le _⟩ (fun r H locs q18 hP hS => ?_)
      obtain rfl := q18
      have hq18 := wg_len_le n
      refine lv_istore (lv' := [(4, .int (nI (wg_len n))), (0, .ref h0), (1, .long (lN n)), (3, .int (nI j9))]) hx hb d_X_distance_21 hl (by decide) rfl (fun ls hl => ?_)
      refine lv_aload_n hx hb d_X_distance_23 rfl (lv_at hl 1 rfl) ?_
      refine lv_iload hx hb d_X_distance_24 (lv_at hl 0 rfl) ?_
      refine wg_cvv (As := [.int (nI (wg_len n))]) (rest := []) hx hb hml hown hts hK hP (hD _) hS hA rfl rfl rfl (c_X_fillFirstRow l D cJ cI h0 ad _ I (wg_len n) (by omega) hT) kc_X_95 ⟨rfl, rfl⟩ ⟨Nat.le_of_ble_eq_true rfl, Nat.le_of_ble_eq_true rfl⟩ rfl hl.1 rfl (Nat.le_of_ble_eq_true rfl) d_X_distance_26 ⟨Nat.zero_le _, Nat.zero_le _⟩ (fun u26 tt H locs ht q26 hB _ _ hS => ?_)
      have hP : va_P D wg_cl (wg_WX cJ cI h0 ad u26) H := by rw [← ht]; exact hB
      clear hB ht tt
      obtain ⟨hq26a, hq26b, hq26c⟩ := q26
      have hJ := wg_XI_12 hI hq26a hq26b
      have hJ0 : u26 0 = I 0 := hq26a 0 (by decide)
      refine lv_aload_n hx hb d_X_distance_29 rfl (lv_at hl 1 rfl) ?_
      refine lv_iload_n hx hb d_X_distance_30 rfl (lv_at hl 3 rfl) ?_
      refine lv_iconst (v := (nI 1)) hx hb d_X_distance_31 (by decide +kernel) ?_
      refine lv_lload_n hx hb d_X_distance_32 rfl (lv_at hl 2 rfl) ?_
      refine lv_iload hx hb d_X_distance_33 (lv_at hl 0 rfl) ?_
      refine wg_cvi (As := [.int (nI j9), .int (nI 1), .long (lN n), .int (nI (wg_len n))]) (rest := []) hx hb hml hown hts hK hP (hD _) hS hA rfl rfl rfl (c_X_farOfWord l D cJ cI h0 ad _ u26 j9 1 n (wg_len n) (by omega) (by omega) hn64 (by omega) hJ (by rw [hJ0, hq26a 1 (by decide)]; exact (hXF.1 _ hj9).2) (fun x i h1 h2 => by rw [show x = 0 by omega, wg_bt_0, show 0 * 13 + i = i by omega]; exact hq26c i h2)) kc_X_98 ⟨rfl, rfl⟩ ⟨Nat.le_of_ble_eq_true rfl, Nat.le_of_ble_eq_true rfl⟩ rfl hl.1 rfl (Nat.le_of_ble_eq_true rfl) d_X_distance_35 ⟨Nat.zero_le _, Nat.zero_le _⟩ (fun r u35 tt H locs ht q35 hB _ _ hS => ?_)
      have hP : va_P D wg_cl (wg_WX cJ cI h0 ad u35) H := by rw [← ht]; exact hB
      clear hB ht tt
      obtain ⟨rfl, hq35a, hq35b, hq35c⟩ := q35
      exact W.iret (v := (nI (wg_bt (u26 0 j9) n (wg_len (u26 0 j9)) (wg_len n)))) hx hb hr (fun tt hth hW => ⟨⟨_, u35, rfl, (Or.inr ⟨hok1, j9, hj9, rfl, by rw [hJ0], wg_XI_12 hJ hq35a hq35b, fun x h => (hq35a x h).trans (hq26a x h)⟩), wg_h hth hP⟩, hS.F hth⟩) hS.2.2 d_X_distance_38
    · skip
      refine lv_if_ne (tgt := 17) hx hb d_X_distance_12 (by decide) (fun h => absurd h (by decide +kernel)) (fun _ => ?_)
      refine lv_iconst (v := (-1)) hx hb d_X_distance_15 (by decide +kernel) ?_
      exact W.iret (v := (-1)) hx hb hr (fun tt hth hW => ⟨⟨_, I, rfl, (Or.inl ⟨by first | exact fun q => hok1 q.1 | exact fun q => (by obtain ⟨j, q1, q2⟩ := q.2; exact hj9 j q1 q2), rfl, rfl⟩), wg_h hth hP⟩, hS.F hth⟩) hS.2.2 d_X_distance_16
  · skip
    refine lv_if_eq (tgt := 15) hx hb d_X_distance_4 (by decide) (fun _ => ?_) (fun h => absurd h (by decide +kernel))
    refine lv_iconst (v := (-1)) hx hb d_X_distance_15 (by decide +kernel) ?_
    exact W.iret (v := (-1)) hx hb hr (fun tt hth hW => ⟨⟨_, I, rfl, (Or.inl ⟨by first | exact fun q => hok1 q.1 | exact fun q => (by obtain ⟨j, q1, q2⟩ := q.2; exact hj9 j q1 q2), rfl, rfl⟩), wg_h hth hP⟩, hS.F hth⟩) hS.2.2 d_X_distance_16
set_option maxHeartbeats 4000000 in
set_option maxRecDepth 100000 in
theorem c_X_add (l : Launch) (D : va_G) (cJ cI : ClassId) (h0 : Nat) (ad : Nat → Nat) (sz : Nat) (I : wg_S) (n : Nat) (hn64 : n < 2 ^ 64) (hI : wg_XI I) (hXF : wg_XF I) : Met l y_X_add (wg_ws y_X_add b_X_add 3 (some .int)) ({ frames := 3, cells := 0, slots := 0, locals := 67 }) (va_Pc [.ref h0, .long (lN n)] (wg_Pc D cJ cI (wg_WX cJ cI h0 ad I) sz)) (va_Qi (fun (r : Int32) (u : wg_S) => wg_AddR (I 4 0) (I 3 0) (I 0) n r ∧ wg_XI u ∧ ((¬ r = 0 ∧ u = I) ∨ (r = 0 ∧ wg_XF u ∧ u 3 0 = I 3 0 + 1 ∧ u 0 (I 3 0) = n ∧ (∀ k, k < I 3 0 → u 0 k = I 0 k) ∧ (∀ j, 3 < j → u j = I j) ∧ u 0 = wg_st I 0 (I 3 0) n 0))) (fun (u : wg_S) t => va_P D wg_cl (wg_WX cJ cI h0 ad u) t.heap) (va_A (wg_WX cJ cI h0 ad I) sz)) 0 0 (va_A (wg_WX cJ cI h0 ad I) sz) := by
  refine wg_head (Wd := (fun I => wg_WX cJ cI h0 ad I)) (I := I) (fun A => va_Qi (fun (r : Int32) (u : wg_S) => wg_AddR (I 4 0) (I 3 0) (I 0) n r ∧ wg_XI u ∧ ((¬ r = 0 ∧ u = I) ∨ (r = 0 ∧ wg_XF u ∧ u 3 0 = I 3 0 + 1 ∧ u 0 (I 3 0) = n ∧ (∀ k, k < I 3 0 → u 0 k = I 0 k) ∧ (∀ j, 3 < j → u j = I j) ∧ u 0 = wg_st I 0 (I 3 0) n 0))) (fun (u : wg_S) t => va_P D wg_cl (wg_WX cJ cI h0 ad u) t.heap) A) R_X (by decide) rfl (Nat.le_of_ble_eq_true rfl) (fun I J => wg_same_X I J) ?_
  intro p e s m below meth c A ls hx hb hr hlk hml hown hnm hts hA hK hD hP hS hl hsz
  clear hsz
  have hl : lv_has ls 3 [(0, .ref h0), (1, .long (lN n))] := hl
  have hP : va_P D wg_cl (wg_WX cJ cI h0 ad I) s.heap := hP
  skip
  have hI' := hI
  obtain ⟨hn, hse, hc, hrc, hso, hw, hL, hF, hF1, hNW, hNL, hT, hWF, hNO⟩ := hI'
  refine lv_aload_n hx hb d_X_add_0 rfl (lv_at hl 0 rfl) ?_
  refine wg_gX hx hb hts hown hK hP 4 (by decide) (v := .int (nI (I 4 0))) kf_X_44 rfl d_X_add_1 ?_
  refine lv_if_eq (tgt := 9) hx hb d_X_add_4 (by decide) (fun h4 => ?_) (fun h4 => ?_)
  · rw [wg_z0 (by omega)] at h4
    refine lv_lload_n hx hb d_X_add_9 rfl (lv_at hl 1 rfl) ?_
    refine wg_csi (As := [.long (lN n)]) (rest := []) hx hb hml hown hts hK hP hS hA (c_X_isWord l D cJ cI _ n (by omega)) kc_X_48 ⟨rfl, rfl⟩ ⟨Nat.le_of_ble_eq_true rfl, Nat.le_of_ble_eq_true rfl⟩ rfl hl.1 rfl (Nat.le_of_ble_eq_true rfl) d_X_add_10 ⟨Nat.zero_le _, Nat.zero_le _⟩ (fun r H locs q10 hP hS => ?_)
    rcases q10 with ⟨rfl, hok10⟩ | ⟨rfl, hok10⟩
    · skip
      have hlt10 := hok10.1
      refine lv_if_ne (tgt := 19) hx hb d_X_add_13 (by decide) (fun _ => ?_) (fun h => absurd h (by decide +kernel))
      refine lv_aload_n hx hb d_X_add_19 rfl (lv_at hl 0 rfl) ?_
      refine wg_gX hx hb hts hown hK hP 3 (by decide) (v := .int (nI (I 3 0))) kf_X_52 rfl d_X_add_20 ?_
      refine lv_bipush (v := (nI 48)) hx hb d_X_add_23 (by decide +kernel) ?_
      refine lv_icmp_lt (tgt := 31) hx hb d_X_add_25 (by decide) (fun h25 => ?_) (fun h25 => ?_)
      · rw [nI_ltI (by omega) (by omega)] at h25
        refine lv_aload_n hx hb d_X_add_31 rfl (lv_at hl 0 rfl) ?_
        refine wg_gX hx hb hts hown hK hP 3 (by decide) (v := .int (nI (I 3 0))) kf_X_52 rfl d_X_add_32 ?_
        refine lv_if_le (tgt := 57) hx hb d_X_add_35 (by decide) (fun h35 => ?_) (fun h35 => ?_)
        · rw [wg_le0 (by omega)] at h35
          refine lv_aload_n hx hb d_X_add_57 rfl (lv_at hl 0 rfl) ?_
          refine wg_gX hx hb hts hown hK hP 0 (by decide) (v := .ref (ad 0)) kf_X_9 rfl d_X_add_58 ?_
          refine lv_aload_n hx hb d_X_add_61 rfl (lv_at hl 0 rfl) ?_
          refine wg_gX hx hb hts hown hK hP 3 (by decide) (v := .int (nI (I 3 0))) kf_X_52 rfl d_X_add_62 ?_
          refine lv_lload_n hx hb d_X_add_65 rfl (lv_at hl 1 rfl) ?_
          refine wg_sX0 (j := (I 3 0)) (x := n) hx hb hK hP hD hS (by omega) d_X_add_66 (fun H locs hP hS => ?_)
          refine lv_aload_n hx hb d_X_add_67 rfl (lv_at hl 0 rfl) ?_
          refine wg_gX hx hb hts hown hK hP 1 (by decide) (v := .ref (ad 1)) kf_X_13 rfl d_X_add_68 ?_
          refine lv_aload_n hx hb d_X_add_71 rfl (lv_at hl 0 rfl) ?_
          refine wg_gX hx hb hts hown hK hP 3 (by decide) (v := .int (nI (I 3 0))) kf_X_52 rfl d_X_add_72 ?_
          refine lv_lload_n hx hb d_X_add_75 rfl (lv_at hl 1 rfl) ?_
          refine wg_csi (As := [.long (lN n)]) (rest := [.int (nI (I 3 0)), .ref (ad 1)]) hx hb hml hown hts hK hP hS hA (c_X_lengthOf l D cJ cI _ n (by omega)) kc_X_56 ⟨rfl, rfl⟩ ⟨Nat.le_of_ble_eq_true rfl, Nat.le_of_ble_eq_true rfl⟩ rfl hl.1 rfl (Nat.le_of_ble_eq_true rfl) d_X_add_76 ⟨Nat.zero_le _, Nat.zero_le _⟩ (fun r H locs q76 hP hS => ?_)
          obtain rfl := q76
          have hq76 := wg_len_le n
          refine wg_sX1 (j := (I 3 0)) (x := (wg_len n)) hx hb hK hP hD hS (by omega) d_X_add_79 (fun H locs hP hS => ?_)
          refine lv_aload_n hx hb d_X_add_80 rfl (lv_at hl 0 rfl) ?_
          refine wg_gX hx hb hts hown hK hP 2 (by decide) (v := .ref (ad 2)) kf_X_17 rfl d_X_add_81 ?_
          refine lv_aload_n hx hb d_X_add_84 rfl (lv_at hl 0 rfl) ?_
          refine wg_gX hx hb hts hown hK hP 3 (by decide) (v := .int (nI (I 3 0))) kf_X_52 rfl d_X_add_85 ?_
          refine lv_aload_n hx hb d_X_add_88 rfl (lv_at hl 0 rfl) ?_
          refine wg_gX hx hb hts hown hK hP 3 (by decide) (v := .int (nI (I 3 0))) kf_X_52 rfl d_X_add_89 ?_
          refine lv_if_ne (tgt := 99) hx hb d_X_add_92 (by decide) (fun h92 => ?_) (fun h92 => ?_)
          · rw [wg_z0 (by omega)] at h92
            refine lv_aload_n hx hb d_X_add_99 rfl (lv_at hl 0 rfl) ?_
            refine wg_gX hx hb hts hown hK hP 0 (by decide) (v := .ref (ad 0)) kf_X_9 rfl d_X_add_100 ?_
            refine lv_aload_n hx hb d_X_add_103 rfl (lv_at hl 0 rfl) ?_
            refine wg_gX hx hb hts hown hK hP 3 (by decide) (v := .int (nI (I 3 0))) kf_X_52 rfl d_X_add_104 ?_
            refine lv_iconst (v := (nI 1)) hx hb d_X_add_107 (by decide +kernel) ?_
            refine t_isub (v := nI ((I 3 0) - 1)) hx hb d_X_add_108 (pk_sub (by omega)) ?_
            refine wg_lld (f := (wg_st I 0 (I 3 0) n) 0) (j := ((I 3 0) - 1)) hx hb hK hP 1 rfl (by omega) (by decide) d_X_add_109 ?_
            refine lv_lload_n hx hb d_X_add_110 rfl (lv_at hl 1 rfl) ?_
            refine wg_csi (As := [.long (lN ((wg_st I 0 (I 3 0) n) 0 ((I 3 0) - 1))), .long (lN n)]) (rest := [.int (nI (I 3 0)), .ref (ad 2)]) hx hb hml hown hts hK hP hS hA (c_X_sharedLetters l D cJ cI _ ((wg_st I 0 (I 3 0) n) 0 ((I 3 0) - 1)) n (by rw [wg_st_n _ _ _ _ (by omega)]; have := hw (I 3 0 - 1) (by omega); omega) hn64) kc_X_60 ⟨rfl, rfl⟩ ⟨Nat.le_of_ble_eq_true rfl, Nat.le_of_ble_eq_true rfl⟩ rfl hl.1 rfl (Nat.le_of_ble_eq_true rfl) d_X_add_111 ⟨Nat.zero_le _, Nat.zero_le _⟩ (fun r H locs q111 hP hS => ?_)
            obtain rfl := q111
            have hq111 := wg_shd_le ((wg_st I 0 (I 3 0) n) 0 ((I 3 0) - 1)) n
            refine lv_iconst (v := (nI 1)) hx hb d_X_add_114 (by decide +kernel) ?_
            refine t_iadd (v := nI ((wg_shd ((wg_st I 0 (I 3 0) n) 0 ((I 3 0) - 1)) n) + 1)) hx hb d_X_add_115 (nI_add _ _) ?_
            refine wg_sX2 (j := (I 3 0)) (x := ((wg_shd ((wg_st I 0 (I 3 0) n) 0 ((I 3 0) - 1)) n) + 1)) hx hb hK hP hD hS (by omega) d_X_add_116 (fun H locs hP hS => ?_)
            refine lv_aload_n hx hb d_X_add_117 rfl (lv_at hl 0 rfl) ?_
            refine lv_dup hx hb d_X_add_118 rfl ?_
            refine wg_gX hx hb hts hown hK hP 3 (by decide) (v := .int (nI (I 3 0))) kf_X_52 rfl d_X_add_119 ?_
            refine lv_iconst (v := (nI 1)) hx hb d_X_add_122 (by decide +kernel) ?_
            refine t_iadd (v := nI ((I 3 0) + 1)) hx hb d_X_add_123 (nI_add _ _) ?_
            refine wg_pX3 (v := ((I 3 0) + 1)) hx hb hts hown hK hP hD hS kf_X_52 d_X_add_124 (fun H locs hP hS => ?_)
            refine lv_iconst (v := (nI 0)) hx hb d_X_add_127 (by decide +kernel) ?_
            exact W.iret (v := (nI 0)) hx hb hr (fun tt hth hW => ⟨⟨_, (wg_st (wg_st (wg_st (wg_st I 0 (I 3 0) n) 1 (I 3 0) (wg_len n)) 2 (I 3 0) ((wg_shd ((wg_st I 0 (I 3 0) n) 0 ((I 3 0) - 1)) n) + 1)) 3 0 ((I 3 0) + 1)), rfl, ⟨Or.inr (Or.inr (Or.inr (Or.inr ⟨h4, hok10, by omega, by first | exact Or.inl (by omega) | exact Or.inr (by omega), nI_0⟩))), wg_XI_add hI (by omega) hlt10 (wg_len_le n) (by omega) (by omega), Or.inr ⟨nI_0, by first | exact wg_XF_add0 hok10 (by omega) | exact wg_XF_add1 hXF hok10 (by omega) (by omega), rfl, wg_st_s I 0 (I 3 0) n, fun k hk => wg_st_n I 0 (I 3 0) n (by omega), fun j h => (wg_st_o _ _ _ _ (by omega)).trans ((wg_st_o _ _ _ _ (by omega)).trans ((wg_st_o _ _ _ _ (by omega)).trans (wg_st_o _ _ _ _ (by omega)))), rfl⟩⟩, wg_h hth hP⟩, hS.F hth⟩) hS.2.2 d_X_add_128
          · rw [wg_z0 (by omega)] at h92
            refine lv_iconst (v := (nI 0)) hx hb d_X_add_95 (by decide +kernel) ?_
            refine lv_goto (tgt := 116) hx hb d_X_add_96 (by decide) ?_
            refine wg_sX2 (j := (I 3 0)) (x := 0) hx hb hK hP hD hS (by omega) d_X_add_116 (fun H locs hP hS => ?_)
            refine lv_aload_n hx hb d_X_add_117 rfl (lv_at hl 0 rfl) ?_
            refine lv_dup hx hb d_X_add_118 rfl ?_
            refine wg_gX hx hb hts hown hK hP 3 (by decide) (v := .int (nI (I 3 0))) kf_X_52 rfl d_X_add_119 ?_
            refine lv_iconst (v := (nI 1)) hx hb d_X_add_122 (by decide +kernel) ?_
            refine t_iadd (v := nI ((I 3 0) + 1)) hx hb d_X_add_123 (nI_add _ _) ?_
            refine wg_pX3 (v := ((I 3 0) + 1)) hx hb hts hown hK hP hD hS kf_X_52 d_X_add_124 (fun H locs hP hS => ?_)
            refine lv_iconst (v := (nI 0)) hx hb d_X_add_127 (by decide +kernel) ?_
            exact W.iret (v := (nI 0)) hx hb hr (fun tt hth hW => ⟨⟨_, (wg_st (wg_st (wg_st (wg_st I 0 (I 3 0) n) 1 (I 3 0) (wg_len n)) 2 (I 3 0) 0) 3 0 ((I 3 0) + 1)), rfl, ⟨Or.inr (Or.inr (Or.inr (Or.inr ⟨h4, hok10, by omega, by first | exact Or.inl (by omega) | exact Or.inr (by omega), nI_0⟩))), wg_XI_add hI (by omega) hlt10 (wg_len_le n) (by omega) (by omega), Or.inr ⟨nI_0, by first | exact wg_XF_add0 hok10 (by omega) | exact wg_XF_add1 hXF hok10 (by omega) (by omega), rfl, wg_st_s I 0 (I 3 0) n, fun k hk => wg_st_n I 0 (I 3 0) n (by omega), fun j h => (wg_st_o _ _ _ _ (by omega)).trans ((wg_st_o _ _ _ _ (by omega)).trans ((wg_st_o _ _ _ _ (by omega)).trans (wg_st_o _ _ _ _ (by omega)))), rfl⟩⟩, wg_h hth hP⟩, hS.F hth⟩) hS.2.2 d_X_add_128
        · rw [wg_le0 (by omega)] at h35
          refine lv_lload_n hx hb d_X_add_38 rfl (lv_at hl 1 rfl) ?_
          refine lv_aload_n hx hb d_X_add_39 rfl (lv_at hl 0 rfl) ?_
          refine wg_gX hx hb hts hown hK hP 0 (by decide) (v := .ref (ad 0)) kf_X_9 rfl d_X_add_40 ?_
          refine lv_aload_n hx hb d_X_add_43 rfl (lv_at hl 0 rfl) ?_
          refine wg_gX hx hb hts hown hK hP 3 (by decide) (v := .int (nI (I 3 0))) kf_X_52 rfl d_X_add_44 ?_
          refine lv_iconst (v := (nI 1)) hx hb d_X_add_47 (by decide +kernel) ?_
          refine t_isub (v := nI ((I 3 0) - 1)) hx hb d_X_add_48 (pk_sub (by omega)) ?_
          refine wg_lld (f := I 0) (j := ((I 3 0) - 1)) hx hb hK hP 1 rfl (by omega) (by decide) d_X_add_49 ?_
          have hB49 := hw ((I 3 0) - 1) (by omega)
          refine W.lcmp hx hb d_X_add_50 ?_
          refine lv_if_gt (tgt := 57) hx hb d_X_add_51 (by decide) (fun h51 => ?_) (fun h51 => ?_)
          · rw [lg_cmp_gt] at h51
            rw [pk_lLT (by omega) (by omega)] at h51
            refine lv_aload_n hx hb d_X_add_57 rfl (lv_at hl 0 rfl) ?_
            refine wg_gX hx hb hts hown hK hP 0 (by decide) (v := .ref (ad 0)) kf_X_9 rfl d_X_add_58 ?_
            refine lv_aload_n hx hb d_X_add_61 rfl (lv_at hl 0 rfl) ?_
            refine wg_gX hx hb hts hown hK hP 3 (by decide) (v := .int (nI (I 3 0))) kf_X_52 rfl d_X_add_62 ?_
            refine lv_lload_n hx hb d_X_add_65 rfl (lv_at hl 1 rfl) ?_
            refine wg_sX0 (j := (I 3 0)) (x := n) hx hb hK hP hD hS (by omega) d_X_add_66 (fun H locs hP hS => ?_)
            refine lv_aload_n hx hb d_X_add_67 rfl (lv_at hl 0 rfl) ?_
            refine wg_gX hx hb hts hown hK hP 1 (by decide) (v := .ref (ad 1)) kf_X_13 rfl d_X_add_68 ?_
            refine lv_aload_n hx hb d_X_add_71 rfl (lv_at hl 0 rfl) ?_
            refine wg_gX hx hb hts hown hK hP 3 (by decide) (v := .int (nI (I 3 0))) kf_X_52 rfl d_X_add_72 ?_
            refine lv_lload_n hx hb d_X_add_75 rfl (lv_at hl 1 rfl) ?_
            refine wg_csi (As := [.long (lN n)]) (rest := [.int (nI (I 3 0)), .ref (ad 1)]) hx hb hml hown hts hK hP hS hA (c_X_lengthOf l D cJ cI _ n (by omega)) kc_X_56 ⟨rfl, rfl⟩ ⟨Nat.le_of_ble_eq_true rfl, Nat.le_of_ble_eq_true rfl⟩ rfl hl.1 rfl (Nat.le_of_ble_eq_true rfl) d_X_add_76 ⟨Nat.zero_le _, Nat.zero_le _⟩ (fun r H locs q76 hP hS => ?_)
            obtain rfl := q76
            have hq76 := wg_len_le n
            refine wg_sX1 (j := (I 3 0)) (x := (wg_len n)) hx hb hK hP hD hS (by omega) d_X_add_79 (fun H locs hP hS => ?_)
            refine lv_aload_n hx hb d_X_add_80 rfl (lv_at hl 0 rfl) ?_
            refine wg_gX hx hb hts hown hK hP 2 (by decide) (v := .ref (ad 2)) kf_X_17 rfl d_X_add_81 ?_
            refine lv_aload_n hx hb d_X_add_84 rfl (lv_at hl 0 rfl) ?_
            refine wg_gX hx hb hts hown hK hP 3 (by decide) (v := .int (nI (I 3 0))) kf_X_52 rfl d_X_add_85 ?_
            refine lv_aload_n hx hb d_X_add_88 rfl (lv_at hl 0 rfl) ?_
            refine wg_gX hx hb hts hown hK hP 3 (by decide) (v := .int (nI (I 3 0))) kf_X_52 rfl d_X_add_89 ?_
            refine lv_if_ne (tgt := 99) hx hb d_X_add_92 (by decide) (fun h92 => ?_) (fun h92 => ?_)
            · rw [wg_z0 (by omega)] at h92
              refine lv_aload_n hx hb d_X_add_99 rfl (lv_at hl 0 rfl) ?_
              refine wg_gX hx hb hts hown hK hP 0 (by decide) (v := .ref (ad 0)) kf_X_9 rfl d_X_add_100 ?_
              refine lv_aload_n hx hb d_X_add_103 rfl (lv_at hl 0 rfl) ?_
              refine wg_gX hx hb hts hown hK hP 3 (by decide) (v := .int (nI (I 3 0))) kf_X_52 rfl d_X_add_104 ?_
              refine lv_iconst (v := (nI 1)) hx hb d_X_add_107 (by decide +kernel) ?_
              refine t_isub (v := nI ((I 3 0) - 1)) hx hb d_X_add_108 (pk_sub (by omega)) ?_
              refine wg_lld (f := (wg_st I 0 (I 3 0) n) 0) (j := ((I 3 0) - 1)) hx hb hK hP 1 rfl (by omega) (by decide) d_X_add_109 ?_
              refine lv_lload_n hx hb d_X_add_110 rfl (lv_at hl 1 rfl) ?_
              refine wg_csi (As := [.long (lN ((wg_st I 0 (I 3 0) n) 0 ((I 3 0) - 1))), .long (lN n)]) (rest := [.int (nI (I 3 0)), .ref (ad 2)]) hx hb hml hown hts hK hP hS hA (c_X_sharedLetters l D cJ cI _ ((wg_st I 0 (I 3 0) n) 0 ((I 3 0) - 1)) n (by rw [wg_st_n _ _ _ _ (by omega)]; have := hw (I 3 0 - 1) (by omega); omega) hn64) kc_X_60 ⟨rfl, rfl⟩ ⟨Nat.le_of_ble_eq_true rfl, Nat.le_of_ble_eq_true rfl⟩ rfl hl.1 rfl (Nat.le_of_ble_eq_true rfl) d_X_add_111 ⟨Nat.zero_le _, Nat.zero_le _⟩ (fun r H locs q111 hP hS => ?_)
              obtain rfl := q111
              have hq111 := wg_shd_le ((wg_st I 0 (I 3 0) n) 0 ((I 3 0) - 1)) n
              refine lv_iconst (v := (nI 1)) hx hb d_X_add_114 (by decide +kernel) ?_
              refine t_iadd (v := nI ((wg_shd ((wg_st I 0 (I 3 0) n) 0 ((I 3 0) - 1)) n) + 1)) hx hb d_X_add_115 (nI_add _ _) ?_
              refine wg_sX2 (j := (I 3 0)) (x := ((wg_shd ((wg_st I 0 (I 3 0) n) 0 ((I 3 0) - 1)) n) + 1)) hx hb hK hP hD hS (by omega) d_X_add_116 (fun H locs hP hS => ?_)
              refine lv_aload_n hx hb d_X_add_117 rfl (lv_at hl 0 rfl) ?_
              refine lv_dup hx hb d_X_add_118 rfl ?_
              refine wg_gX hx hb hts hown hK hP 3 (by decide) (v := .int (nI (I 3 0))) kf_X_52 rfl d_X_add_119 ?_
              refine lv_iconst (v := (nI 1)) hx hb d_X_add_122 (by decide +kernel) ?_
              refine t_iadd (v := nI ((I 3 0) + 1)) hx hb d_X_add_123 (nI_add _ _) ?_
              refine wg_pX3 (v := ((I 3 0) + 1)) hx hb hts hown hK hP hD hS kf_X_52 d_X_add_124 (fun H locs hP hS => ?_)
              refine lv_iconst (v := (nI 0)) hx hb d_X_add_127 (by decide +kernel) ?_
              exact W.iret (v := (nI 0)) hx hb hr (fun tt hth hW => ⟨⟨_, (wg_st (wg_st (wg_st (wg_st I 0 (I 3 0) n) 1 (I 3 0) (wg_len n)) 2 (I 3 0) ((wg_shd ((wg_st I 0 (I 3 0) n) 0 ((I 3 0) - 1)) n) + 1)) 3 0 ((I 3 0) + 1)), rfl, ⟨Or.inr (Or.inr (Or.inr (Or.inr ⟨h4, hok10, by omega, by first | exact Or.inl (by omega) | exact Or.inr (by omega), nI_0⟩))), wg_XI_add hI (by omega) hlt10 (wg_len_le n) (by omega) (by omega), Or.inr ⟨nI_0, by first | exact wg_XF_add0 hok10 (by omega) | exact wg_XF_add1 hXF hok10 (by omega) (by omega), rfl, wg_st_s I 0 (I 3 0) n, fun k hk => wg_st_n I 0 (I 3 0) n (by omega), fun j h => (wg_st_o _ _ _ _ (by omega)).trans ((wg_st_o _ _ _ _ (by omega)).trans ((wg_st_o _ _ _ _ (by omega)).trans (wg_st_o _ _ _ _ (by omega)))), rfl⟩⟩, wg_h hth hP⟩, hS.F hth⟩) hS.2.2 d_X_add_128
            · rw [wg_z0 (by omega)] at h92
              refine lv_iconst (v := (nI 0)) hx hb d_X_add_95 (by decide +kernel) ?_
              refine lv_goto (tgt := 116) hx hb d_X_add_96 (by decide) ?_
              refine wg_sX2 (j := (I 3 0)) (x := 0) hx hb hK hP hD hS (by omega) d_X_add_116 (fun H locs hP hS => ?_)
              refine lv_aload_n hx hb d_X_add_117 rfl (lv_at hl 0 rfl) ?_
              refine lv_dup hx hb d_X_add_118 rfl ?_
              refine wg_gX hx hb hts hown hK hP 3 (by decide) (v := .int (nI (I 3 0))) kf_X_52 rfl d_X_add_119 ?_
              refine lv_iconst (v := (nI 1)) hx hb d_X_add_122 (by decide +kernel) ?_
              refine t_iadd (v := nI ((I 3 0) + 1)) hx hb d_X_add_123 (nI_add _ _) ?_
              refine wg_pX3 (v := ((I 3 0) + 1)) hx hb hts hown hK hP hD hS kf_X_52 d_X_add_124 (fun H locs hP hS => ?_)
              refine lv_iconst (v := (nI 0)) hx hb d_X_add_127 (by decide +kernel) ?_
              exact W.iret (v := (nI 0)) hx hb hr (fun tt hth hW => ⟨⟨_, (wg_st (wg_st (wg_st (wg_st I 0 (I 3 0) n) 1 (I 3 0) (wg_len n)) 2 (I 3 0) 0) 3 0 ((I 3 0) + 1)), rfl, ⟨Or.inr (Or.inr (Or.inr (Or.inr ⟨h4, hok10, by omega, by first | exact Or.inl (by omega) | exact Or.inr (by omega), nI_0⟩))), wg_XI_add hI (by omega) hlt10 (wg_len_le n) (by omega) (by omega), Or.inr ⟨nI_0, by first | exact wg_XF_add0 hok10 (by omega) | exact wg_XF_add1 hXF hok10 (by omega) (by omega), rfl, wg_st_s I 0 (I 3 0) n, fun k hk => wg_st_n I 0 (I 3 0) n (by omega), fun j h => (wg_st_o _ _ _ _ (by omega)).trans ((wg_st_o _ _ _ _ (by omega)).trans ((wg_st_o _ _ _ _ (by omega)).trans (wg_st_o _ _ _ _ (by omega)))), rfl⟩⟩, wg_h hth hP⟩, hS.F hth⟩) hS.2.2 d_X_add_128
          · rw [lg_cmp_gt] at h51
            rw [pk_lLT (by omega) (by omega)] at h51
            refine lv_bipush (v := (-4)) hx hb d_X_add_54 (by decide +kernel) ?_
            exact W.iret (v := (-4)) hx hb hr (fun tt hth hW => ⟨⟨_, I, rfl, ⟨Or.inr (Or.inr (Or.inr (Or.inl ⟨h4, hok10, by omega, by omega, by omega, rfl⟩))), hI, Or.inl ⟨by decide +kernel, rfl⟩⟩, wg_h hth hP⟩, hS.F hth⟩) hS.2.2 d_X_add_56
      · rw [nI_ltI (by omega) (by omega)] at h25
        refine lv_bipush (v := (-3)) hx hb d_X_add_28 (by decide +kernel) ?_
        exact W.iret (v := (-3)) hx hb hr (fun tt hth hW => ⟨⟨_, I, rfl, ⟨Or.inr (Or.inr (Or.inl ⟨h4, hok10, by omega, rfl⟩)), hI, Or.inl ⟨by decide +kernel, rfl⟩⟩, wg_h hth hP⟩, hS.F hth⟩) hS.2.2 d_X_add_30
    · skip
      refine lv_if_ne (tgt := 19) hx hb d_X_add_13 (by decide) (fun h => absurd h (by decide +kernel)) (fun _ => ?_)
      refine lv_bipush (v := (-2)) hx hb d_X_add_16 (by decide +kernel) ?_
      exact W.iret (v := (-2)) hx hb hr (fun tt hth hW => ⟨⟨_, I, rfl, ⟨Or.inr (Or.inl ⟨h4, hok10, rfl⟩), hI, Or.inl ⟨by decide +kernel, rfl⟩⟩, wg_h hth hP⟩, hS.F hth⟩) hS.2.2 d_X_add_18
  · rw [wg_z0 (by omega)] at h4
    refine lv_iconst (v := (-1)) hx hb d_X_add_7 (by decide +kernel) ?_
    exact W.iret (v := (-1)) hx hb hr (fun tt hth hW => ⟨⟨_, I, rfl, ⟨Or.inl ⟨h4, rfl⟩, hI, Or.inl ⟨by decide +kernel, rfl⟩⟩, wg_h hth hP⟩, hS.F hth⟩) hS.2.2 d_X_add_8
end
section
set_option maxHeartbeats 4000000 in
set_option maxRecDepth 100000 in
theorem c_M_letter (l : Launch) (D : va_G) (cJ cI : ClassId) (sz : Nat) (n : Nat) (i : Nat) (hn : n < 2 ^ 63) (hi : i < 12) : Met l y_M_letter (wg_ws y_M_letter b_M_letter 3 (some .int)) ({ frames := 0, cells := 0, slots := 0, locals := 0 }) (va_Pc [.long (lN n), .int (nI i)] (wg_Pc D cJ cI (wg_W0 fun _ _ => 0) sz)) (va_Qi (fun (r : Int32) (u : Unit) => r = nI (wg_lt n i)) (fun (_ : Unit) _ => True) (va_A (wg_W0 fun _ _ => 0) sz)) 0 0 (va_A (wg_W0 fun _ _ => 0) sz) := by
  refine wg_head (Wd := wg_W0) (I := (fun _ _ => 0)) (fun A => va_Qi (fun (r : Int32) (u : Unit) => r = nI (wg_lt n i)) (fun (_ : Unit) _ => True) A) R_M (by decide) rfl (Nat.le_of_ble_eq_true rfl) wg_same_0 ?_
  intro p e s m below meth c A ls hx hb hr hlk hml hown hnm hts hA hK hD hP hS hl hsz
  clear hsz
  have hl : lv_has ls 3 [(0, .long (lN n)), (2, .int (nI i))] := hl
  have hP : va_P D wg_cl (wg_W0 fun _ _ => 0) s.heap := hP
  skip
  refine lv_lload_n hx hb d_M_letter_0 rfl (lv_at hl 0 rfl) ?_
  refine lv_bipush (v := (nI 55)) hx hb d_M_letter_1 (by decide +kernel) ?_
  refine lv_iconst (v := (nI 5)) hx hb d_M_letter_3 (by decide +kernel) ?_
  refine lv_iload_n hx hb d_M_letter_4 rfl (lv_at hl 1 rfl) ?_
  refine t_imul (v := nI (5 * i)) hx hb d_M_letter_5 (pk_mul _ _) ?_
  refine t_isub (v := nI (55 - (5 * i))) hx hb d_M_letter_6 (pk_sub (by omega)) ?_
  refine lv_lshr (v := lN (n / 2 ^ (55 - (5 * i)))) hx hb d_M_letter_7 (wg_lshr (by omega) (by omega)) ?_
  refine lv_l2i (v := nI (n / 2 ^ (55 - (5 * i)))) hx hb d_M_letter_8 (lN_i _) ?_
  refine lv_bipush (v := (nI 31)) hx hb d_M_letter_9 (by decide +kernel) ?_
  refine t_iand (v := nI ((n / 2 ^ (55 - (5 * i))) % 32)) hx hb d_M_letter_11 (wg_and31 _) ?_
  exact W.iret (v := (nI ((n / 2 ^ (55 - (5 * i))) % 32))) hx hb hr (fun tt hth hW => ⟨⟨_, (), rfl, rfl, trivial⟩, hS.F hth⟩) hS.2.2 d_M_letter_12
set_option maxHeartbeats 4000000 in
set_option maxRecDepth 100000 in
theorem c_M_length (l : Launch) (D : va_G) (cJ cI : ClassId) (sz : Nat) (n : Nat) (hn : n < 2 ^ 63) : Met l y_M_length (wg_ws y_M_length b_M_length 4 (some .int)) ({ frames := 1, cells := 0, slots := 0, locals := 22 }) (va_Pc [.long (lN n)] (wg_Pc D cJ cI (wg_W0 fun _ _ => 0) sz)) (va_Qi (fun (r : Int32) (u : Unit) => r = nI (wg_ln n)) (fun (_ : Unit) _ => True) (va_A (wg_W0 fun _ _ => 0) sz)) 0 0 (va_A (wg_W0 fun _ _ => 0) sz) := by
  refine wg_head (Wd := wg_W0) (I := (fun _ _ => 0)) (fun A => va_Qi (fun (r : Int32) (u : Unit) => r = nI (wg_ln n)) (fun (_ : Unit) _ => True) A) R_M (by decide) rfl (Nat.le_of_ble_eq_true rfl) wg_same_0 ?_
  intro p e s m below meth c A ls hx hb hr hlk hml hown hnm hts hA hK hD hP hS hl hsz
  clear hsz
  have hl : lv_has ls 4 [(0, .long (lN n))] := hl
  have hP : va_P D wg_cl (wg_W0 fun _ _ => 0) s.heap := hP
  skip
  refine lv_iconst (v := (nI 0)) hx hb d_M_length_0 (by decide +kernel) ?_
  refine lv_istore_n (lv' := [(2, .int (nI 0)), (0, .long (lN n))]) hx hb d_M_length_1 rfl hl (by decide) rfl (fun ls hl => ?_)
  refine lv_iconst (v := (nI 0)) hx hb d_M_length_2 (by decide +kernel) ?_
  refine lv_istore_n (lv' := [(3, .int (nI 0)), (2, .int (nI 0)), (0, .long (lN n))]) hx hb d_M_length_3 rfl hl (by decide) rfl (fun ls hl => ?_)
  refine wg_loop (fun i cc _ _ H locs ls => (i ≤ 12) ∧ (cc = wg_cn n i) ∧ va_P D wg_cl (wg_W0 fun _ _ => 0) H ∧ va_S A s.heap H locs ∧ lv_has ls 4 [(0, .long (lN n)), (2, .int (nI cc)), (3, .int (nI i))]) (fun i cc _ _ => 12 - i) (fun i cc _z0 _J H locs ls hI ih4 => ?_) 0 0 0 (fun _ _ => 0) _ _ _ ⟨(by omega), rfl, hP, hS, lv_sub hl [2, 1, 0] rfl⟩
  obtain ⟨hi, hcc, hP, hS, hl⟩ := hI
  have hcl := wg_cn_le n i
  refine lv_iload_n hx hb d_M_length_4 rfl (lv_at hl 2 rfl) ?_
  refine lv_bipush (v := (nI 12)) hx hb d_M_length_5 (by decide +kernel) ?_
  refine lv_icmp_ge (tgt := 28) hx hb d_M_length_7 (by decide) (fun h7 => ?_) (fun h7 => ?_)
  · rw [nI_leI (by omega) (by omega)] at h7
    have hi : i = 12 := by omega
    refine lv_iload_n hx hb d_M_length_28 rfl (lv_at hl 1 rfl) ?_
    exact W.iret (v := (nI cc)) hx hb hr (fun tt hth hW => ⟨⟨_, (), rfl, (by rw [hcc, hi]; rfl), trivial⟩, hS.F hth⟩) hS.2.2 d_M_length_29
  · rw [nI_leI (by omega) (by omega)] at h7
    refine lv_lload_n hx hb d_M_length_10 rfl (lv_at hl 0 rfl) ?_
    refine lv_iload_n hx hb d_M_length_11 rfl (lv_at hl 2 rfl) ?_
    refine wg_csi (As := [.long (lN n), .int (nI i)]) (rest := []) hx hb hml hown hts hK hP hS hA (c_M_letter l D cJ cI _ n i (by omega) (by omega)) kc_M_36 ⟨rfl, rfl⟩ ⟨Nat.le_of_ble_eq_true rfl, Nat.le_of_ble_eq_true rfl⟩ rfl hl.1 rfl (Nat.le_of_ble_eq_true rfl) d_M_length_12 ⟨Nat.zero_le _, Nat.zero_le _⟩ (fun r H locs q12 hP hS => ?_)
    obtain rfl := q12
    have hq12 := wg_lt_le n i
    refine lv_if_eq (tgt := 22) hx hb d_M_length_15 (by decide) (fun h15 => ?_) (fun h15 => ?_)
    · rw [wg_z0 (by omega)] at h15
      refine lv_iinc (v := nI (i + 1)) (k := 2) (lv' := [(3, .int (nI (i + 1))), (0, .long (lN n)), (2, .int (nI cc))]) hx hb d_M_length_22 hl rfl (nI_1 _) (by decide) rfl (fun ls hl => ?_)
      refine lv_goto (tgt := 4) hx hb d_M_length_25 (by decide) ?_
      exact ih4 (i + 1) cc 0 (fun _ _ => 0) _ _ _ ⟨(by omega), (by have := wg_cn_s n i; have := wg_cn_le n i; omega), hP, hS, lv_sub hl [1, 2, 0] rfl⟩ (by omega)
    · rw [wg_z0 (by omega)] at h15
      refine lv_iload_n hx hb d_M_length_18 rfl (lv_at hl 1 rfl) ?_
      refine lv_iconst (v := (nI 1)) hx hb d_M_length_19 (by decide +kernel) ?_
      refine t_iadd (v := nI (cc + 1)) hx hb d_M_length_20 (nI_add _ _) ?_
      refine lv_istore_n (lv' := [(2, .int (nI (cc + 1))), (0, .long (lN n)), (3, .int (nI i))]) hx hb d_M_length_21 rfl hl (by decide) rfl (fun ls hl => ?_)
      refine lv_iinc (v := nI (i + 1)) (k := 2) (lv' := [(3, .int (nI (i + 1))), (2, .int (nI (cc + 1))), (0, .long (lN n))]) hx hb d_M_length_22 hl rfl (nI_1 _) (by decide) rfl (fun ls hl => ?_)
      refine lv_goto (tgt := 4) hx hb d_M_length_25 (by decide) ?_
      exact ih4 (i + 1) (cc + 1) 0 (fun _ _ => 0) _ _ _ ⟨(by omega), (by have := wg_cn_s n i; have := wg_cn_le n i; omega), hP, hS, lv_sub hl [2, 1, 0] rfl⟩ (by omega)
set_option maxHeartbeats 4000000 in
set_option maxRecDepth 100000 in
theorem c_M_isWord (l : Launch) (D : va_G) (cJ cI : ClassId) (sz : Nat) (n : Nat) (hn : n < 2 ^ 64) : Met l y_M_isWord (wg_ws y_M_isWord b_M_isWord 3 (some .boolean)) ({ frames := 1, cells := 0, slots := 0, locals := 22 }) (va_Pc [.long (lN n)] (wg_Pc D cJ cI (wg_W0 fun _ _ => 0) sz)) (va_Qi (fun (r : Int32) (u : Unit) => (r = nI 1 ∧ wg_ok n) ∨ (r = nI 0 ∧ ¬ wg_ok n)) (fun (_ : Unit) _ => True) (va_A (wg_W0 fun _ _ => 0) sz)) 0 0 (va_A (wg_W0 fun _ _ => 0) sz) := by
  refine wg_head (Wd := wg_W0) (I := (fun _ _ => 0)) (fun A => va_Qi (fun (r : Int32) (u : Unit) => (r = nI 1 ∧ wg_ok n) ∨ (r = nI 0 ∧ ¬ wg_ok n)) (fun (_ : Unit) _ => True) A) R_M (by decide) rfl (Nat.le_of_ble_eq_true rfl) wg_same_0 ?_
  intro p e s m below meth c A ls hx hb hr hlk hml hown hnm hts hA hK hD hP hS hl hsz
  clear hsz
  have hl : lv_has ls 3 [(0, .long (lN n))] := hl
  have hP : va_P D wg_cl (wg_W0 fun _ _ => 0) s.heap := hP
  skip
  refine lv_lload_n hx hb d_M_isWord_0 rfl (lv_at hl 0 rfl) ?_
  refine lv_lconst (v := lN 0) hx hb d_M_isWord_1 (by decide +kernel) ?_
  refine W.lcmp hx hb d_M_isWord_2 ?_
  refine lv_if_lt (tgt := 15) hx hb d_M_isWord_3 (by decide) (fun h3 => ?_) (fun h3 => ?_)
  · rw [lg_cmp_lt] at h3
    rw [wg_lneg hn] at h3
    refine lv_iconst (v := (nI 0)) hx hb d_M_isWord_15 (by decide +kernel) ?_
    exact W.zret (ty := .boolean) (v := (nI 0)) hx hb hr (by decide +kernel) (fun tt hth hW => ⟨⟨_, (), rfl, (Or.inr ⟨rfl, fun q => by have := q.1; omega⟩), trivial⟩, hS.F hth⟩) hS.2.2 d_M_isWord_16
  · rw [lg_cmp_lt] at h3
    rw [wg_lneg hn] at h3
    refine lv_lload_n hx hb d_M_isWord_6 rfl (lv_at hl 0 rfl) ?_
    refine lv_bipush (v := (nI 60)) hx hb d_M_isWord_7 (by decide +kernel) ?_
    refine lv_lshr (v := lN (n / 2 ^ 60)) hx hb d_M_isWord_9 (wg_lshr (by omega) (by omega)) ?_
    refine lv_lconst (v := lN 0) hx hb d_M_isWord_10 (by decide +kernel) ?_
    refine W.lcmp hx hb d_M_isWord_11 ?_
    refine lv_if_eq (tgt := 17) hx hb d_M_isWord_12 (by decide) (fun h12 => ?_) (fun h12 => ?_)
    · rw [lg_cmp_eq] at h12
      rw [pk_lEQ (by omega) (by omega)] at h12
      refine lv_iconst (v := (nI 0)) hx hb d_M_isWord_17 (by decide +kernel) ?_
      refine lv_istore_n (lv' := [(2, .int (nI 0)), (0, .long (lN n))]) hx hb d_M_isWord_18 rfl hl (by decide) rfl (fun ls hl => ?_)
      refine wg_loop (fun i _ _ _ H locs ls => (i ≤ 12) ∧ (∀ j, j < i → wg_lt n j ≤ 26 ∧ (0 < j → ¬ wg_lt n j = 0 → ¬ wg_lt n (j - 1) = 0)) ∧ va_P D wg_cl (wg_W0 fun _ _ => 0) H ∧ va_S A s.heap H locs ∧ lv_has ls 3 [(0, .long (lN n)), (2, .int (nI i))]) (fun i _ _ _ => 12 - i) (fun i _z0 _z1 _J H locs ls hI ih19 => ?_) 0 0 0 (fun _ _ => 0) _ _ _ ⟨(by omega), (fun j h => by omega), hP, hS, lv_sub hl [1, 0] rfl⟩
      obtain ⟨hi, hbb, hP, hS, hl⟩ := hI
      refine lv_iload_n hx hb d_M_isWord_19 rfl (lv_at hl 1 rfl) ?_
      refine lv_bipush (v := (nI 12)) hx hb d_M_isWord_20 (by decide +kernel) ?_
      refine lv_icmp_ge (tgt := 67) hx hb d_M_isWord_22 (by decide) (fun h22 => ?_) (fun h22 => ?_)
      · rw [nI_leI (by omega) (by omega)] at h22
        have hi : i = 12 := by omega
        refine lv_iconst (v := (nI 1)) hx hb d_M_isWord_67 (by decide +kernel) ?_
        exact W.zret (ty := .boolean) (v := (nI 1)) hx hb hr (by decide +kernel) (fun tt hth hW => ⟨⟨_, (), rfl, (Or.inl ⟨rfl, by omega, by rw [← hi]; exact hbb⟩), trivial⟩, hS.F hth⟩) hS.2.2 d_M_isWord_68
      · rw [nI_leI (by omega) (by omega)] at h22
        refine lv_lload_n hx hb d_M_isWord_25 rfl (lv_at hl 0 rfl) ?_
        refine lv_iload_n hx hb d_M_isWord_26 rfl (lv_at hl 1 rfl) ?_
        refine wg_csi (As := [.long (lN n), .int (nI i)]) (rest := []) hx hb hml hown hts hK hP hS hA (c_M_letter l D cJ cI _ n i (by omega) (by omega)) kc_M_36 ⟨rfl, rfl⟩ ⟨Nat.le_of_ble_eq_true rfl, Nat.le_of_ble_eq_true rfl⟩ rfl hl.1 rfl (Nat.le_of_ble_eq_true rfl) d_M_isWord_27 ⟨Nat.zero_le _, Nat.zero_le _⟩ (fun r H locs q27 hP hS => ?_)
        obtain rfl := q27
        have hq27 := wg_lt_le n i
        refine lv_bipush (v := (nI 26)) hx hb d_M_isWord_30 (by decide +kernel) ?_
        refine lv_icmp_le (tgt := 37) hx hb d_M_isWord_32 (by decide) (fun h32 => ?_) (fun h32 => ?_)
        · rw [nI_leI (by omega) (by omega)] at h32
          refine lv_iload_n hx hb d_M_isWord_37 rfl (lv_at hl 1 rfl) ?_
          refine lv_if_le (tgt := 61) hx hb d_M_isWord_38 (by decide) (fun h38 => ?_) (fun h38 => ?_)
          · rw [wg_le0 (by omega)] at h38
            refine lv_iinc (v := nI (i + 1)) (k := 1) (lv' := [(2, .int (nI (i + 1))), (0, .long (lN n))]) hx hb d_M_isWord_61 hl rfl (nI_1 _) (by decide) rfl (fun ls hl => ?_)
            refine lv_goto (tgt := 19) hx hb d_M_isWord_64 (by decide) ?_
            exact ih19 (i + 1) 0 0 (fun _ _ => 0) _ _ _ ⟨(by omega), (fun j h => by rcases Nat.lt_succ_iff_lt_or_eq.mp h with h | rfl; exact hbb j h; exact ⟨by omega, fun h0 hne => by first | omega | assumption⟩), hP, hS, lv_sub hl [1, 0] rfl⟩ (by omega)
          · rw [wg_le0 (by omega)] at h38
            refine lv_lload_n hx hb d_M_isWord_41 rfl (lv_at hl 0 rfl) ?_
            refine lv_iload_n hx hb d_M_isWord_42 rfl (lv_at hl 1 rfl) ?_
            refine wg_csi (As := [.long (lN n), .int (nI i)]) (rest := []) hx hb hml hown hts hK hP hS hA (c_M_letter l D cJ cI _ n i (by omega) (by omega)) kc_M_36 ⟨rfl, rfl⟩ ⟨Nat.le_of_ble_eq_true rfl, Nat.le_of_ble_eq_true rfl⟩ rfl hl.1 rfl (Nat.le_of_ble_eq_true rfl) d_M_isWord_43 ⟨Nat.zero_le _, Nat.zero_le _⟩ (fun r H locs q43 hP hS => ?_)
            obtain rfl := q43
            have hq43 := wg_lt_le n i
            refine lv_if_eq (tgt := 61) hx hb d_M_isWord_46 (by decide) (fun h46 => ?_) (fun h46 => ?_)
            · rw [wg_z0 (by omega)] at h46
              refine lv_iinc (v := nI (i + 1)) (k := 1) (lv' := [(2, .int (nI (i + 1))), (0, .long (lN n))]) hx hb d_M_isWord_61 hl rfl (nI_1 _) (by decide) rfl (fun ls hl => ?_)
              refine lv_goto (tgt := 19) hx hb d_M_isWord_64 (by decide) ?_
              exact ih19 (i + 1) 0 0 (fun _ _ => 0) _ _ _ ⟨(by omega), (fun j h => by rcases Nat.lt_succ_iff_lt_or_eq.mp h with h | rfl; exact hbb j h; exact ⟨by omega, fun h0 hne => by first | omega | assumption⟩), hP, hS, lv_sub hl [1, 0] rfl⟩ (by omega)
            · rw [wg_z0 (by omega)] at h46
              refine lv_lload_n hx hb d_M_isWord_49 rfl (lv_at hl 0 rfl) ?_
              refine lv_iload_n hx hb d_M_isWord_50 rfl (lv_at hl 1 rfl) ?_
              refine lv_iconst (v := (nI 1)) hx hb d_M_isWord_51 (by decide +kernel) ?_
              refine t_isub (v := nI (i - 1)) hx hb d_M_isWord_52 (pk_sub (by omega)) ?_
              refine wg_csi (As := [.long (lN n), .int (nI (i - 1))]) (rest := []) hx hb hml hown hts hK hP hS hA (c_M_letter l D cJ cI _ n (i - 1) (by omega) (by omega)) kc_M_36 ⟨rfl, rfl⟩ ⟨Nat.le_of_ble_eq_true rfl, Nat.le_of_ble_eq_true rfl⟩ rfl hl.1 rfl (Nat.le_of_ble_eq_true rfl) d_M_isWord_53 ⟨Nat.zero_le _, Nat.zero_le _⟩ (fun r H locs q53 hP hS => ?_)
              obtain rfl := q53
              have hq53 := wg_lt_le n (i - 1)
              refine lv_if_ne (tgt := 61) hx hb d_M_isWord_56 (by decide) (fun h56 => ?_) (fun h56 => ?_)
              · rw [wg_z0 (by omega)] at h56
                refine lv_iinc (v := nI (i + 1)) (k := 1) (lv' := [(2, .int (nI (i + 1))), (0, .long (lN n))]) hx hb d_M_isWord_61 hl rfl (nI_1 _) (by decide) rfl (fun ls hl => ?_)
                refine lv_goto (tgt := 19) hx hb d_M_isWord_64 (by decide) ?_
                exact ih19 (i + 1) 0 0 (fun _ _ => 0) _ _ _ ⟨(by omega), (fun j h => by rcases Nat.lt_succ_iff_lt_or_eq.mp h with h | rfl; exact hbb j h; exact ⟨by omega, fun h0 hne => by first | omega | assumption⟩), hP, hS, lv_sub hl [1, 0] rfl⟩ (by omega)
              · rw [wg_z0 (by omega)] at h56
                refine lv_iconst (v := (nI 0)) hx hb d_M_isWord_59 (by decide +kernel) ?_
                exact W.zret (ty := .boolean) (v := (nI 0)) hx hb hr (by decide +kernel) (fun tt hth hW => ⟨⟨_, (), rfl, (Or.inr ⟨rfl, fun q => (q.2 i (by omega)).2 (by omega) (by assumption) (by assumption)⟩), trivial⟩, hS.F hth⟩) hS.2.2 d_M_isWord_60
        · rw [nI_leI (by omega) (by omega)] at h32
          refine lv_iconst (v := (nI 0)) hx hb d_M_isWord_35 (by decide +kernel) ?_
          exact W.zret (ty := .boolean) (v := (nI 0)) hx hb hr (by decide +kernel) (fun tt hth hW => ⟨⟨_, (), rfl, (Or.inr ⟨rfl, fun q => by have := (q.2 i (by omega)).1; omega⟩), trivial⟩, hS.F hth⟩) hS.2.2 d_M_isWord_36
    · rw [lg_cmp_eq] at h12
      rw [pk_lEQ (by omega) (by omega)] at h12
      refine lv_iconst (v := (nI 0)) hx hb d_M_isWord_15 (by decide +kernel) ?_
      exact W.zret (ty := .boolean) (v := (nI 0)) hx hb hr (by decide +kernel) (fun tt hth hW => ⟨⟨_, (), rfl, (Or.inr ⟨rfl, fun q => by have := q.1; omega⟩), trivial⟩, hS.F hth⟩) hS.2.2 d_M_isWord_16
set_option maxHeartbeats 4000000 in
set_option maxRecDepth 100000 in
theorem c_M_size (l : Launch) (D : va_G) (cJ cI : ClassId) (h0 : Nat) (ad : Nat → Nat) (sz : Nat) (I : wg_S) : Met l y_M_size (wg_ws y_M_size b_M_size 1 (some .int)) ({ frames := 0, cells := 0, slots := 0, locals := 0 }) (va_Pc [.ref h0] (wg_Pc D cJ cI (wg_WM cJ cI h0 ad I) sz)) (va_Qi (fun (r : Int32) (u : Unit) => r = nI (I 1 0)) (fun (_ : Unit) t => va_P D wg_cl (wg_WM cJ cI h0 ad I) t.heap) (va_A (wg_WM cJ cI h0 ad I) sz)) 0 0 (va_A (wg_WM cJ cI h0 ad I) sz) := by
  refine wg_head (Wd := (fun I => wg_WM cJ cI h0 ad I)) (I := I) (fun A => va_Qi (fun (r : Int32) (u : Unit) => r = nI (I 1 0)) (fun (_ : Unit) t => va_P D wg_cl (wg_WM cJ cI h0 ad I) t.heap) A) R_M (by decide) rfl (Nat.le_of_ble_eq_true rfl) (fun I J => wg_same_M I J) ?_
  intro p e s m below meth c A ls hx hb hr hlk hml hown hnm hts hA hK hD hP hS hl hsz
  clear hsz
  have hl : lv_has ls 1 [(0, .ref h0)] := hl
  have hP : va_P D wg_cl (wg_WM cJ cI h0 ad I) s.heap := hP
  skip
  refine lv_aload_n hx hb d_M_size_0 rfl (lv_at hl 0 rfl) ?_
  refine wg_gM hx hb hts hown hK hP 1 (by decide) (v := .int (nI (I 1 0))) kf_M_32 rfl d_M_size_1 ?_
  exact W.iret (v := (nI (I 1 0))) hx hb hr (fun tt hth hW => ⟨⟨_, (), rfl, rfl, wg_h hth hP⟩, hS.F hth⟩) hS.2.2 d_M_size_4
set_option maxHeartbeats 4000000 in
set_option maxRecDepth 100000 in
theorem c_M_nodes (l : Launch) (D : va_G) (cJ cI : ClassId) (h0 : Nat) (ad : Nat → Nat) (sz : Nat) (I : wg_S) (hI : wg_MI I) : Met l y_M_nodes (wg_ws y_M_nodes b_M_nodes 1 (some .int)) ({ frames := 0, cells := 0, slots := 0, locals := 0 }) (va_Pc [.ref h0] (wg_Pc D cJ cI (wg_WM cJ cI h0 ad I) sz)) (va_Qi (fun (r : Int32) (u : Unit) => (¬ I 2 0 = 0 ∧ r = nI (I 9 0)) ∨ (I 2 0 = 0 ∧ r = nI 0)) (fun (_ : Unit) t => va_P D wg_cl (wg_WM cJ cI h0 ad I) t.heap) (va_A (wg_WM cJ cI h0 ad I) sz)) 0 0 (va_A (wg_WM cJ cI h0 ad I) sz) := by
  refine wg_head (Wd := (fun I => wg_WM cJ cI h0 ad I)) (I := I) (fun A => va_Qi (fun (r : Int32) (u : Unit) => (¬ I 2 0 = 0 ∧ r = nI (I 9 0)) ∨ (I 2 0 = 0 ∧ r = nI 0)) (fun (_ : Unit) t => va_P D wg_cl (wg_WM cJ cI h0 ad I) t.heap) A) R_M (by decide) rfl (Nat.le_of_ble_eq_true rfl) (fun I J => wg_same_M I J) ?_
  intro p e s m below meth c A ls hx hb hr hlk hml hown hnm hts hA hK hD hP hS hl hsz
  clear hsz
  have hl : lv_has ls 1 [(0, .ref h0)] := hl
  have hP : va_P D wg_cl (wg_WM cJ cI h0 ad I) s.heap := hP
  skip
  have hI' := hI
  obtain ⟨hn, hse, hfd, hnd, hw, hOW, hOL⟩ := hI'
  refine lv_aload_n hx hb d_M_nodes_0 rfl (lv_at hl 0 rfl) ?_
  refine wg_gM hx hb hts hown hK hP 2 (by decide) (v := .int (nI (I 2 0))) kf_M_40 rfl d_M_nodes_1 ?_
  refine lv_if_eq (tgt := 14) hx hb d_M_nodes_4 (by decide) (fun h4 => ?_) (fun h4 => ?_)
  · rw [wg_z0 (by omega)] at h4
    refine lv_iconst (v := (nI 0)) hx hb d_M_nodes_14 (by decide +kernel) ?_
    exact W.iret (v := (nI 0)) hx hb hr (fun tt hth hW => ⟨⟨_, (), rfl, (Or.inr ⟨h4, rfl⟩), wg_h hth hP⟩, hS.F hth⟩) hS.2.2 d_M_nodes_15
  · rw [wg_z0 (by omega)] at h4
    refine lv_aload_n hx hb d_M_nodes_7 rfl (lv_at hl 0 rfl) ?_
    refine wg_gM hx hb hts hown hK hP 9 (by decide) (v := .int (nI (I 9 0))) kf_M_60 rfl d_M_nodes_8 ?_
    refine lv_goto (tgt := 15) hx hb d_M_nodes_11 (by decide) ?_
    exact W.iret (v := (nI (I 9 0))) hx hb hr (fun tt hth hW => ⟨⟨_, (), rfl, (Or.inl ⟨h4, rfl⟩), wg_h hth hP⟩, hS.F hth⟩) hS.2.2 d_M_nodes_15
set_option maxHeartbeats 4000000 in
set_option maxRecDepth 100000 in
theorem c_M_clear (l : Launch) (D : va_G) (cJ cI : ClassId) (h0 : Nat) (ad : Nat → Nat) (sz : Nat) (I : wg_S) : Met l y_M_clear (wg_ws y_M_clear b_M_clear 1 none) ({ frames := 0, cells := 0, slots := 0, locals := 0 }) (va_Pc [.ref h0] (wg_Pc D cJ cI (wg_WM cJ cI h0 ad I) sz)) (va_Qv (fun (u : wg_S) => u = wg_st (wg_st (wg_st (wg_st I 2 0 0) 1 0 0) 3 0 0) 9 0 0) (fun (u : wg_S) t => va_P D wg_cl (wg_WM cJ cI h0 ad u) t.heap) (va_A (wg_WM cJ cI h0 ad I) sz)) 0 0 (va_A (wg_WM cJ cI h0 ad I) sz) := by
  refine wg_head (Wd := (fun I => wg_WM cJ cI h0 ad I)) (I := I) (fun A => va_Qv (fun (u : wg_S) => u = wg_st (wg_st (wg_st (wg_st I 2 0 0) 1 0 0) 3 0 0) 9 0 0) (fun (u : wg_S) t => va_P D wg_cl (wg_WM cJ cI h0 ad u) t.heap) A) R_M (by decide) rfl (Nat.le_of_ble_eq_true rfl) (fun I J => wg_same_M I J) ?_
  intro p e s m below meth c A ls hx hb hr hlk hml hown hnm hts hA hK hD hP hS hl hsz
  clear hsz
  have hl : lv_has ls 1 [(0, .ref h0)] := hl
  have hP : va_P D wg_cl (wg_WM cJ cI h0 ad I) s.heap := hP
  skip
  refine lv_aload_n hx hb d_M_clear_0 rfl (lv_at hl 0 rfl) ?_
  refine lv_iconst (v := (nI 0)) hx hb d_M_clear_1 (by decide +kernel) ?_
  refine wg_pM2 (v := 0) hx hb hts hown hK hP hD hS kf_M_40 (by decide +kernel) (by decide +kernel) d_M_clear_2 (fun H locs hP hS => ?_)
  refine lv_aload_n hx hb d_M_clear_5 rfl (lv_at hl 0 rfl) ?_
  refine lv_iconst (v := (nI 0)) hx hb d_M_clear_6 (by decide +kernel) ?_
  refine wg_pM1 (v := 0) hx hb hts hown hK hP hD hS kf_M_32 d_M_clear_7 (fun H locs hP hS => ?_)
  refine lv_aload_n hx hb d_M_clear_10 rfl (lv_at hl 0 rfl) ?_
  refine lv_iconst (v := (nI 0)) hx hb d_M_clear_11 (by decide +kernel) ?_
  refine wg_pM3 (v := 0) hx hb hts hown hK hP hD hS kf_M_70 d_M_clear_12 (fun H locs hP hS => ?_)
  refine lv_aload_n hx hb d_M_clear_15 rfl (lv_at hl 0 rfl) ?_
  refine lv_iconst (v := (nI 0)) hx hb d_M_clear_16 (by decide +kernel) ?_
  refine wg_pM9 (v := 0) hx hb hts hown hK hP hD hS kf_M_60 d_M_clear_17 (fun H locs hP hS => ?_)
  exact W.vret hx hb hr (fun tt hth hW => ⟨⟨(wg_st (wg_st (wg_st (wg_st I 2 0 0) 1 0 0) 3 0 0) 9 0 0), rfl, rfl, wg_h hth hP⟩, hS.F hth⟩) hS.2.2 d_M_clear_20
set_option maxHeartbeats 4000000 in
set_option maxRecDepth 100000 in
theorem c_M_word (l : Launch) (D : va_G) (cJ cI : ClassId) (h0 : Nat) (ad : Nat → Nat) (sz : Nat) (I : wg_S) (k : Int32) (hI : wg_MI I) : Met l y_M_word (wg_ws y_M_word b_M_word 2 (some .long)) ({ frames := 0, cells := 0, slots := 0, locals := 0 }) (va_Pc [.ref h0, .int k] (wg_Pc D cJ cI (wg_WM cJ cI h0 ad I) sz)) (va_Ql (fun (r : Int64) (u : Unit) => (∃ j, j < I 1 0 ∧ k = nI j ∧ r = lN (I 0 j)) ∨ ((∀ j, j < I 1 0 → ¬ k = nI j) ∧ r = -1)) (fun (_ : Unit) t => va_P D wg_cl (wg_WM cJ cI h0 ad I) t.heap) (va_A (wg_WM cJ cI h0 ad I) sz)) 0 0 (va_A (wg_WM cJ cI h0 ad I) sz) := by
  refine wg_head (Wd := (fun I => wg_WM cJ cI h0 ad I)) (I := I) (fun A => va_Ql (fun (r : Int64) (u : Unit) => (∃ j, j < I 1 0 ∧ k = nI j ∧ r = lN (I 0 j)) ∨ ((∀ j, j < I 1 0 → ¬ k = nI j) ∧ r = -1)) (fun (_ : Unit) t => va_P D wg_cl (wg_WM cJ cI h0 ad I) t.heap) A) R_M (by decide) rfl (Nat.le_of_ble_eq_true rfl) (fun I J => wg_same_M I J) ?_
  intro p e s m below meth c A ls hx hb hr hlk hml hown hnm hts hA hK hD hP hS hl hsz
  clear hsz
  have hl : lv_has ls 2 [(0, .ref h0), (1, .int k)] := hl
  have hP : va_P D wg_cl (wg_WM cJ cI h0 ad I) s.heap := hP
  skip
  have hI' := hI
  obtain ⟨hn, hse, hfd, hnd, hw, hOW, hOL⟩ := hI'
  refine lv_iload_n hx hb d_M_word_0 rfl (lv_at hl 1 rfl) ?_
  refine lv_if_lt (tgt := 21) hx hb d_M_word_1 (by decide) (fun h1 => ?_) (fun h1 => ?_)
  · refine lv_ldc2 (v := (-1)) hx hb hown (hts _ kl_M_73) d_M_word_21 ?_
    exact W.lret (v := (-1)) hx hb hr (fun tt hth hW => ⟨⟨_, (), rfl, (Or.inr ⟨by first | exact wg_has0a (by omega) h1 | exact wg_has0b (by omega) h9, rfl⟩), wg_h hth hP⟩, hS.F hth⟩) hS.2.2 d_M_word_24
  · refine lv_iload_n hx hb d_M_word_4 rfl (lv_at hl 1 rfl) ?_
    refine lv_aload_n hx hb d_M_word_5 rfl (lv_at hl 0 rfl) ?_
    refine wg_gM hx hb hts hown hK hP 1 (by decide) (v := .int (nI (I 1 0))) kf_M_32 rfl d_M_word_6 ?_
    refine lv_icmp_ge (tgt := 21) hx hb d_M_word_9 (by decide) (fun h9 => ?_) (fun h9 => ?_)
    · refine lv_ldc2 (v := (-1)) hx hb hown (hts _ kl_M_73) d_M_word_21 ?_
      exact W.lret (v := (-1)) hx hb hr (fun tt hth hW => ⟨⟨_, (), rfl, (Or.inr ⟨by first | exact wg_has0a (by omega) h1 | exact wg_has0b (by omega) h9, rfl⟩), wg_h hth hP⟩, hS.F hth⟩) hS.2.2 d_M_word_24
    · obtain ⟨j, hj, rfl⟩ := wg_has1 (by omega) h1 h9
      refine lv_aload_n hx hb d_M_word_12 rfl (lv_at hl 0 rfl) ?_
      refine wg_gM hx hb hts hown hK hP 0 (by decide) (v := .ref (ad 0)) kf_M_7 rfl d_M_word_13 ?_
      refine lv_iload_n hx hb d_M_word_16 rfl (lv_at hl 1 rfl) ?_
      refine wg_lld (f := I 0) (j := j) hx hb hK hP 1 rfl (by omega) (by decide) d_M_word_17 ?_
      have hB17 := hw j (by omega)
      refine lv_goto (tgt := 24) hx hb d_M_word_18 (by decide) ?_
      exact W.lret (v := (lN (I 0 j))) hx hb hr (fun tt hth hW => ⟨⟨_, (), rfl, (Or.inl ⟨j, hj, rfl, rfl⟩), wg_h hth hP⟩, hS.F hth⟩) hS.2.2 d_M_word_24
set_option maxHeartbeats 4000000 in
set_option maxRecDepth 100000 in
theorem c_M_result (l : Launch) (D : va_G) (cJ cI : ClassId) (h0 : Nat) (ad : Nat → Nat) (sz : Nat) (I : wg_S) (k : Int32) (hI : wg_MI I) : Met l y_M_result (wg_ws y_M_result b_M_result 2 (some .int)) ({ frames := 0, cells := 0, slots := 0, locals := 0 }) (va_Pc [.ref h0, .int k] (wg_Pc D cJ cI (wg_WM cJ cI h0 ad I) sz)) (va_Qi (fun (r : Int32) (u : Unit) => (∃ j, j < I 3 0 ∧ k = nI j ∧ r = nI (I 4 j)) ∨ ((∀ j, j < I 3 0 → ¬ k = nI j) ∧ r = -1)) (fun (_ : Unit) t => va_P D wg_cl (wg_WM cJ cI h0 ad I) t.heap) (va_A (wg_WM cJ cI h0 ad I) sz)) 0 0 (va_A (wg_WM cJ cI h0 ad I) sz) := by
  refine wg_head (Wd := (fun I => wg_WM cJ cI h0 ad I)) (I := I) (fun A => va_Qi (fun (r : Int32) (u : Unit) => (∃ j, j < I 3 0 ∧ k = nI j ∧ r = nI (I 4 j)) ∨ ((∀ j, j < I 3 0 → ¬ k = nI j) ∧ r = -1)) (fun (_ : Unit) t => va_P D wg_cl (wg_WM cJ cI h0 ad I) t.heap) A) R_M (by decide) rfl (Nat.le_of_ble_eq_true rfl) (fun I J => wg_same_M I J) ?_
  intro p e s m below meth c A ls hx hb hr hlk hml hown hnm hts hA hK hD hP hS hl hsz
  clear hsz
  have hl : lv_has ls 2 [(0, .ref h0), (1, .int k)] := hl
  have hP : va_P D wg_cl (wg_WM cJ cI h0 ad I) s.heap := hP
  skip
  have hI' := hI
  obtain ⟨hn, hse, hfd, hnd, hw, hOW, hOL⟩ := hI'
  refine lv_iload_n hx hb d_M_result_0 rfl (lv_at hl 1 rfl) ?_
  refine lv_if_lt (tgt := 21) hx hb d_M_result_1 (by decide) (fun h1 => ?_) (fun h1 => ?_)
  · refine lv_iconst (v := (-1)) hx hb d_M_result_21 (by decide +kernel) ?_
    exact W.iret (v := (-1)) hx hb hr (fun tt hth hW => ⟨⟨_, (), rfl, (Or.inr ⟨by first | exact wg_has0a (by omega) h1 | exact wg_has0b (by omega) h9, rfl⟩), wg_h hth hP⟩, hS.F hth⟩) hS.2.2 d_M_result_22
  · refine lv_iload_n hx hb d_M_result_4 rfl (lv_at hl 1 rfl) ?_
    refine lv_aload_n hx hb d_M_result_5 rfl (lv_at hl 0 rfl) ?_
    refine wg_gM hx hb hts hown hK hP 3 (by decide) (v := .int (nI (I 3 0))) kf_M_70 rfl d_M_result_6 ?_
    refine lv_icmp_ge (tgt := 21) hx hb d_M_result_9 (by decide) (fun h9 => ?_) (fun h9 => ?_)
    · refine lv_iconst (v := (-1)) hx hb d_M_result_21 (by decide +kernel) ?_
      exact W.iret (v := (-1)) hx hb hr (fun tt hth hW => ⟨⟨_, (), rfl, (Or.inr ⟨by first | exact wg_has0a (by omega) h1 | exact wg_has0b (by omega) h9, rfl⟩), wg_h hth hP⟩, hS.F hth⟩) hS.2.2 d_M_result_22
    · obtain ⟨j, hj, rfl⟩ := wg_has1 (by omega) h1 h9
      refine lv_aload_n hx hb d_M_result_12 rfl (lv_at hl 0 rfl) ?_
      refine wg_gM hx hb hts hown hK hP 4 (by decide) (v := .ref (ad 4)) kf_M_13 rfl d_M_result_13 ?_
      refine lv_iload_n hx hb d_M_result_16 rfl (lv_at hl 1 rfl) ?_
      refine wg_ild (f := I 4) (j := j) hx hb hK hP 2 rfl (by omega) (by decide) d_M_result_17 ?_
      refine lv_goto (tgt := 22) hx hb d_M_result_18 (by decide) ?_
      exact W.iret (v := (nI (I 4 j))) hx hb hr (fun tt hth hW => ⟨⟨_, (), rfl, (Or.inl ⟨j, hj, rfl, rfl⟩), wg_h hth hP⟩, hS.F hth⟩) hS.2.2 d_M_result_22
set_option maxHeartbeats 4000000 in
set_option maxRecDepth 100000 in
theorem c_M_far (l : Launch) (D : va_G) (cJ cI : ClassId) (h0 : Nat) (ad : Nat → Nat) (sz : Nat) (I : wg_S) (k : Int32) (hI : wg_MI I) : Met l y_M_far (wg_ws y_M_far b_M_far 2 (some .int)) ({ frames := 0, cells := 0, slots := 0, locals := 0 }) (va_Pc [.ref h0, .int k] (wg_Pc D cJ cI (wg_WM cJ cI h0 ad I) sz)) (va_Qi (fun (r : Int32) (u : Unit) => (∃ j, j < I 3 0 ∧ k = nI j ∧ r = nI (I 5 j)) ∨ ((∀ j, j < I 3 0 → ¬ k = nI j) ∧ r = -1)) (fun (_ : Unit) t => va_P D wg_cl (wg_WM cJ cI h0 ad I) t.heap) (va_A (wg_WM cJ cI h0 ad I) sz)) 0 0 (va_A (wg_WM cJ cI h0 ad I) sz) := by
  refine wg_head (Wd := (fun I => wg_WM cJ cI h0 ad I)) (I := I) (fun A => va_Qi (fun (r : Int32) (u : Unit) => (∃ j, j < I 3 0 ∧ k = nI j ∧ r = nI (I 5 j)) ∨ ((∀ j, j < I 3 0 → ¬ k = nI j) ∧ r = -1)) (fun (_ : Unit) t => va_P D wg_cl (wg_WM cJ cI h0 ad I) t.heap) A) R_M (by decide) rfl (Nat.le_of_ble_eq_true rfl) (fun I J => wg_same_M I J) ?_
  intro p e s m below meth c A ls hx hb hr hlk hml hown hnm hts hA hK hD hP hS hl hsz
  clear hsz
  have hl : lv_has ls 2 [(0, .ref h0), (1, .int k)] := hl
  have hP : va_P D wg_cl (wg_WM cJ cI h0 ad I) s.heap := hP
  skip
  have hI' := hI
  obtain ⟨hn, hse, hfd, hnd, hw, hOW, hOL⟩ := hI'
  refine lv_iload_n hx hb d_M_far_0 rfl (lv_at hl 1 rfl) ?_
  refine lv_if_lt (tgt := 21) hx hb d_M_far_1 (by decide) (fun h1 => ?_) (fun h1 => ?_)
  · refine lv_iconst (v := (-1)) hx hb d_M_far_21 (by decide +kernel) ?_
    exact W.iret (v := (-1)) hx hb hr (fun tt hth hW => ⟨⟨_, (), rfl, (Or.inr ⟨by first | exact wg_has0a (by omega) h1 | exact wg_has0b (by omega) h9, rfl⟩), wg_h hth hP⟩, hS.F hth⟩) hS.2.2 d_M_far_22
  · refine lv_iload_n hx hb d_M_far_4 rfl (lv_at hl 1 rfl) ?_
    refine lv_aload_n hx hb d_M_far_5 rfl (lv_at hl 0 rfl) ?_
    refine wg_gM hx hb hts hown hK hP 3 (by decide) (v := .int (nI (I 3 0))) kf_M_70 rfl d_M_far_6 ?_
    refine lv_icmp_ge (tgt := 21) hx hb d_M_far_9 (by decide) (fun h9 => ?_) (fun h9 => ?_)
    · refine lv_iconst (v := (-1)) hx hb d_M_far_21 (by decide +kernel) ?_
      exact W.iret (v := (-1)) hx hb hr (fun tt hth hW => ⟨⟨_, (), rfl, (Or.inr ⟨by first | exact wg_has0a (by omega) h1 | exact wg_has0b (by omega) h9, rfl⟩), wg_h hth hP⟩, hS.F hth⟩) hS.2.2 d_M_far_22
    · obtain ⟨j, hj, rfl⟩ := wg_has1 (by omega) h1 h9
      refine lv_aload_n hx hb d_M_far_12 rfl (lv_at hl 0 rfl) ?_
      refine wg_gM hx hb hts hown hK hP 5 (by decide) (v := .ref (ad 5)) kf_M_17 rfl d_M_far_13 ?_
      refine lv_iload_n hx hb d_M_far_16 rfl (lv_at hl 1 rfl) ?_
      refine wg_ild (f := I 5) (j := j) hx hb hK hP 3 rfl (by omega) (by decide) d_M_far_17 ?_
      refine lv_goto (tgt := 22) hx hb d_M_far_18 (by decide) ?_
      exact W.iret (v := (nI (I 5 j))) hx hb hr (fun tt hth hW => ⟨⟨_, (), rfl, (Or.inl ⟨j, hj, rfl, rfl⟩), wg_h hth hP⟩, hS.F hth⟩) hS.2.2 d_M_far_22
set_option maxHeartbeats 4000000 in
set_option maxRecDepth 100000 in
theorem c_M_find (l : Launch) (D : va_G) (cJ cI : ClassId) (h0 : Nat) (ad : Nat → Nat) (sz : Nat) (I : wg_S) (n : Nat) (hI : wg_MI I) : Met l y_M_find (wg_ws y_M_find b_M_find 4 (some .int)) ({ frames := 0, cells := 0, slots := 0, locals := 0 }) (va_Pc [.ref h0, .long (lN n)] (wg_Pc D cJ cI (wg_WM cJ cI h0 ad I) sz)) (va_Qi (fun (r : Int32) (u : Unit) => I 1 0 = 0 → r = -1) (fun (_ : Unit) t => va_P D wg_cl (wg_WM cJ cI h0 ad I) t.heap) (va_A (wg_WM cJ cI h0 ad I) sz)) 0 0 (va_A (wg_WM cJ cI h0 ad I) sz) := by
  refine wg_head (Wd := (fun I => wg_WM cJ cI h0 ad I)) (I := I) (fun A => va_Qi (fun (r : Int32) (u : Unit) => I 1 0 = 0 → r = -1) (fun (_ : Unit) t => va_P D wg_cl (wg_WM cJ cI h0 ad I) t.heap) A) R_M (by decide) rfl (Nat.le_of_ble_eq_true rfl) (fun I J => wg_same_M I J) ?_
  intro p e s m below meth c A ls hx hb hr hlk hml hown hnm hts hA hK hD hP hS hl hsz
  clear hsz
  have hl : lv_has ls 4 [(0, .ref h0), (1, .long (lN n))] := hl
  have hP : va_P D wg_cl (wg_WM cJ cI h0 ad I) s.heap := hP
  skip
  have hI' := hI
  obtain ⟨hn, hse, hfd, hnd, hw, hOW, hOL⟩ := hI'
  refine lv_iconst (v := (nI 0)) hx hb d_M_find_0 (by decide +kernel) ?_
  refine lv_istore_n (lv' := [(3, .int (nI 0)), (0, .ref h0), (1, .long (lN n))]) hx hb d_M_find_1 rfl hl (by decide) rfl (fun ls hl => ?_)
  refine wg_loop (fun k _ _ _ H locs ls => (k ≤ I 1 0) ∧ va_P D wg_cl (wg_WM cJ cI h0 ad I) H ∧ va_S A s.heap H locs ∧ lv_has ls 4 [(0, .ref h0), (1, .long (lN n)), (3, .int (nI k))]) (fun k _ _ _ => I 1 0 - k) (fun k _z0 _z1 _J H locs ls hI ih2 => ?_) 0 0 0 (fun _ _ => 0) _ _ _ ⟨(by omega), hP, hS, lv_sub hl [1, 2, 0] rfl⟩
  obtain ⟨hk, hP, hS, hl⟩ := hI
  refine lv_iload_n hx hb d_M_find_2 rfl (lv_at hl 2 rfl) ?_
  refine lv_aload_n hx hb d_M_find_3 rfl (lv_at hl 0 rfl) ?_
  refine wg_gM hx hb hts hown hK hP 1 (by decide) (v := .int (nI (I 1 0))) kf_M_32 rfl d_M_find_4 ?_
  refine lv_icmp_ge (tgt := 36) hx hb d_M_find_7 (by decide) (fun h7 => ?_) (fun h7 => ?_)
  · rw [nI_leI (by omega) (by omega)] at h7
    refine lv_iconst (v := (-1)) hx hb d_M_find_36 (by decide +kernel) ?_
    exact W.iret (v := (-1)) hx hb hr (fun tt hth hW => ⟨⟨_, (), rfl, (fun _ => rfl), wg_h hth hP⟩, hS.F hth⟩) hS.2.2 d_M_find_37
  · rw [nI_leI (by omega) (by omega)] at h7
    refine lv_aload_n hx hb d_M_find_10 rfl (lv_at hl 0 rfl) ?_
    refine wg_gM hx hb hts hown hK hP 2 (by decide) (v := .int (nI (I 2 0))) kf_M_40 rfl d_M_find_11 ?_
    refine lv_if_eq (tgt := 30) hx hb d_M_find_14 (by decide) (fun h14 => ?_) (fun h14 => ?_)
    · rw [wg_z0 (by omega)] at h14
      refine lv_iinc (v := nI (k + 1)) (k := 2) (lv' := [(3, .int (nI (k + 1))), (0, .ref h0), (1, .long (lN n))]) hx hb d_M_find_30 hl rfl (nI_1 _) (by decide) rfl (fun ls hl => ?_)
      refine lv_goto (tgt := 2) hx hb d_M_find_33 (by decide) ?_
      exact ih2 (k + 1) 0 0 (fun _ _ => 0) _ _ _ ⟨(by omega), hP, hS, lv_sub hl [1, 2, 0] rfl⟩ (by omega)
    · rw [wg_z0 (by omega)] at h14
      refine lv_aload_n hx hb d_M_find_17 rfl (lv_at hl 0 rfl) ?_
      refine wg_gM hx hb hts hown hK hP 0 (by decide) (v := .ref (ad 0)) kf_M_7 rfl d_M_find_18 ?_
      refine lv_iload_n hx hb d_M_find_21 rfl (lv_at hl 2 rfl) ?_
      refine wg_lld (f := I 0) (j := k) hx hb hK hP 1 rfl (by omega) (by decide) d_M_find_22 ?_
      refine lv_lload_n hx hb d_M_find_23 rfl (lv_at hl 1 rfl) ?_
      refine W.lcmp hx hb d_M_find_24 ?_
      refine lv_if_ne (tgt := 30) hx hb d_M_find_25 (by decide) (fun h25 => ?_) (fun h25 => ?_)
      · rw [lg_cmp_eq] at h25
        refine lv_iinc (v := nI (k + 1)) (k := 2) (lv' := [(3, .int (nI (k + 1))), (0, .ref h0), (1, .long (lN n))]) hx hb d_M_find_30 hl rfl (nI_1 _) (by decide) rfl (fun ls hl => ?_)
        refine lv_goto (tgt := 2) hx hb d_M_find_33 (by decide) ?_
        exact ih2 (k + 1) 0 0 (fun _ _ => 0) _ _ _ ⟨(by omega), hP, hS, lv_sub hl [1, 2, 0] rfl⟩ (by omega)
      · rw [lg_cmp_eq] at h25
        refine lv_iload_n hx hb d_M_find_28 rfl (lv_at hl 2 rfl) ?_
        exact W.iret (v := (nI k)) hx hb hr (fun tt hth hW => ⟨⟨_, (), rfl, (fun _ => by omega), wg_h hth hP⟩, hS.F hth⟩) hS.2.2 d_M_find_29
set_option maxHeartbeats 4000000 in
set_option maxRecDepth 100000 in
theorem c_M_isNode (l : Launch) (D : va_G) (cJ cI : ClassId) (h0 : Nat) (ad : Nat → Nat) (sz : Nat) (I : wg_S) (x : Int32) (hI : wg_MI I) : Met l y_M_isNode (wg_ws y_M_isNode b_M_isNode 2 (some .boolean)) ({ frames := 0, cells := 0, slots := 0, locals := 0 }) (va_Pc [.ref h0, .int x] (wg_Pc D cJ cI (wg_WM cJ cI h0 ad I) sz)) (va_Qi (fun (r : Int32) (u : Unit) => (r = nI 1 ∧ ¬ I 2 0 = 0 ∧ 0 < I 1 0 ∧ ∃ j, j < I 9 0 ∧ x = nI j) ∨ (r = nI 0 ∧ ¬ (¬ I 2 0 = 0 ∧ 0 < I 1 0 ∧ ∃ j, j < I 9 0 ∧ x = nI j))) (fun (_ : Unit) t => va_P D wg_cl (wg_WM cJ cI h0 ad I) t.heap) (va_A (wg_WM cJ cI h0 ad I) sz)) 0 0 (va_A (wg_WM cJ cI h0 ad I) sz) := by
  refine wg_head (Wd := (fun I => wg_WM cJ cI h0 ad I)) (I := I) (fun A => va_Qi (fun (r : Int32) (u : Unit) => (r = nI 1 ∧ ¬ I 2 0 = 0 ∧ 0 < I 1 0 ∧ ∃ j, j < I 9 0 ∧ x = nI j) ∨ (r = nI 0 ∧ ¬ (¬ I 2 0 = 0 ∧ 0 < I 1 0 ∧ ∃ j, j < I 9 0 ∧ x = nI j))) (fun (_ : Unit) t => va_P D wg_cl (wg_WM cJ cI h0 ad I) t.heap) A) R_M (by decide) rfl (Nat.le_of_ble_eq_true rfl) (fun I J => wg_same_M I J) ?_
  intro p e s m below meth c A ls hx hb hr hlk hml hown hnm hts hA hK hD hP hS hl hsz
  clear hsz
  have hl : lv_has ls 2 [(0, .ref h0), (1, .int x)] := hl
  have hP : va_P D wg_cl (wg_WM cJ cI h0 ad I) s.heap := hP
  skip
  have hI' := hI
  obtain ⟨hn, hse, hfd, hnd, hw, hOW, hOL⟩ := hI'
  refine lv_aload_n hx hb d_M_isNode_0 rfl (lv_at hl 0 rfl) ?_
  refine wg_gM hx hb hts hown hK hP 2 (by decide) (v := .int (nI (I 2 0))) kf_M_40 rfl d_M_isNode_1 ?_
  refine lv_if_eq (tgt := 30) hx hb d_M_isNode_4 (by decide) (fun h4 => ?_) (fun h4 => ?_)
  · rw [wg_z0 (by omega)] at h4
    refine lv_iconst (v := (nI 0)) hx hb d_M_isNode_30 (by decide +kernel) ?_
    exact W.zret (ty := .boolean) (v := (nI 0)) hx hb hr (by decide +kernel) (fun tt hth hW => ⟨⟨_, (), rfl, (Or.inr ⟨rfl, by rintro ⟨q1, q2, j, q3, q4⟩; first | omega | exact wg_has0a (n := I 9 0) (by omega) h8 j q3 q4 | exact wg_has0b (n := I 9 0) (by omega) h16 j q3 q4⟩), wg_h hth hP⟩, hS.F hth⟩) hS.2.2 d_M_isNode_31
  · rw [wg_z0 (by omega)] at h4
    refine lv_iload_n hx hb d_M_isNode_7 rfl (lv_at hl 1 rfl) ?_
    refine lv_if_lt (tgt := 30) hx hb d_M_isNode_8 (by decide) (fun h8 => ?_) (fun h8 => ?_)
    · refine lv_iconst (v := (nI 0)) hx hb d_M_isNode_30 (by decide +kernel) ?_
      exact W.zret (ty := .boolean) (v := (nI 0)) hx hb hr (by decide +kernel) (fun tt hth hW => ⟨⟨_, (), rfl, (Or.inr ⟨rfl, by rintro ⟨q1, q2, j, q3, q4⟩; first | omega | exact wg_has0a (n := I 9 0) (by omega) h8 j q3 q4 | exact wg_has0b (n := I 9 0) (by omega) h16 j q3 q4⟩), wg_h hth hP⟩, hS.F hth⟩) hS.2.2 d_M_isNode_31
    · refine lv_iload_n hx hb d_M_isNode_11 rfl (lv_at hl 1 rfl) ?_
      refine lv_aload_n hx hb d_M_isNode_12 rfl (lv_at hl 0 rfl) ?_
      refine wg_gM hx hb hts hown hK hP 9 (by decide) (v := .int (nI (I 9 0))) kf_M_60 rfl d_M_isNode_13 ?_
      refine lv_icmp_ge (tgt := 30) hx hb d_M_isNode_16 (by decide) (fun h16 => ?_) (fun h16 => ?_)
      · refine lv_iconst (v := (nI 0)) hx hb d_M_isNode_30 (by decide +kernel) ?_
        exact W.zret (ty := .boolean) (v := (nI 0)) hx hb hr (by decide +kernel) (fun tt hth hW => ⟨⟨_, (), rfl, (Or.inr ⟨rfl, by rintro ⟨q1, q2, j, q3, q4⟩; first | omega | exact wg_has0a (n := I 9 0) (by omega) h8 j q3 q4 | exact wg_has0b (n := I 9 0) (by omega) h16 j q3 q4⟩), wg_h hth hP⟩, hS.F hth⟩) hS.2.2 d_M_isNode_31
      · refine lv_aload_n hx hb d_M_isNode_19 rfl (lv_at hl 0 rfl) ?_
        refine wg_gM hx hb hts hown hK hP 1 (by decide) (v := .int (nI (I 1 0))) kf_M_32 rfl d_M_isNode_20 ?_
        refine lv_if_le (tgt := 30) hx hb d_M_isNode_23 (by decide) (fun h23 => ?_) (fun h23 => ?_)
        · rw [wg_le0 (by omega)] at h23
          refine lv_iconst (v := (nI 0)) hx hb d_M_isNode_30 (by decide +kernel) ?_
          exact W.zret (ty := .boolean) (v := (nI 0)) hx hb hr (by decide +kernel) (fun tt hth hW => ⟨⟨_, (), rfl, (Or.inr ⟨rfl, by rintro ⟨q1, q2, j, q3, q4⟩; first | omega | exact wg_has0a (n := I 9 0) (by omega) h8 j q3 q4 | exact wg_has0b (n := I 9 0) (by omega) h16 j q3 q4⟩), wg_h hth hP⟩, hS.F hth⟩) hS.2.2 d_M_isNode_31
        · rw [wg_le0 (by omega)] at h23
          refine lv_iconst (v := (nI 1)) hx hb d_M_isNode_26 (by decide +kernel) ?_
          refine lv_goto (tgt := 31) hx hb d_M_isNode_27 (by decide) ?_
          exact W.zret (ty := .boolean) (v := (nI 1)) hx hb hr (by decide +kernel) (fun tt hth hW => ⟨⟨_, (), rfl, (Or.inl ⟨rfl, h4, by omega, wg_has1 (by omega) h8 h16⟩), wg_h hth hP⟩, hS.F hth⟩) hS.2.2 d_M_isNode_31
set_option maxHeartbeats 4000000 in
set_option maxRecDepth 100000 in
theorem c_M_share (l : Launch) (D : va_G) (cJ cI : ClassId) (h0 : Nat) (ad : Nat → Nat) (sz : Nat) (I : wg_S) (a : Nat) (b : Nat) (k : Nat) (ha : a < 48) (hb48 : b < 48) (hk : k ≤ 12) (hI : wg_MI I) : Met l y_M_share (wg_ws y_M_share b_M_share 5 (some .boolean)) ({ frames := 1, cells := 0, slots := 0, locals := 22 }) (va_Pc [.ref h0, .int (nI a), .int (nI b), .int (nI k)] (wg_Pc D cJ cI (wg_WM cJ cI h0 ad I) sz)) (va_Qi (fun (r : Int32) (u : Unit) => (r = nI 1 ∧ wg_sh (I 0 a) (I 0 b) k) ∨ (r = nI 0 ∧ ¬ wg_sh (I 0 a) (I 0 b) k)) (fun (_ : Unit) t => va_P D wg_cl (wg_WM cJ cI h0 ad I) t.heap) (va_A (wg_WM cJ cI h0 ad I) sz)) 0 0 (va_A (wg_WM cJ cI h0 ad I) sz) := by
  refine wg_head (Wd := (fun I => wg_WM cJ cI h0 ad I)) (I := I) (fun A => va_Qi (fun (r : Int32) (u : Unit) => (r = nI 1 ∧ wg_sh (I 0 a) (I 0 b) k) ∨ (r = nI 0 ∧ ¬ wg_sh (I 0 a) (I 0 b) k)) (fun (_ : Unit) t => va_P D wg_cl (wg_WM cJ cI h0 ad I) t.heap) A) R_M (by decide) rfl (Nat.le_of_ble_eq_true rfl) (fun I J => wg_same_M I J) ?_
  intro p e s m below meth c A ls hx hb hr hlk hml hown hnm hts hA hK hD hP hS hl hsz
  clear hsz
  have hl : lv_has ls 5 [(0, .ref h0), (1, .int (nI a)), (2, .int (nI b)), (3, .int (nI k))] := hl
  have hP : va_P D wg_cl (wg_WM cJ cI h0 ad I) s.heap := hP
  skip
  have hI' := hI
  obtain ⟨hn, hse, hfd, hnd, hw, hOW, hOL⟩ := hI'
  refine lv_iconst (v := (nI 0)) hx hb d_M_share_0 (by decide +kernel) ?_
  refine lv_istore (lv' := [(4, .int (nI 0)), (0, .ref h0), (1, .int (nI a)), (2, .int (nI b)), (3, .int (nI k))]) hx hb d_M_share_1 hl (by decide) rfl (fun ls hl => ?_)
  refine wg_loop (fun i _ _ _ H locs ls => (i ≤ k) ∧ (wg_sh (I 0 a) (I 0 b) i) ∧ va_P D wg_cl (wg_WM cJ cI h0 ad I) H ∧ va_S A s.heap H locs ∧ lv_has ls 5 [(0, .ref h0), (1, .int (nI a)), (2, .int (nI b)), (3, .int (nI k)), (4, .int (nI i))]) (fun i _ _ _ => 12 - i) (fun i _z0 _z1 _J H locs ls hI ih3 => ?_) 0 0 0 (fun _ _ => 0) _ _ _ ⟨(by omega), (fun j h => by omega), hP, hS, lv_sub hl [1, 2, 3, 4, 0] rfl⟩
  obtain ⟨hi, hs, hP, hS, hl⟩ := hI
  refine lv_iload hx hb d_M_share_3 (lv_at hl 4 rfl) ?_
  refine lv_iload_n hx hb d_M_share_5 rfl (lv_at hl 3 rfl) ?_
  refine lv_icmp_ge (tgt := 56) hx hb d_M_share_6 (by decide) (fun h6 => ?_) (fun h6 => ?_)
  · rw [nI_leI (by omega) (by omega)] at h6
    have hi : i = k := by omega
    refine lv_iconst (v := (nI 1)) hx hb d_M_share_56 (by decide +kernel) ?_
    exact W.zret (ty := .boolean) (v := (nI 1)) hx hb hr (by decide +kernel) (fun tt hth hW => ⟨⟨_, (), rfl, (Or.inl ⟨rfl, by rw [← hi]; exact hs⟩), wg_h hth hP⟩, hS.F hth⟩) hS.2.2 d_M_share_57
  · rw [nI_leI (by omega) (by omega)] at h6
    refine lv_aload_n hx hb d_M_share_9 rfl (lv_at hl 0 rfl) ?_
    refine wg_gM hx hb hts hown hK hP 0 (by decide) (v := .ref (ad 0)) kf_M_7 rfl d_M_share_10 ?_
    refine lv_iload_n hx hb d_M_share_13 rfl (lv_at hl 1 rfl) ?_
    refine wg_lld (f := I 0) (j := a) hx hb hK hP 1 rfl (by omega) (by decide) d_M_share_14 ?_
    have hB14 := hw a (by omega)
    refine lv_iload hx hb d_M_share_15 (lv_at hl 4 rfl) ?_
    refine wg_csi (As := [.long (lN (I 0 a)), .int (nI i)]) (rest := []) hx hb hml hown hts hK hP hS hA (c_M_letter l D cJ cI _ (I 0 a) i (by omega) (by omega)) kc_M_36 ⟨rfl, rfl⟩ ⟨Nat.le_of_ble_eq_true rfl, Nat.le_of_ble_eq_true rfl⟩ rfl hl.1 rfl (Nat.le_of_ble_eq_true rfl) d_M_share_17 ⟨Nat.zero_le _, Nat.zero_le _⟩ (fun r H locs q17 hP hS => ?_)
    obtain rfl := q17
    have hq17 := wg_lt_le (I 0 a) i
    refine lv_if_eq (tgt := 48) hx hb d_M_share_20 (by decide) (fun h20 => ?_) (fun h20 => ?_)
    · rw [wg_z0 (by omega)] at h20
      refine lv_iconst (v := (nI 0)) hx hb d_M_share_48 (by decide +kernel) ?_
      exact W.zret (ty := .boolean) (v := (nI 0)) hx hb hr (by decide +kernel) (fun tt hth hW => ⟨⟨_, (), rfl, (Or.inr ⟨rfl, fun q => by first | exact (q i (by omega)).1 h20 | exact h45 (q i (by omega)).2⟩), wg_h hth hP⟩, hS.F hth⟩) hS.2.2 d_M_share_49
    · rw [wg_z0 (by omega)] at h20
      refine lv_aload_n hx hb d_M_share_23 rfl (lv_at hl 0 rfl) ?_
      refine wg_gM hx hb hts hown hK hP 0 (by decide) (v := .ref (ad 0)) kf_M_7 rfl d_M_share_24 ?_
      refine lv_iload_n hx hb d_M_share_27 rfl (lv_at hl 1 rfl) ?_
      refine wg_lld (f := I 0) (j := a) hx hb hK hP 1 rfl (by omega) (by decide) d_M_share_28 ?_
      have hB28 := hw a (by omega)
      refine lv_iload hx hb d_M_share_29 (lv_at hl 4 rfl) ?_
      refine wg_csi (As := [.long (lN (I 0 a)), .int (nI i)]) (rest := []) hx hb hml hown hts hK hP hS hA (c_M_letter l D cJ cI _ (I 0 a) i (by omega) (by omega)) kc_M_36 ⟨rfl, rfl⟩ ⟨Nat.le_of_ble_eq_true rfl, Nat.le_of_ble_eq_true rfl⟩ rfl hl.1 rfl (Nat.le_of_ble_eq_true rfl) d_M_share_31 ⟨Nat.zero_le _, Nat.zero_le _⟩ (fun r H locs q31 hP hS => ?_)
      obtain rfl := q31
      have hq31 := wg_lt_le (I 0 a) i
      refine lv_aload_n hx hb d_M_share_34 rfl (lv_at hl 0 rfl) ?_
      refine wg_gM hx hb hts hown hK hP 0 (by decide) (v := .ref (ad 0)) kf_M_7 rfl d_M_share_35 ?_
      refine lv_iload_n hx hb d_M_share_38 rfl (lv_at hl 2 rfl) ?_
      refine wg_lld (f := I 0) (j := b) hx hb hK hP 1 rfl (by omega) (by decide) d_M_share_39 ?_
      have hB39 := hw b (by omega)
      refine lv_iload hx hb d_M_share_40 (lv_at hl 4 rfl) ?_
      refine wg_csi (As := [.long (lN (I 0 b)), .int (nI i)]) (rest := [.int (nI (wg_lt (I 0 a) i))]) hx hb hml hown hts hK hP hS hA (c_M_letter l D cJ cI _ (I 0 b) i (by omega) (by omega)) kc_M_36 ⟨rfl, rfl⟩ ⟨Nat.le_of_ble_eq_true rfl, Nat.le_of_ble_eq_true rfl⟩ rfl hl.1 rfl (Nat.le_of_ble_eq_true rfl) d_M_share_42 ⟨Nat.zero_le _, Nat.zero_le _⟩ (fun r H locs q42 hP hS => ?_)
      obtain rfl := q42
      have hq42 := wg_lt_le (I 0 b) i
      refine lv_icmp_eq (tgt := 50) hx hb d_M_share_45 (by decide) (fun h45 => ?_) (fun h45 => ?_)
      · rw [nI_eq (by omega) (by omega)] at h45
        refine lv_iinc (v := nI (i + 1)) (k := 4) (lv' := [(4, .int (nI (i + 1))), (0, .ref h0), (1, .int (nI a)), (2, .int (nI b)), (3, .int (nI k))]) hx hb d_M_share_50 hl rfl (nI_1 _) (by decide) rfl (fun ls hl => ?_)
        refine lv_goto (tgt := 3) hx hb d_M_share_53 (by decide) ?_
        exact ih3 (i + 1) 0 0 (fun _ _ => 0) _ _ _ ⟨(by omega), (fun j h => by rcases Nat.lt_succ_iff_lt_or_eq.mp h with h | rfl; exact hs j h; exact ⟨h20, h45⟩), hP, hS, lv_sub hl [1, 2, 3, 4, 0] rfl⟩ (by omega)
      · rw [nI_eq (by omega) (by omega)] at h45
        refine lv_iconst (v := (nI 0)) hx hb d_M_share_48 (by decide +kernel) ?_
        exact W.zret (ty := .boolean) (v := (nI 0)) hx hb hr (by decide +kernel) (fun tt hth hW => ⟨⟨_, (), rfl, (Or.inr ⟨rfl, fun q => by first | exact (q i (by omega)).1 h20 | exact h45 (q i (by omega)).2⟩), wg_h hth hP⟩, hS.F hth⟩) hS.2.2 d_M_share_49
set_option maxHeartbeats 4000000 in
set_option maxRecDepth 100000 in
theorem c_M_also (l : Launch) (D : va_G) (cJ cI : ClassId) (h0 : Nat) (ad : Nat → Nat) (sz : Nat) (I : wg_S) (t : Nat) (n : Nat) (v : Nat) (mm : Nat) (ht : t < 48) (hnn : n ≤ 12) (hv : v < 48) (hm : mm ≤ 12) (hI : wg_MI I) : Met l y_M_also (wg_ws y_M_also b_M_also 8 (some .boolean)) ({ frames := 2, cells := 0, slots := 0, locals := 46 }) (va_Pc [.ref h0, .int (nI t), .int (nI n), .int (nI v), .int (nI mm)] (wg_Pc D cJ cI (wg_WM cJ cI h0 ad I) sz)) (va_Qi (fun (r : Int32) (u : Unit) => r = nI 1 ∨ r = nI 0) (fun (_ : Unit) t => va_P D wg_cl (wg_WM cJ cI h0 ad I) t.heap) (va_A (wg_WM cJ cI h0 ad I) sz)) 0 0 (va_A (wg_WM cJ cI h0 ad I) sz) := by
  refine wg_head (Wd := (fun I => wg_WM cJ cI h0 ad I)) (I := I) (fun A => va_Qi (fun (r : Int32) (u : Unit) => r = nI 1 ∨ r = nI 0) (fun (_ : Unit) t => va_P D wg_cl (wg_WM cJ cI h0 ad I) t.heap) A) R_M (by decide) rfl (Nat.le_of_ble_eq_true rfl) (fun I J => wg_same_M I J) ?_
  intro p e s m below meth c A ls hx hb hr hlk hml hown hnm hts hA hK hD hP hS hl hsz
  clear hsz
  have hl : lv_has ls 8 [(0, .ref h0), (1, .int (nI t)), (2, .int (nI n)), (3, .int (nI v)), (4, .int (nI mm))] := hl
  have hP : va_P D wg_cl (wg_WM cJ cI h0 ad I) s.heap := hP
  skip
  have hI' := hI
  obtain ⟨hn, hse, hfd, hnd, hw, hOW, hOL⟩ := hI'
  refine lv_iconst (v := (nI 0)) hx hb d_M_also_0 (by decide +kernel) ?_
  refine lv_istore (lv' := [(5, .int (nI 0)), (0, .ref h0), (1, .int (nI t)), (2, .int (nI n)), (3, .int (nI v)), (4, .int (nI mm))]) hx hb d_M_also_1 hl (by decide) rfl (fun ls hl => ?_)
  refine wg_loop (fun x _ _ _ H locs ls => (x ≤ 48) ∧ va_P D wg_cl (wg_WM cJ cI h0 ad I) H ∧ va_S A s.heap H locs ∧ lv_has ls 8 [(0, .ref h0), (1, .int (nI t)), (2, .int (nI n)), (3, .int (nI v)), (4, .int (nI mm)), (5, .int (nI x))]) (fun x _ _ _ => 48 - x) (fun x _z0 _z1 _J H locs ls hI ih3 => ?_) 0 0 0 (fun _ _ => 0) _ _ _ ⟨(by omega), hP, hS, lv_sub hl [1, 2, 3, 4, 5, 0] rfl⟩
  obtain ⟨hx5, hP, hS, hl⟩ := hI
  refine lv_iload hx hb d_M_also_3 (lv_at hl 5 rfl) ?_
  refine lv_aload_n hx hb d_M_also_5 rfl (lv_at hl 0 rfl) ?_
  refine wg_gM hx hb hts hown hK hP 1 (by decide) (v := .int (nI (I 1 0))) kf_M_32 rfl d_M_also_6 ?_
  refine lv_icmp_ge (tgt := 126) hx hb d_M_also_9 (by decide) (fun h9 => ?_) (fun h9 => ?_)
  · rw [nI_leI (by omega) (by omega)] at h9
    refine lv_iconst (v := (nI 0)) hx hb d_M_also_126 (by decide +kernel) ?_
    exact W.zret (ty := .boolean) (v := (nI 0)) hx hb hr (by decide +kernel) (fun tt hth hW => ⟨⟨_, (), rfl, (Or.inr rfl), wg_h hth hP⟩, hS.F hth⟩) hS.2.2 d_M_also_127
  · rw [nI_leI (by omega) (by omega)] at h9
    refine lv_aload_n hx hb d_M_also_12 rfl (lv_at hl 0 rfl) ?_
    refine lv_iload hx hb d_M_also_13 (lv_at hl 5 rfl) ?_
    refine lv_iload_n hx hb d_M_also_15 rfl (lv_at hl 3 rfl) ?_
    refine lv_iload hx hb d_M_also_16 (lv_at hl 4 rfl) ?_
    refine wg_cvi (As := [.int (nI x), .int (nI v), .int (nI mm)]) (rest := []) hx hb hml hown hts hK hP (hD _) hS hA rfl rfl rfl (c_M_share l D cJ cI h0 ad _ I x v mm (by omega) hv hm hI) kc_M_48 ⟨rfl, rfl⟩ ⟨Nat.le_of_ble_eq_true rfl, Nat.le_of_ble_eq_true rfl⟩ rfl hl.1 rfl (Nat.le_of_ble_eq_true rfl) d_M_also_18 ⟨Nat.zero_le _, Nat.zero_le _⟩ (fun r u18 tt H locs ht q18 hB _ _ hS => ?_)
    have hP : va_P D wg_cl (wg_WM cJ cI h0 ad I) H := by rw [← ht]; exact hB
    clear hB ht tt
    rcases q18 with ⟨rfl, hs18⟩ | ⟨rfl, hs18⟩
    · skip
      refine lv_if_eq (tgt := 120) hx hb d_M_also_21 (by decide) (fun h => absurd h (by decide +kernel)) (fun _ => ?_)
      refine lv_aload_n hx hb d_M_also_24 rfl (lv_at hl 0 rfl) ?_
      refine wg_gM hx hb hts hown hK hP 0 (by decide) (v := .ref (ad 0)) kf_M_7 rfl d_M_also_25 ?_
      refine lv_iload hx hb d_M_also_28 (lv_at hl 5 rfl) ?_
      refine wg_lld (f := I 0) (j := x) hx hb hK hP 1 rfl (by omega) (by decide) d_M_also_30 ?_
      have hB30 := hw x (by omega)
      refine wg_csi (As := [.long (lN (I 0 x))]) (rest := []) hx hb hml hown hts hK hP hS hA (c_M_length l D cJ cI _ (I 0 x) (by omega)) kc_M_52 ⟨rfl, rfl⟩ ⟨Nat.le_of_ble_eq_true rfl, Nat.le_of_ble_eq_true rfl⟩ rfl hl.1 rfl (Nat.le_of_ble_eq_true rfl) d_M_also_31 ⟨Nat.zero_le _, Nat.zero_le _⟩ (fun r H locs q31 hP hS => ?_)
      obtain rfl := q31
      have hq31 := wg_ln_le (I 0 x)
      refine lv_iload hx hb d_M_also_34 (lv_at hl 4 rfl) ?_
      refine lv_isub hx hb d_M_also_36 ?_
      refine lv_aload_n hx hb d_M_also_37 rfl (lv_at hl 0 rfl) ?_
      refine wg_gM hx hb hts hown hK hP 0 (by decide) (v := .ref (ad 0)) kf_M_7 rfl d_M_also_38 ?_
      refine lv_iload_n hx hb d_M_also_41 rfl (lv_at hl 1 rfl) ?_
      refine wg_lld (f := I 0) (j := t) hx hb hK hP 1 rfl (by omega) (by decide) d_M_also_42 ?_
      have hB42 := hw t (by omega)
      refine wg_csi (As := [.long (lN (I 0 t))]) (rest := [.int (nI (wg_ln (I 0 x)) - nI mm)]) hx hb hml hown hts hK hP hS hA (c_M_length l D cJ cI _ (I 0 t) (by omega)) kc_M_52 ⟨rfl, rfl⟩ ⟨Nat.le_of_ble_eq_true rfl, Nat.le_of_ble_eq_true rfl⟩ rfl hl.1 rfl (Nat.le_of_ble_eq_true rfl) d_M_also_43 ⟨Nat.zero_le _, Nat.zero_le _⟩ (fun r H locs q43 hP hS => ?_)
      obtain rfl := q43
      have hq43 := wg_ln_le (I 0 t)
      refine lv_iload_n hx hb d_M_also_46 rfl (lv_at hl 2 rfl) ?_
      refine lv_isub hx hb d_M_also_47 ?_
      refine lv_icmp_ne (tgt := 120) hx hb d_M_also_48 (by decide) (fun h48 => ?_) (fun h48 => ?_)
      · rw [wg_Deq (by omega) (by omega) (by omega) (by omega)] at h48
        refine lv_iinc (v := nI (x + 1)) (k := 5) (lv' := [(5, .int (nI (x + 1))), (0, .ref h0), (1, .int (nI t)), (2, .int (nI n)), (3, .int (nI v)), (4, .int (nI mm))]) hx hb d_M_also_120 hl rfl (nI_1 _) (by decide) rfl (fun ls hl => ?_)
        refine lv_goto (tgt := 3) hx hb d_M_also_123 (by decide) ?_
        exact ih3 (x + 1) 0 0 (fun _ _ => 0) _ _ _ ⟨(by omega), hP, hS, lv_sub hl [1, 2, 3, 4, 5, 0] rfl⟩ (by omega)
      · rw [wg_Deq (by omega) (by omega) (by omega) (by omega)] at h48
        refine lv_iconst (v := (nI 1)) hx hb d_M_also_51 (by decide +kernel) ?_
        refine lv_istore (lv' := [(6, .int (nI 1)), (0, .ref h0), (1, .int (nI t)), (2, .int (nI n)), (3, .int (nI v)), (4, .int (nI mm)), (5, .int (nI x))]) hx hb d_M_also_52 hl (by decide) rfl (fun ls hl => ?_)
        refine lv_iconst (v := (nI 0)) hx hb d_M_also_54 (by decide +kernel) ?_
        refine lv_istore (lv' := [(7, .int (nI 0)), (6, .int (nI 1)), (0, .ref h0), (1, .int (nI t)), (2, .int (nI n)), (3, .int (nI v)), (4, .int (nI mm)), (5, .int (nI x))]) hx hb d_M_also_55 hl (by decide) rfl (fun ls hl => ?_)
        refine wg_loop (fun i sm _ _ H locs ls => (i ≤ 12) ∧ (sm ≤ 1) ∧ va_P D wg_cl (wg_WM cJ cI h0 ad I) H ∧ va_S A s.heap H locs ∧ lv_has ls 8 [(0, .ref h0), (1, .int (nI t)), (2, .int (nI n)), (3, .int (nI v)), (4, .int (nI mm)), (5, .int (nI x)), (6, .int (nI sm)), (7, .int (nI i))]) (fun i sm _ _ => 12 - i) (fun i sm _z0 _J H locs ls hI ih57 => ?_) 0 1 0 (fun _ _ => 0) _ _ _ ⟨(by omega), (by omega), hP, hS, lv_sub hl [2, 3, 4, 5, 6, 7, 1, 0] rfl⟩
        obtain ⟨hi12, hsm, hP, hS, hl⟩ := hI
        refine lv_iload hx hb d_M_also_57 (lv_at hl 7 rfl) ?_
        refine lv_aload_n hx hb d_M_also_59 rfl (lv_at hl 0 rfl) ?_
        refine wg_gM hx hb hts hown hK hP 0 (by decide) (v := .ref (ad 0)) kf_M_7 rfl d_M_also_60 ?_
        refine lv_iload_n hx hb d_M_also_63 rfl (lv_at hl 1 rfl) ?_
        refine wg_lld (f := I 0) (j := t) hx hb hK hP 1 rfl (by omega) (by decide) d_M_also_64 ?_
        have hB64 := hw t (by omega)
        refine wg_csi (As := [.long (lN (I 0 t))]) (rest := [.int (nI i)]) hx hb hml hown hts hK hP hS hA (c_M_length l D cJ cI _ (I 0 t) (by omega)) kc_M_52 ⟨rfl, rfl⟩ ⟨Nat.le_of_ble_eq_true rfl, Nat.le_of_ble_eq_true rfl⟩ rfl hl.1 rfl (Nat.le_of_ble_eq_true rfl) d_M_also_65 ⟨Nat.zero_le _, Nat.zero_le _⟩ (fun r H locs q65 hP hS => ?_)
        obtain rfl := q65
        have hq65 := wg_ln_le (I 0 t)
        refine lv_iload_n hx hb d_M_also_68 rfl (lv_at hl 2 rfl) ?_
        refine lv_isub hx hb d_M_also_69 ?_
        refine lv_icmp_ge (tgt := 113) hx hb d_M_also_70 (by decide) (fun h70 => ?_) (fun h70 => ?_)
        · rw [wg_DleN (by omega) (by omega) (by omega)] at h70
          refine lv_iload hx hb d_M_also_113 (lv_at hl 6 rfl) ?_
          refine lv_if_eq (tgt := 120) hx hb d_M_also_115 (by decide) (fun h115 => ?_) (fun h115 => ?_)
          · rw [wg_z0 (by omega)] at h115
            refine lv_iinc (v := nI (x + 1)) (k := 5) (lv' := [(5, .int (nI (x + 1))), (0, .ref h0), (1, .int (nI t)), (2, .int (nI n)), (3, .int (nI v)), (4, .int (nI mm)), (6, .int (nI sm)), (7, .int (nI i))]) hx hb d_M_also_120 hl rfl (nI_1 _) (by decide) rfl (fun ls hl => ?_)
            refine lv_goto (tgt := 3) hx hb d_M_also_123 (by decide) ?_
            exact ih3 (x + 1) 0 0 (fun _ _ => 0) _ _ _ ⟨(by omega), hP, hS, lv_sub hl [1, 2, 3, 4, 5, 0] rfl⟩ (by omega)
          · rw [wg_z0 (by omega)] at h115
            refine lv_iconst (v := (nI 1)) hx hb d_M_also_118 (by decide +kernel) ?_
            exact W.zret (ty := .boolean) (v := (nI 1)) hx hb hr (by decide +kernel) (fun tt hth hW => ⟨⟨_, (), rfl, (Or.inl rfl), wg_h hth hP⟩, hS.F hth⟩) hS.2.2 d_M_also_119
        · rw [wg_DleN (by omega) (by omega) (by omega)] at h70
          refine lv_aload_n hx hb d_M_also_73 rfl (lv_at hl 0 rfl) ?_
          refine wg_gM hx hb hts hown hK hP 0 (by decide) (v := .ref (ad 0)) kf_M_7 rfl d_M_also_74 ?_
          refine lv_iload hx hb d_M_also_77 (lv_at hl 5 rfl) ?_
          refine wg_lld (f := I 0) (j := x) hx hb hK hP 1 rfl (by omega) (by decide) d_M_also_79 ?_
          have hB79 := hw x (by omega)
          refine lv_iload hx hb d_M_also_80 (lv_at hl 4 rfl) ?_
          refine lv_iload hx hb d_M_also_82 (lv_at hl 7 rfl) ?_
          refine t_iadd (v := nI (mm + i)) hx hb d_M_also_84 (nI_add _ _) ?_
          refine wg_csi (As := [.long (lN (I 0 x)), .int (nI (mm + i))]) (rest := []) hx hb hml hown hts hK hP hS hA (c_M_letter l D cJ cI _ (I 0 x) (mm + i) (by omega) (by omega)) kc_M_36 ⟨rfl, rfl⟩ ⟨Nat.le_of_ble_eq_true rfl, Nat.le_of_ble_eq_true rfl⟩ rfl hl.1 rfl (Nat.le_of_ble_eq_true rfl) d_M_also_85 ⟨Nat.zero_le _, Nat.zero_le _⟩ (fun r H locs q85 hP hS => ?_)
          obtain rfl := q85
          have hq85 := wg_lt_le (I 0 x) (mm + i)
          refine lv_aload_n hx hb d_M_also_88 rfl (lv_at hl 0 rfl) ?_
          refine wg_gM hx hb hts hown hK hP 0 (by decide) (v := .ref (ad 0)) kf_M_7 rfl d_M_also_89 ?_
          refine lv_iload_n hx hb d_M_also_92 rfl (lv_at hl 1 rfl) ?_
          refine wg_lld (f := I 0) (j := t) hx hb hK hP 1 rfl (by omega) (by decide) d_M_also_93 ?_
          have hB93 := hw t (by omega)
          refine lv_iload_n hx hb d_M_also_94 rfl (lv_at hl 2 rfl) ?_
          refine lv_iload hx hb d_M_also_95 (lv_at hl 7 rfl) ?_
          refine t_iadd (v := nI (n + i)) hx hb d_M_also_97 (nI_add _ _) ?_
          refine wg_csi (As := [.long (lN (I 0 t)), .int (nI (n + i))]) (rest := [.int (nI (wg_lt (I 0 x) (mm + i)))]) hx hb hml hown hts hK hP hS hA (c_M_letter l D cJ cI _ (I 0 t) (n + i) (by omega) (by omega)) kc_M_36 ⟨rfl, rfl⟩ ⟨Nat.le_of_ble_eq_true rfl, Nat.le_of_ble_eq_true rfl⟩ rfl hl.1 rfl (Nat.le_of_ble_eq_true rfl) d_M_also_98 ⟨Nat.zero_le _, Nat.zero_le _⟩ (fun r H locs q98 hP hS => ?_)
          obtain rfl := q98
          have hq98 := wg_lt_le (I 0 t) (n + i)
          refine lv_icmp_eq (tgt := 107) hx hb d_M_also_101 (by decide) (fun h101 => ?_) (fun h101 => ?_)
          · rw [nI_eq (by omega) (by omega)] at h101
            refine lv_iinc (v := nI (i + 1)) (k := 7) (lv' := [(7, .int (nI (i + 1))), (0, .ref h0), (1, .int (nI t)), (2, .int (nI n)), (3, .int (nI v)), (4, .int (nI mm)), (5, .int (nI x)), (6, .int (nI sm))]) hx hb d_M_also_107 hl rfl (nI_1 _) (by decide) rfl (fun ls hl => ?_)
            refine lv_goto (tgt := 57) hx hb d_M_also_110 (by decide) ?_
            exact ih57 (i + 1) sm 0 (fun _ _ => 0) _ _ _ ⟨(by omega), (by omega), hP, hS, lv_sub hl [1, 2, 3, 4, 5, 6, 7, 0] rfl⟩ (by omega)
          · rw [nI_eq (by omega) (by omega)] at h101
            refine lv_iconst (v := (nI 0)) hx hb d_M_also_104 (by decide +kernel) ?_
            refine lv_istore (lv' := [(6, .int (nI 0)), (0, .ref h0), (1, .int (nI t)), (2, .int (nI n)), (3, .int (nI v)), (4, .int (nI mm)), (5, .int (nI x)), (7, .int (nI i))]) hx hb d_M_also_105 hl (by decide) rfl (fun ls hl => ?_)
            refine lv_iinc (v := nI (i + 1)) (k := 7) (lv' := [(7, .int (nI (i + 1))), (6, .int (nI 0)), (0, .ref h0), (1, .int (nI t)), (2, .int (nI n)), (3, .int (nI v)), (4, .int (nI mm)), (5, .int (nI x))]) hx hb d_M_also_107 hl rfl (nI_1 _) (by decide) rfl (fun ls hl => ?_)
            refine lv_goto (tgt := 57) hx hb d_M_also_110 (by decide) ?_
            exact ih57 (i + 1) 0 0 (fun _ _ => 0) _ _ _ ⟨(by omega), (by omega), hP, hS, lv_sub hl [2, 3, 4, 5, 6, 7, 1, 0] rfl⟩ (by omega)
    · skip
      refine lv_if_eq (tgt := 120) hx hb d_M_also_21 (by decide) (fun _ => ?_) (fun h => absurd h (by decide +kernel))
      refine lv_iinc (v := nI (x + 1)) (k := 5) (lv' := [(5, .int (nI (x + 1))), (0, .ref h0), (1, .int (nI t)), (2, .int (nI n)), (3, .int (nI v)), (4, .int (nI mm))]) hx hb d_M_also_120 hl rfl (nI_1 _) (by decide) rfl (fun ls hl => ?_)
      refine lv_goto (tgt := 3) hx hb d_M_also_123 (by decide) ?_
      exact ih3 (x + 1) 0 0 (fun _ _ => 0) _ _ _ ⟨(by omega), hP, hS, lv_sub hl [1, 2, 3, 4, 5, 0] rfl⟩ (by omega)
set_option maxHeartbeats 4000000 in
set_option maxRecDepth 100000 in
theorem c_M_within (l : Launch) (D : va_G) (cJ cI : ClassId) (h0 : Nat) (ad : Nat → Nat) (sz : Nat) (I : wg_S) (a : Nat) (n : Nat) (v : Nat) (mm : Nat) (ha : a < 48) (hnn : n ≤ 12) (hv : v < 48) (hm : mm ≤ 12) (hI : wg_MI I) : Met l y_M_within (wg_ws y_M_within b_M_within 6 (some .boolean)) ({ frames := 3, cells := 0, slots := 0, locals := 73 }) (va_Pc [.ref h0, .int (nI a), .int (nI n), .int (nI v), .int (nI mm)] (wg_Pc D cJ cI (wg_WM cJ cI h0 ad I) sz)) (va_Qi (fun (r : Int32) (u : Unit) => r = nI 1 ∨ r = nI 0) (fun (_ : Unit) t => va_P D wg_cl (wg_WM cJ cI h0 ad I) t.heap) (va_A (wg_WM cJ cI h0 ad I) sz)) 0 0 (va_A (wg_WM cJ cI h0 ad I) sz) := by
  refine wg_head (Wd := (fun I => wg_WM cJ cI h0 ad I)) (I := I) (fun A => va_Qi (fun (r : Int32) (u : Unit) => r = nI 1 ∨ r = nI 0) (fun (_ : Unit) t => va_P D wg_cl (wg_WM cJ cI h0 ad I) t.heap) A) R_M (by decide) rfl (Nat.le_of_ble_eq_true rfl) (fun I J => wg_same_M I J) ?_
  intro p e s m below meth c A ls hx hb hr hlk hml hown hnm hts hA hK hD hP hS hl hsz
  clear hsz
  have hl : lv_has ls 6 [(0, .ref h0), (1, .int (nI a)), (2, .int (nI n)), (3, .int (nI v)), (4, .int (nI mm))] := hl
  have hP : va_P D wg_cl (wg_WM cJ cI h0 ad I) s.heap := hP
  skip
  have hI' := hI
  obtain ⟨hn, hse, hfd, hnd, hw, hOW, hOL⟩ := hI'
  refine lv_iconst (v := (nI 0)) hx hb d_M_within_0 (by decide +kernel) ?_
  refine lv_istore (lv' := [(5, .int (nI 0)), (0, .ref h0), (1, .int (nI a)), (2, .int (nI n)), (3, .int (nI v)), (4, .int (nI mm))]) hx hb d_M_within_1 hl (by decide) rfl (fun ls hl => ?_)
  refine wg_loop (fun x _ _ _ H locs ls => (x ≤ 48) ∧ va_P D wg_cl (wg_WM cJ cI h0 ad I) H ∧ va_S A s.heap H locs ∧ lv_has ls 6 [(0, .ref h0), (1, .int (nI a)), (2, .int (nI n)), (3, .int (nI v)), (4, .int (nI mm)), (5, .int (nI x))]) (fun x _ _ _ => 48 - x) (fun x _z0 _z1 _J H locs ls hI ih3 => ?_) 0 0 0 (fun _ _ => 0) _ _ _ ⟨(by omega), hP, hS, lv_sub hl [1, 2, 3, 4, 5, 0] rfl⟩
  obtain ⟨hx5, hP, hS, hl⟩ := hI
  refine lv_iload hx hb d_M_within_3 (lv_at hl 5 rfl) ?_
  refine lv_aload_n hx hb d_M_within_5 rfl (lv_at hl 0 rfl) ?_
  refine wg_gM hx hb hts hown hK hP 1 (by decide) (v := .int (nI (I 1 0))) kf_M_32 rfl d_M_within_6 ?_
  refine lv_icmp_ge (tgt := 44) hx hb d_M_within_9 (by decide) (fun h9 => ?_) (fun h9 => ?_)
  · rw [nI_leI (by omega) (by omega)] at h9
    refine lv_iconst (v := (nI 1)) hx hb d_M_within_44 (by decide +kernel) ?_
    exact W.zret (ty := .boolean) (v := (nI 1)) hx hb hr (by decide +kernel) (fun tt hth hW => ⟨⟨_, (), rfl, (Or.inl rfl), wg_h hth hP⟩, hS.F hth⟩) hS.2.2 d_M_within_45
  · rw [nI_leI (by omega) (by omega)] at h9
    refine lv_aload_n hx hb d_M_within_12 rfl (lv_at hl 0 rfl) ?_
    refine lv_iload hx hb d_M_within_13 (lv_at hl 5 rfl) ?_
    refine lv_iload_n hx hb d_M_within_15 rfl (lv_at hl 1 rfl) ?_
    refine lv_iload_n hx hb d_M_within_16 rfl (lv_at hl 2 rfl) ?_
    refine wg_cvi (As := [.int (nI x), .int (nI a), .int (nI n)]) (rest := []) hx hb hml hown hts hK hP (hD _) hS hA rfl rfl rfl (c_M_share l D cJ cI h0 ad _ I x a n (by omega) ha hnn hI) kc_M_48 ⟨rfl, rfl⟩ ⟨Nat.le_of_ble_eq_true rfl, Nat.le_of_ble_eq_true rfl⟩ rfl hl.1 rfl (Nat.le_of_ble_eq_true rfl) d_M_within_17 ⟨Nat.zero_le _, Nat.zero_le _⟩ (fun r u17 tt H locs ht q17 hB _ _ hS => ?_)
    have hP : va_P D wg_cl (wg_WM cJ cI h0 ad I) H := by rw [← ht]; exact hB
    clear hB ht tt
    rcases q17 with ⟨rfl, hs17⟩ | ⟨rfl, hs17⟩
    · skip
      refine lv_if_eq (tgt := 38) hx hb d_M_within_20 (by decide) (fun h => absurd h (by decide +kernel)) (fun _ => ?_)
      refine lv_aload_n hx hb d_M_within_23 rfl (lv_at hl 0 rfl) ?_
      refine lv_iload hx hb d_M_within_24 (lv_at hl 5 rfl) ?_
      refine lv_iload_n hx hb d_M_within_26 rfl (lv_at hl 2 rfl) ?_
      refine lv_iload_n hx hb d_M_within_27 rfl (lv_at hl 3 rfl) ?_
      refine lv_iload hx hb d_M_within_28 (lv_at hl 4 rfl) ?_
      refine wg_cvi (As := [.int (nI x), .int (nI n), .int (nI v), .int (nI mm)]) (rest := []) hx hb hml hown hts hK hP (hD _) hS hA rfl rfl rfl (c_M_also l D cJ cI h0 ad _ I x n v mm (by omega) hnn hv hm hI) kc_M_56 ⟨rfl, rfl⟩ ⟨Nat.le_of_ble_eq_true rfl, Nat.le_of_ble_eq_true rfl⟩ rfl hl.1 rfl (Nat.le_of_ble_eq_true rfl) d_M_within_30 ⟨Nat.zero_le _, Nat.zero_le _⟩ (fun r u30 tt H locs ht q30 hB _ _ hS => ?_)
      have hP : va_P D wg_cl (wg_WM cJ cI h0 ad I) H := by rw [← ht]; exact hB
      clear hB ht tt
      rcases q30 with rfl | rfl
      · skip
        refine lv_if_ne (tgt := 38) hx hb d_M_within_33 (by decide) (fun _ => ?_) (fun h => absurd h (by decide +kernel))
        refine lv_iinc (v := nI (x + 1)) (k := 5) (lv' := [(5, .int (nI (x + 1))), (0, .ref h0), (1, .int (nI a)), (2, .int (nI n)), (3, .int (nI v)), (4, .int (nI mm))]) hx hb d_M_within_38 hl rfl (nI_1 _) (by decide) rfl (fun ls hl => ?_)
        refine lv_goto (tgt := 3) hx hb d_M_within_41 (by decide) ?_
        exact ih3 (x + 1) 0 0 (fun _ _ => 0) _ _ _ ⟨(by omega), hP, hS, lv_sub hl [1, 2, 3, 4, 5, 0] rfl⟩ (by omega)
      · skip
        refine lv_if_ne (tgt := 38) hx hb d_M_within_33 (by decide) (fun h => absurd h (by decide +kernel)) (fun _ => ?_)
        refine lv_iconst (v := (nI 0)) hx hb d_M_within_36 (by decide +kernel) ?_
        exact W.zret (ty := .boolean) (v := (nI 0)) hx hb hr (by decide +kernel) (fun tt hth hW => ⟨⟨_, (), rfl, (Or.inr rfl), wg_h hth hP⟩, hS.F hth⟩) hS.2.2 d_M_within_37
    · skip
      refine lv_if_eq (tgt := 38) hx hb d_M_within_20 (by decide) (fun _ => ?_) (fun h => absurd h (by decide +kernel))
      refine lv_iinc (v := nI (x + 1)) (k := 5) (lv' := [(5, .int (nI (x + 1))), (0, .ref h0), (1, .int (nI a)), (2, .int (nI n)), (3, .int (nI v)), (4, .int (nI mm))]) hx hb d_M_within_38 hl rfl (nI_1 _) (by decide) rfl (fun ls hl => ?_)
      refine lv_goto (tgt := 3) hx hb d_M_within_41 (by decide) ?_
      exact ih3 (x + 1) 0 0 (fun _ _ => 0) _ _ _ ⟨(by omega), hP, hS, lv_sub hl [1, 2, 3, 4, 5, 0] rfl⟩ (by omega)
set_option maxHeartbeats 4000000 in
set_option maxRecDepth 100000 in
theorem c_M_nodeOf (l : Launch) (D : va_G) (cJ cI : ClassId) (h0 : Nat) (ad : Nat → Nat) (sz : Nat) (I : wg_S) (k : Nat) (n : Nat) (hk : k < 48) (hnn : n ≤ 12) (hnd2 : I 9 0 < 625) (hI : wg_MI I) : Met l y_M_nodeOf (wg_ws y_M_nodeOf b_M_nodeOf 4 (some .int)) ({ frames := 4, cells := 0, slots := 0, locals := 98 }) (va_Pc [.ref h0, .int (nI k), .int (nI n)] (wg_Pc D cJ cI (wg_WM cJ cI h0 ad I) sz)) (va_Qi (fun (r : Int32) (u : wg_S) => (∃ v, v < 2 ^ 31 ∧ r = nI v) ∧ wg_MI u ∧ (∀ j, j < 7 ∨ j = 10 → u j = I j) ∧ u 9 0 ≤ I 9 0 + 1) (fun (u : wg_S) t => va_P D wg_cl (wg_WM cJ cI h0 ad u) t.heap) (va_A (wg_WM cJ cI h0 ad I) sz)) 0 0 (va_A (wg_WM cJ cI h0 ad I) sz) := by
  refine wg_head (Wd := (fun I => wg_WM cJ cI h0 ad I)) (I := I) (fun A => va_Qi (fun (r : Int32) (u : wg_S) => (∃ v, v < 2 ^ 31 ∧ r = nI v) ∧ wg_MI u ∧ (∀ j, j < 7 ∨ j = 10 → u j = I j) ∧ u 9 0 ≤ I 9 0 + 1) (fun (u : wg_S) t => va_P D wg_cl (wg_WM cJ cI h0 ad u) t.heap) A) R_M (by decide) rfl (Nat.le_of_ble_eq_true rfl) (fun I J => wg_same_M I J) ?_
  intro p e s m below meth c A ls hx hb hr hlk hml hown hnm hts hA hK hD hP hS hl hsz
  clear hsz
  have hl : lv_has ls 4 [(0, .ref h0), (1, .int (nI k)), (2, .int (nI n))] := hl
  have hP : va_P D wg_cl (wg_WM cJ cI h0 ad I) s.heap := hP
  skip
  have hI' := hI
  obtain ⟨hn, hse, hfd, hnd, hw, hOW, hOL⟩ := hI'
  refine lv_iconst (v := (nI 0)) hx hb d_M_nodeOf_0 (by decide +kernel) ?_
  refine lv_istore_n (lv' := [(3, .int (nI 0)), (0, .ref h0), (1, .int (nI k)), (2, .int (nI n))]) hx hb d_M_nodeOf_1 rfl hl (by decide) rfl (fun ls hl => ?_)
  refine wg_loop (fun x _ _ _ H locs ls => (x ≤ I 9 0) ∧ va_P D wg_cl (wg_WM cJ cI h0 ad I) H ∧ va_S A s.heap H locs ∧ lv_has ls 4 [(0, .ref h0), (1, .int (nI k)), (2, .int (nI n)), (3, .int (nI x))]) (fun x _ _ _ => I 9 0 - x) (fun x _z0 _z1 _J H locs ls hI ih2 => ?_) 0 0 0 (fun _ _ => 0) _ _ _ ⟨(by omega), hP, hS, lv_sub hl [1, 2, 3, 0] rfl⟩
  obtain ⟨hx3, hP, hS, hl⟩ := hI
  refine lv_iload_n hx hb d_M_nodeOf_2 rfl (lv_at hl 3 rfl) ?_
  refine lv_aload_n hx hb d_M_nodeOf_3 rfl (lv_at hl 0 rfl) ?_
  refine wg_gM hx hb hts hown hK hP 9 (by decide) (v := .int (nI (I 9 0))) kf_M_60 rfl d_M_nodeOf_4 ?_
  refine lv_icmp_ge (tgt := 60) hx hb d_M_nodeOf_7 (by decide) (fun h7 => ?_) (fun h7 => ?_)
  · rw [nI_leI (by omega) (by omega)] at h7
    refine lv_aload_n hx hb d_M_nodeOf_60 rfl (lv_at hl 0 rfl) ?_
    refine wg_gM hx hb hts hown hK hP 7 (by decide) (v := .ref (ad 7)) kf_M_23 rfl d_M_nodeOf_61 ?_
    refine lv_aload_n hx hb d_M_nodeOf_64 rfl (lv_at hl 0 rfl) ?_
    refine wg_gM hx hb hts hown hK hP 9 (by decide) (v := .int (nI (I 9 0))) kf_M_60 rfl d_M_nodeOf_65 ?_
    refine lv_iload_n hx hb d_M_nodeOf_68 rfl (lv_at hl 1 rfl) ?_
    refine wg_sM7 (j := (I 9 0)) (x := k) hx hb hK hP hD hS (by omega) d_M_nodeOf_69 (fun H locs hP hS => ?_)
    refine lv_aload_n hx hb d_M_nodeOf_70 rfl (lv_at hl 0 rfl) ?_
    refine wg_gM hx hb hts hown hK hP 8 (by decide) (v := .ref (ad 8)) kf_M_26 rfl d_M_nodeOf_71 ?_
    refine lv_aload_n hx hb d_M_nodeOf_74 rfl (lv_at hl 0 rfl) ?_
    refine wg_gM hx hb hts hown hK hP 9 (by decide) (v := .int (nI (I 9 0))) kf_M_60 rfl d_M_nodeOf_75 ?_
    refine lv_iload_n hx hb d_M_nodeOf_78 rfl (lv_at hl 2 rfl) ?_
    refine wg_sM8 (j := (I 9 0)) (x := n) hx hb hK hP hD hS (by omega) d_M_nodeOf_79 (fun H locs hP hS => ?_)
    refine lv_aload_n hx hb d_M_nodeOf_80 rfl (lv_at hl 0 rfl) ?_
    refine lv_aload_n hx hb d_M_nodeOf_81 rfl (lv_at hl 0 rfl) ?_
    refine wg_gM hx hb hts hown hK hP 9 (by decide) (v := .int (nI (I 9 0))) kf_M_60 rfl d_M_nodeOf_82 ?_
    refine lv_iconst (v := (nI 1)) hx hb d_M_nodeOf_85 (by decide +kernel) ?_
    refine t_iadd (v := nI ((I 9 0) + 1)) hx hb d_M_nodeOf_86 (nI_add _ _) ?_
    refine wg_pM9 (v := ((I 9 0) + 1)) hx hb hts hown hK hP hD hS kf_M_60 d_M_nodeOf_87 (fun H locs hP hS => ?_)
    refine lv_aload_n hx hb d_M_nodeOf_90 rfl (lv_at hl 0 rfl) ?_
    refine wg_gM hx hb hts hown hK hP 9 (by decide) (v := .int (nI ((I 9 0) + 1))) kf_M_60 rfl d_M_nodeOf_91 ?_
    refine lv_iconst (v := (nI 1)) hx hb d_M_nodeOf_94 (by decide +kernel) ?_
    refine t_isub (v := nI (((I 9 0) + 1) - 1)) hx hb d_M_nodeOf_95 (pk_sub (by omega)) ?_
    exact W.iret (v := (nI (((I 9 0) + 1) - 1))) hx hb hr (fun tt hth hW => ⟨⟨_, (wg_st (wg_st (wg_st I 7 (I 9 0) k) 8 (I 9 0) n) 9 0 ((I 9 0) + 1)), rfl, ⟨⟨_, by omega, rfl⟩, wg_MI_mk hI (by omega) (by omega) (by omega), fun j h => (wg_st_o _ _ _ _ (by omega)).trans ((wg_st_o _ _ _ _ (by omega)).trans (wg_st_o _ _ _ _ (by omega))), Nat.le_refl _⟩, wg_h hth hP⟩, hS.F hth⟩) hS.2.2 d_M_nodeOf_96
  · rw [nI_leI (by omega) (by omega)] at h7
    refine lv_aload_n hx hb d_M_nodeOf_10 rfl (lv_at hl 0 rfl) ?_
    refine lv_iload_n hx hb d_M_nodeOf_11 rfl (lv_at hl 1 rfl) ?_
    refine lv_iload_n hx hb d_M_nodeOf_12 rfl (lv_at hl 2 rfl) ?_
    refine lv_aload_n hx hb d_M_nodeOf_13 rfl (lv_at hl 0 rfl) ?_
    refine wg_gM hx hb hts hown hK hP 7 (by decide) (v := .ref (ad 7)) kf_M_23 rfl d_M_nodeOf_14 ?_
    refine lv_iload_n hx hb d_M_nodeOf_17 rfl (lv_at hl 3 rfl) ?_
    refine wg_ild (f := I 7) (j := x) hx hb hK hP 5 rfl (by omega) (by decide) d_M_nodeOf_18 ?_
    have hB18 := hOW x (by omega)
    refine lv_aload_n hx hb d_M_nodeOf_19 rfl (lv_at hl 0 rfl) ?_
    refine wg_gM hx hb hts hown hK hP 8 (by decide) (v := .ref (ad 8)) kf_M_26 rfl d_M_nodeOf_20 ?_
    refine lv_iload_n hx hb d_M_nodeOf_23 rfl (lv_at hl 3 rfl) ?_
    refine wg_ild (f := I 8) (j := x) hx hb hK hP 6 rfl (by omega) (by decide) d_M_nodeOf_24 ?_
    have hB24 := hOL x (by omega)
    refine wg_cvi (As := [.int (nI k), .int (nI n), .int (nI (I 7 x)), .int (nI (I 8 x))]) (rest := []) hx hb hml hown hts hK hP (hD _) hS hA rfl rfl rfl (c_M_within l D cJ cI h0 ad _ I k n (I 7 x) (I 8 x) hk hnn (by omega) (by omega) hI) kc_M_63 ⟨rfl, rfl⟩ ⟨Nat.le_of_ble_eq_true rfl, Nat.le_of_ble_eq_true rfl⟩ rfl hl.1 rfl (Nat.le_of_ble_eq_true rfl) d_M_nodeOf_25 ⟨Nat.zero_le _, Nat.zero_le _⟩ (fun r u25 tt H locs ht q25 hB _ _ hS => ?_)
    have hP : va_P D wg_cl (wg_WM cJ cI h0 ad I) H := by rw [← ht]; exact hB
    clear hB ht tt
    rcases q25 with rfl | rfl
    · skip
      refine lv_if_eq (tgt := 54) hx hb d_M_nodeOf_28 (by decide) (fun h => absurd h (by decide +kernel)) (fun _ => ?_)
      refine lv_aload_n hx hb d_M_nodeOf_31 rfl (lv_at hl 0 rfl) ?_
      refine lv_aload_n hx hb d_M_nodeOf_32 rfl (lv_at hl 0 rfl) ?_
      refine wg_gM hx hb hts hown hK hP 7 (by decide) (v := .ref (ad 7)) kf_M_23 rfl d_M_nodeOf_33 ?_
      refine lv_iload_n hx hb d_M_nodeOf_36 rfl (lv_at hl 3 rfl) ?_
      refine wg_ild (f := I 7) (j := x) hx hb hK hP 5 rfl (by omega) (by decide) d_M_nodeOf_37 ?_
      have hB37 := hOW x (by omega)
      refine lv_aload_n hx hb d_M_nodeOf_38 rfl (lv_at hl 0 rfl) ?_
      refine wg_gM hx hb hts hown hK hP 8 (by decide) (v := .ref (ad 8)) kf_M_26 rfl d_M_nodeOf_39 ?_
      refine lv_iload_n hx hb d_M_nodeOf_42 rfl (lv_at hl 3 rfl) ?_
      refine wg_ild (f := I 8) (j := x) hx hb hK hP 6 rfl (by omega) (by decide) d_M_nodeOf_43 ?_
      have hB43 := hOL x (by omega)
      refine lv_iload_n hx hb d_M_nodeOf_44 rfl (lv_at hl 1 rfl) ?_
      refine lv_iload_n hx hb d_M_nodeOf_45 rfl (lv_at hl 2 rfl) ?_
      refine wg_cvi (As := [.int (nI (I 7 x)), .int (nI (I 8 x)), .int (nI k), .int (nI n)]) (rest := []) hx hb hml hown hts hK hP (hD _) hS hA rfl rfl rfl (c_M_within l D cJ cI h0 ad _ I (I 7 x) (I 8 x) k n (by omega) (by omega) hk hnn hI) kc_M_63 ⟨rfl, rfl⟩ ⟨Nat.le_of_ble_eq_true rfl, Nat.le_of_ble_eq_true rfl⟩ rfl hl.1 rfl (Nat.le_of_ble_eq_true rfl) d_M_nodeOf_46 ⟨Nat.zero_le _, Nat.zero_le _⟩ (fun r u46 tt H locs ht q46 hB _ _ hS => ?_)
      have hP : va_P D wg_cl (wg_WM cJ cI h0 ad I) H := by rw [← ht]; exact hB
      clear hB ht tt
      rcases q46 with rfl | rfl
      · skip
        refine lv_if_eq (tgt := 54) hx hb d_M_nodeOf_49 (by decide) (fun h => absurd h (by decide +kernel)) (fun _ => ?_)
        refine lv_iload_n hx hb d_M_nodeOf_52 rfl (lv_at hl 3 rfl) ?_
        exact W.iret (v := (nI x)) hx hb hr (fun tt hth hW => ⟨⟨_, I, rfl, ⟨⟨x, by omega, rfl⟩, hI, fun _ _ => rfl, by omega⟩, wg_h hth hP⟩, hS.F hth⟩) hS.2.2 d_M_nodeOf_53
      · skip
        refine lv_if_eq (tgt := 54) hx hb d_M_nodeOf_49 (by decide) (fun _ => ?_) (fun h => absurd h (by decide +kernel))
        refine lv_iinc (v := nI (x + 1)) (k := 3) (lv' := [(3, .int (nI (x + 1))), (0, .ref h0), (1, .int (nI k)), (2, .int (nI n))]) hx hb d_M_nodeOf_54 hl rfl (nI_1 _) (by decide) rfl (fun ls hl => ?_)
        refine lv_goto (tgt := 2) hx hb d_M_nodeOf_57 (by decide) ?_
        exact ih2 (x + 1) 0 0 (fun _ _ => 0) _ _ _ ⟨(by omega), hP, hS, lv_sub hl [1, 2, 3, 0] rfl⟩ (by omega)
    · skip
      refine lv_if_eq (tgt := 54) hx hb d_M_nodeOf_28 (by decide) (fun _ => ?_) (fun h => absurd h (by decide +kernel))
      refine lv_iinc (v := nI (x + 1)) (k := 3) (lv' := [(3, .int (nI (x + 1))), (0, .ref h0), (1, .int (nI k)), (2, .int (nI n))]) hx hb d_M_nodeOf_54 hl rfl (nI_1 _) (by decide) rfl (fun ls hl => ?_)
      refine lv_goto (tgt := 2) hx hb d_M_nodeOf_57 (by decide) ?_
      exact ih2 (x + 1) 0 0 (fun _ _ => 0) _ _ _ ⟨(by omega), hP, hS, lv_sub hl [1, 2, 3, 0] rfl⟩ (by omega)
set_option maxHeartbeats 4000000 in
set_option maxRecDepth 100000 in
theorem c_M_seal (l : Launch) (D : va_G) (cJ cI : ClassId) (h0 : Nat) (ad : Nat → Nat) (sz : Nat) (I : wg_S) (hI : wg_MI I) : Met l y_M_seal (wg_ws y_M_seal b_M_seal 3 (some .boolean)) ({ frames := 5, cells := 0, slots := 0, locals := 121 }) (va_Pc [.ref h0] (wg_Pc D cJ cI (wg_WM cJ cI h0 ad I) sz)) (va_Qi (fun (r : Int32) (u : wg_S) => (¬ I 2 0 = 0 ∧ r = nI 0 ∧ u = I) ∨ (I 2 0 = 0 ∧ r = nI 1 ∧ u 2 0 = 1 ∧ wg_MI u ∧ (∀ j, ¬ j = 2 → (j < 6 ∨ j = 10) → u j = I j))) (fun (u : wg_S) t => va_P D wg_cl (wg_WM cJ cI h0 ad u) t.heap) (va_A (wg_WM cJ cI h0 ad I) sz)) 0 0 (va_A (wg_WM cJ cI h0 ad I) sz) := by
  refine wg_head (Wd := (fun I => wg_WM cJ cI h0 ad I)) (I := I) (fun A => va_Qi (fun (r : Int32) (u : wg_S) => (¬ I 2 0 = 0 ∧ r = nI 0 ∧ u = I) ∨ (I 2 0 = 0 ∧ r = nI 1 ∧ u 2 0 = 1 ∧ wg_MI u ∧ (∀ j, ¬ j = 2 → (j < 6 ∨ j = 10) → u j = I j))) (fun (u : wg_S) t => va_P D wg_cl (wg_WM cJ cI h0 ad u) t.heap) A) R_M (by decide) rfl (Nat.le_of_ble_eq_true rfl) (fun I J => wg_same_M I J) ?_
  intro p e s m below meth c A ls hx hb hr hlk hml hown hnm hts hA hK hD hP hS hl hsz
  clear hsz
  have hl : lv_has ls 3 [(0, .ref h0)] := hl
  have hP : va_P D wg_cl (wg_WM cJ cI h0 ad I) s.heap := hP
  skip
  have hI' := hI
  obtain ⟨hn, hse, hfd, hnd, hw, hOW, hOL⟩ := hI'
  refine lv_aload_n hx hb d_M_seal_0 rfl (lv_at hl 0 rfl) ?_
  refine wg_gM hx hb hts hown hK hP 2 (by decide) (v := .int (nI (I 2 0))) kf_M_40 rfl d_M_seal_1 ?_
  refine lv_if_eq (tgt := 9) hx hb d_M_seal_4 (by decide) (fun h4 => ?_) (fun h4 => ?_)
  · rw [wg_z0 (by omega)] at h4
    refine lv_aload_n hx hb d_M_seal_9 rfl (lv_at hl 0 rfl) ?_
    refine lv_iconst (v := (nI 1)) hx hb d_M_seal_10 (by decide +kernel) ?_
    refine wg_pM2 (v := 1) hx hb hts hown hK hP hD hS kf_M_40 (by decide +kernel) (by decide +kernel) d_M_seal_11 (fun H locs hP hS => ?_)
    refine lv_aload_n hx hb d_M_seal_14 rfl (lv_at hl 0 rfl) ?_
    refine lv_aload_n hx hb d_M_seal_15 rfl (lv_at hl 0 rfl) ?_
    refine wg_gM hx hb hts hown hK hP 1 (by decide) (v := .int (nI (I 1 0))) kf_M_32 rfl d_M_seal_16 ?_
    refine lv_if_ne (tgt := 26) hx hb d_M_seal_19 (by decide) (fun h19 => ?_) (fun h19 => ?_)
    · rw [wg_z0 (by omega)] at h19
      refine lv_iconst (v := (nI 0)) hx hb d_M_seal_26 (by decide +kernel) ?_
      refine wg_pM9 (v := 0) hx hb hts hown hK hP hD hS kf_M_60 d_M_seal_27 (fun H locs hP hS => ?_)
      refine lv_iconst (v := (nI 0)) hx hb d_M_seal_30 (by decide +kernel) ?_
      refine lv_istore_n (lv' := [(1, .int (nI 0)), (0, .ref h0)]) hx hb d_M_seal_31 rfl hl (by decide) rfl (fun ls hl => ?_)
      refine wg_loop (fun k _ _ J H locs ls => (wg_MI J) ∧ (J 2 0 = 1) ∧ (∀ j, ¬ j = 2 → (j < 6 ∨ j = 10) → J j = I j) ∧ (J 9 0 ≤ 13 * k ∨ I 1 0 = 0) ∧ (k ≤ 48) ∧ va_P D wg_cl (wg_WM cJ cI h0 ad J) H ∧ va_S A s.heap H locs ∧ lv_has ls 3 [(0, .ref h0), (1, .int (nI k))]) (fun k _ _ J => 48 - k) (fun k _z0 _z1 J H locs ls hI ih32 => ?_) 0 0 0 (wg_st (wg_st I 2 0 1) 9 0 0) _ _ _ ⟨(by first | exact wg_MI_29 hI (by omega) (by omega)), rfl, (fun j h1 h2 => (wg_st_o _ _ _ _ (by omega)).trans (wg_st_o _ _ _ _ h1)), (by first | exact Or.inr (by omega) | exact Or.inl (Nat.zero_le _)), (by omega), hP, hS, lv_sub hl [1, 0] rfl⟩
      obtain ⟨hJ, hJs, hJf, hJc, hk, hP, hS, hl⟩ := hI
      have hJ' := hJ
      clear hn hse hfd hnd hw hOW hOL
      obtain ⟨hn, hse, hfd, hnd, hw, hOW, hOL⟩ := hJ'
      have hJn : J 1 0 = I 1 0 := by rw [hJf 1 (by decide) (by decide)]
      refine lv_iload_n hx hb d_M_seal_32 rfl (lv_at hl 1 rfl) ?_
      refine lv_aload_n hx hb d_M_seal_33 rfl (lv_at hl 0 rfl) ?_
      refine wg_gM hx hb hts hown hK hP 1 (by decide) (v := .int (nI (J 1 0))) kf_M_32 rfl d_M_seal_34 ?_
      refine lv_icmp_ge (tgt := 84) hx hb d_M_seal_37 (by decide) (fun h37 => ?_) (fun h37 => ?_)
      · rw [nI_leI (by omega) (by omega)] at h37
        refine lv_iconst (v := (nI 1)) hx hb d_M_seal_84 (by decide +kernel) ?_
        exact W.zret (ty := .boolean) (v := (nI 1)) hx hb hr (by decide +kernel) (fun tt hth hW => ⟨⟨_, J, rfl, (Or.inr ⟨h4, rfl, hJs, hJ, hJf⟩), wg_h hth hP⟩, hS.F hth⟩) hS.2.2 d_M_seal_85
      · rw [nI_leI (by omega) (by omega)] at h37
        refine lv_iconst (v := (nI 0)) hx hb d_M_seal_40 (by decide +kernel) ?_
        refine lv_istore_n (lv' := [(2, .int (nI 0)), (0, .ref h0), (1, .int (nI k))]) hx hb d_M_seal_41 rfl hl (by decide) rfl (fun ls hl => ?_)
        refine wg_loop (fun n _ _ K H locs ls => (wg_MI K) ∧ (K 2 0 = 1) ∧ (∀ j, ¬ j = 2 → (j < 6 ∨ j = 10) → K j = I j) ∧ (K 9 0 ≤ 13 * k + n) ∧ (n ≤ 13) ∧ va_P D wg_cl (wg_WM cJ cI h0 ad K) H ∧ va_S A s.heap H locs ∧ lv_has ls 3 [(0, .ref h0), (1, .int (nI k)), (2, .int (nI n))]) (fun n _ _ K => 13 - n) (fun n _z0 _z1 K H locs ls hI ih42 => ?_) 0 0 0 J _ _ _ ⟨hJ, hJs, hJf, (by omega), (by omega), hP, hS, lv_sub hl [1, 2, 0] rfl⟩
        obtain ⟨hJ2, hJs2, hJf2, hJc2, hn13, hP, hS, hl⟩ := hI
        have hJ := hJ2
        have hJ' := hJ
        clear hn hse hfd hnd hw hOW hOL
        obtain ⟨hn, hse, hfd, hnd, hw, hOW, hOL⟩ := hJ'
        have hK1 : K 1 0 = I 1 0 := by rw [hJf2 1 (by decide) (by decide)]
        refine lv_iload_n hx hb d_M_seal_42 rfl (lv_at hl 2 rfl) ?_
        refine lv_aload_n hx hb d_M_seal_43 rfl (lv_at hl 0 rfl) ?_
        refine wg_gM hx hb hts hown hK hP 0 (by decide) (v := .ref (ad 0)) kf_M_7 rfl d_M_seal_44 ?_
        refine lv_iload_n hx hb d_M_seal_47 rfl (lv_at hl 1 rfl) ?_
        refine wg_lld (f := K 0) (j := k) hx hb hK hP 1 rfl (by omega) (by decide) d_M_seal_48 ?_
        have hB48 := hw k (by omega)
        refine wg_csi (As := [.long (lN (K 0 k))]) (rest := [.int (nI n)]) hx hb hml hown hts hK hP hS hA (c_M_length l D cJ cI _ (K 0 k) (by omega)) kc_M_52 ⟨rfl, rfl⟩ ⟨Nat.le_of_ble_eq_true rfl, Nat.le_of_ble_eq_true rfl⟩ rfl hl.1 rfl (Nat.le_of_ble_eq_true rfl) d_M_seal_49 ⟨Nat.zero_le _, Nat.zero_le _⟩ (fun r H locs q49 hP hS => ?_)
        obtain rfl := q49
        have hq49 := wg_ln_le (K 0 k)
        refine lv_icmp_gt (tgt := 78) hx hb d_M_seal_52 (by decide) (fun h52 => ?_) (fun h52 => ?_)
        · rw [nI_ltI (by omega) (by omega)] at h52
          refine lv_iinc (v := nI (k + 1)) (k := 1) (lv' := [(1, .int (nI (k + 1))), (0, .ref h0), (2, .int (nI n))]) hx hb d_M_seal_78 hl rfl (nI_1 _) (by decide) rfl (fun ls hl => ?_)
          refine lv_goto (tgt := 32) hx hb d_M_seal_81 (by decide) ?_
          exact ih32 (k + 1) 0 0 K _ _ _ ⟨hJ2, hJs2, hJf2, (by omega), (by omega), hP, hS, lv_sub hl [1, 0] rfl⟩ (by omega)
        · rw [nI_ltI (by omega) (by omega)] at h52
          refine lv_aload_n hx hb d_M_seal_55 rfl (lv_at hl 0 rfl) ?_
          refine wg_gM hx hb hts hown hK hP 6 (by decide) (v := .ref (ad 6)) kf_M_20 rfl d_M_seal_56 ?_
          refine lv_bipush (v := (nI 13)) hx hb d_M_seal_59 (by decide +kernel) ?_
          refine lv_iload_n hx hb d_M_seal_61 rfl (lv_at hl 1 rfl) ?_
          refine t_imul (v := nI (13 * k)) hx hb d_M_seal_62 (pk_mul _ _) ?_
          refine lv_iload_n hx hb d_M_seal_63 rfl (lv_at hl 2 rfl) ?_
          refine t_iadd (v := nI ((13 * k) + n)) hx hb d_M_seal_64 (nI_add _ _) ?_
          refine lv_aload_n hx hb d_M_seal_65 rfl (lv_at hl 0 rfl) ?_
          refine lv_iload_n hx hb d_M_seal_66 rfl (lv_at hl 1 rfl) ?_
          refine lv_iload_n hx hb d_M_seal_67 rfl (lv_at hl 2 rfl) ?_
          refine wg_cvi (As := [.int (nI k), .int (nI n)]) (rest := [.int (nI ((13 * k) + n)), .ref (ad 6)]) hx hb hml hown hts hK hP (hD _) hS hA rfl rfl rfl (c_M_nodeOf l D cJ cI h0 ad _ K k n (by omega) (by omega) (by omega) hJ2) kc_M_66 ⟨rfl, rfl⟩ ⟨Nat.le_of_ble_eq_true rfl, Nat.le_of_ble_eq_true rfl⟩ rfl hl.1 rfl (Nat.le_of_ble_eq_true rfl) d_M_seal_68 ⟨Nat.zero_le _, Nat.zero_le _⟩ (fun r u68 tt H locs ht q68 hB _ _ hS => ?_)
          have hP : va_P D wg_cl (wg_WM cJ cI h0 ad u68) H := by rw [← ht]; exact hB
          clear hB ht tt
          obtain ⟨⟨v68, hv68, rfl⟩, hq68a, hq68b, hq68c⟩ := q68
          refine wg_sM6 (j := ((13 * k) + n)) (x := v68) hx hb hK hP hD hS (by omega) d_M_seal_71 (fun H locs hP hS => ?_)
          refine lv_iinc (v := nI (n + 1)) (k := 2) (lv' := [(2, .int (nI (n + 1))), (0, .ref h0), (1, .int (nI k))]) hx hb d_M_seal_72 hl rfl (nI_1 _) (by decide) rfl (fun ls hl => ?_)
          refine lv_goto (tgt := 42) hx hb d_M_seal_75 (by decide) ?_
          exact ih42 (n + 1) 0 0 (wg_st u68 6 ((13 * k) + n) v68) _ _ _ ⟨(wg_MI_6 hq68a), (by show u68 2 0 = 1; rw [hq68b 2 (by omega)]; exact hJs2), (fun j h1 h2 => (wg_st_o _ _ _ _ (by omega)).trans ((hq68b j (by omega)).trans (hJf2 j h1 h2))), (by show u68 9 0 ≤ _; omega), (by omega), hP, hS, lv_sub hl [1, 2, 0] rfl⟩ (by omega)
    · rw [wg_z0 (by omega)] at h19
      refine lv_iconst (v := (nI 1)) hx hb d_M_seal_22 (by decide +kernel) ?_
      refine lv_goto (tgt := 27) hx hb d_M_seal_23 (by decide) ?_
      refine wg_pM9 (v := 1) hx hb hts hown hK hP hD hS kf_M_60 d_M_seal_27 (fun H locs hP hS => ?_)
      refine lv_iconst (v := (nI 0)) hx hb d_M_seal_30 (by decide +kernel) ?_
      refine lv_istore_n (lv' := [(1, .int (nI 0)), (0, .ref h0)]) hx hb d_M_seal_31 rfl hl (by decide) rfl (fun ls hl => ?_)
      refine wg_loop (fun k _ _ J H locs ls => (wg_MI J) ∧ (J 2 0 = 1) ∧ (∀ j, ¬ j = 2 → (j < 6 ∨ j = 10) → J j = I j) ∧ (J 9 0 ≤ 13 * k ∨ I 1 0 = 0) ∧ (k ≤ 48) ∧ va_P D wg_cl (wg_WM cJ cI h0 ad J) H ∧ va_S A s.heap H locs ∧ lv_has ls 3 [(0, .ref h0), (1, .int (nI k))]) (fun k _ _ J => 48 - k) (fun k _z0 _z1 J H locs ls hI ih32 => ?_) 0 0 0 (wg_st (wg_st I 2 0 1) 9 0 1) _ _ _ ⟨(by first | exact wg_MI_29 hI (by omega) (by omega)), rfl, (fun j h1 h2 => (wg_st_o _ _ _ _ (by omega)).trans (wg_st_o _ _ _ _ h1)), (by first | exact Or.inr (by omega) | exact Or.inl (Nat.zero_le _)), (by omega), hP, hS, lv_sub hl [1, 0] rfl⟩
      obtain ⟨hJ, hJs, hJf, hJc, hk, hP, hS, hl⟩ := hI
      have hJ' := hJ
      clear hn hse hfd hnd hw hOW hOL
      obtain ⟨hn, hse, hfd, hnd, hw, hOW, hOL⟩ := hJ'
      have hJn : J 1 0 = I 1 0 := by rw [hJf 1 (by decide) (by decide)]
      refine lv_iload_n hx hb d_M_seal_32 rfl (lv_at hl 1 rfl) ?_
      refine lv_aload_n hx hb d_M_seal_33 rfl (lv_at hl 0 rfl) ?_
      refine wg_gM hx hb hts hown hK hP 1 (by decide) (v := .int (nI (J 1 0))) kf_M_32 rfl d_M_seal_34 ?_
      refine lv_icmp_ge (tgt := 84) hx hb d_M_seal_37 (by decide) (fun h37 => ?_) (fun h37 => ?_)
      · rw [nI_leI (by omega) (by omega)] at h37
        refine lv_iconst (v := (nI 1)) hx hb d_M_seal_84 (by decide +kernel) ?_
        exact W.zret (ty := .boolean) (v := (nI 1)) hx hb hr (by decide +kernel) (fun tt hth hW => ⟨⟨_, J, rfl, (Or.inr ⟨h4, rfl, hJs, hJ, hJf⟩), wg_h hth hP⟩, hS.F hth⟩) hS.2.2 d_M_seal_85
      · rw [nI_leI (by omega) (by omega)] at h37
        refine lv_iconst (v := (nI 0)) hx hb d_M_seal_40 (by decide +kernel) ?_
        refine lv_istore_n (lv' := [(2, .int (nI 0)), (0, .ref h0), (1, .int (nI k))]) hx hb d_M_seal_41 rfl hl (by decide) rfl (fun ls hl => ?_)
        refine wg_loop (fun n _ _ K H locs ls => (wg_MI K) ∧ (K 2 0 = 1) ∧ (∀ j, ¬ j = 2 → (j < 6 ∨ j = 10) → K j = I j) ∧ (K 9 0 ≤ 13 * k + n) ∧ (n ≤ 13) ∧ va_P D wg_cl (wg_WM cJ cI h0 ad K) H ∧ va_S A s.heap H locs ∧ lv_has ls 3 [(0, .ref h0), (1, .int (nI k)), (2, .int (nI n))]) (fun n _ _ K => 13 - n) (fun n _z0 _z1 K H locs ls hI ih42 => ?_) 0 0 0 J _ _ _ ⟨hJ, hJs, hJf, (by omega), (by omega), hP, hS, lv_sub hl [1, 2, 0] rfl⟩
        obtain ⟨hJ2, hJs2, hJf2, hJc2, hn13, hP, hS, hl⟩ := hI
        have hJ := hJ2
        have hJ' := hJ
        clear hn hse hfd hnd hw hOW hOL
        obtain ⟨hn, hse, hfd, hnd, hw, hOW, hOL⟩ := hJ'
        have hK1 : K 1 0 = I 1 0 := by rw [hJf2 1 (by decide) (by decide)]
        refine lv_iload_n hx hb d_M_seal_42 rfl (lv_at hl 2 rfl) ?_
        refine lv_aload_n hx hb d_M_seal_43 rfl (lv_at hl 0 rfl) ?_
        refine wg_gM hx hb hts hown hK hP 0 (by decide) (v := .ref (ad 0)) kf_M_7 rfl d_M_seal_44 ?_
        refine lv_iload_n hx hb d_M_seal_47 rfl (lv_at hl 1 rfl) ?_
        refine wg_lld (f := K 0) (j := k) hx hb hK hP 1 rfl (by omega) (by decide) d_M_seal_48 ?_
        have hB48 := hw k (by omega)
        refine wg_csi (As := [.long (lN (K 0 k))]) (rest := [.int (nI n)]) hx hb hml hown hts hK hP hS hA (c_M_length l D cJ cI _ (K 0 k) (by omega)) kc_M_52 ⟨rfl, rfl⟩ ⟨Nat.le_of_ble_eq_true rfl, Nat.le_of_ble_eq_true rfl⟩ rfl hl.1 rfl (Nat.le_of_ble_eq_true rfl) d_M_seal_49 ⟨Nat.zero_le _, Nat.zero_le _⟩ (fun r H locs q49 hP hS => ?_)
        obtain rfl := q49
        have hq49 := wg_ln_le (K 0 k)
        refine lv_icmp_gt (tgt := 78) hx hb d_M_seal_52 (by decide) (fun h52 => ?_) (fun h52 => ?_)
        · rw [nI_ltI (by omega) (by omega)] at h52
          refine lv_iinc (v := nI (k + 1)) (k := 1) (lv' := [(1, .int (nI (k + 1))), (0, .ref h0), (2, .int (nI n))]) hx hb d_M_seal_78 hl rfl (nI_1 _) (by decide) rfl (fun ls hl => ?_)
          refine lv_goto (tgt := 32) hx hb d_M_seal_81 (by decide) ?_
          exact ih32 (k + 1) 0 0 K _ _ _ ⟨hJ2, hJs2, hJf2, (by omega), (by omega), hP, hS, lv_sub hl [1, 0] rfl⟩ (by omega)
        · rw [nI_ltI (by omega) (by omega)] at h52
          refine lv_aload_n hx hb d_M_seal_55 rfl (lv_at hl 0 rfl) ?_
          refine wg_gM hx hb hts hown hK hP 6 (by decide) (v := .ref (ad 6)) kf_M_20 rfl d_M_seal_56 ?_
          refine lv_bipush (v := (nI 13)) hx hb d_M_seal_59 (by decide +kernel) ?_
          refine lv_iload_n hx hb d_M_seal_61 rfl (lv_at hl 1 rfl) ?_
          refine t_imul (v := nI (13 * k)) hx hb d_M_seal_62 (pk_mul _ _) ?_
          refine lv_iload_n hx hb d_M_seal_63 rfl (lv_at hl 2 rfl) ?_
          refine t_iadd (v := nI ((13 * k) + n)) hx hb d_M_seal_64 (nI_add _ _) ?_
          refine lv_aload_n hx hb d_M_seal_65 rfl (lv_at hl 0 rfl) ?_
          refine lv_iload_n hx hb d_M_seal_66 rfl (lv_at hl 1 rfl) ?_
          refine lv_iload_n hx hb d_M_seal_67 rfl (lv_at hl 2 rfl) ?_
          refine wg_cvi (As := [.int (nI k), .int (nI n)]) (rest := [.int (nI ((13 * k) + n)), .ref (ad 6)]) hx hb hml hown hts hK hP (hD _) hS hA rfl rfl rfl (c_M_nodeOf l D cJ cI h0 ad _ K k n (by omega) (by omega) (by omega) hJ2) kc_M_66 ⟨rfl, rfl⟩ ⟨Nat.le_of_ble_eq_true rfl, Nat.le_of_ble_eq_true rfl⟩ rfl hl.1 rfl (Nat.le_of_ble_eq_true rfl) d_M_seal_68 ⟨Nat.zero_le _, Nat.zero_le _⟩ (fun r u68 tt H locs ht q68 hB _ _ hS => ?_)
          have hP : va_P D wg_cl (wg_WM cJ cI h0 ad u68) H := by rw [← ht]; exact hB
          clear hB ht tt
          obtain ⟨⟨v68, hv68, rfl⟩, hq68a, hq68b, hq68c⟩ := q68
          refine wg_sM6 (j := ((13 * k) + n)) (x := v68) hx hb hK hP hD hS (by omega) d_M_seal_71 (fun H locs hP hS => ?_)
          refine lv_iinc (v := nI (n + 1)) (k := 2) (lv' := [(2, .int (nI (n + 1))), (0, .ref h0), (1, .int (nI k))]) hx hb d_M_seal_72 hl rfl (nI_1 _) (by decide) rfl (fun ls hl => ?_)
          refine lv_goto (tgt := 42) hx hb d_M_seal_75 (by decide) ?_
          exact ih42 (n + 1) 0 0 (wg_st u68 6 ((13 * k) + n) v68) _ _ _ ⟨(wg_MI_6 hq68a), (by show u68 2 0 = 1; rw [hq68b 2 (by omega)]; exact hJs2), (fun j h1 h2 => (wg_st_o _ _ _ _ (by omega)).trans ((hq68b j (by omega)).trans (hJf2 j h1 h2))), (by show u68 9 0 ≤ _; omega), (by omega), hP, hS, lv_sub hl [1, 2, 0] rfl⟩ (by omega)
  · rw [wg_z0 (by omega)] at h4
    refine lv_iconst (v := (nI 0)) hx hb d_M_seal_7 (by decide +kernel) ?_
    exact W.zret (ty := .boolean) (v := (nI 0)) hx hb hr (by decide +kernel) (fun tt hth hW => ⟨⟨_, I, rfl, (Or.inl ⟨h4, rfl, rfl⟩), wg_h hth hP⟩, hS.F hth⟩) hS.2.2 d_M_seal_8
end
section
set_option maxHeartbeats 4000000 in
set_option maxRecDepth 100000 in
theorem c_M_step (l : Launch) (D : va_G) (cJ cI : ClassId) (h0 : Nat) (ad : Nat → Nat) (sz : Nat) (I : wg_S) (x : Int32) (ch : Int32) (hI : wg_MI I) : Met l y_M_step (wg_ws y_M_step b_M_step 4 (some .int)) ({ frames := 2, cells := 0, slots := 0, locals := 46 }) (va_Pc [.ref h0, .int x, .int ch] (wg_Pc D cJ cI (wg_WM cJ cI h0 ad I) sz)) (va_Qi (fun (r : Int32) (u : Unit) => I 2 0 = 0 → r = -1) (fun (_ : Unit) t => va_P D wg_cl (wg_WM cJ cI h0 ad I) t.heap) (va_A (wg_WM cJ cI h0 ad I) sz)) 0 0 (va_A (wg_WM cJ cI h0 ad I) sz) := by
  refine wg_head (Wd := (fun I => wg_WM cJ cI h0 ad I)) (I := I) (fun A => va_Qi (fun (r : Int32) (u : Unit) => I 2 0 = 0 → r = -1) (fun (_ : Unit) t => va_P D wg_cl (wg_WM cJ cI h0 ad I) t.heap) A) R_M (by decide) rfl (Nat.le_of_ble_eq_true rfl) (fun I J => wg_same_M I J) ?_
  intro p e s m below meth c A ls hx hb hr hlk hml hown hnm hts hA hK hD hP hS hl hsz
  clear hsz
  have hl : lv_has ls 4 [(0, .ref h0), (1, .int x), (2, .int ch)] := hl
  have hP : va_P D wg_cl (wg_WM cJ cI h0 ad I) s.heap := hP
  skip
  have hI' := hI
  obtain ⟨hn, hse, hfd, hnd, hw, hOW, hOL⟩ := hI'
  refine lv_aload_n hx hb d_M_step_0 rfl (lv_at hl 0 rfl) ?_
  refine lv_iload_n hx hb d_M_step_1 rfl (lv_at hl 1 rfl) ?_
  refine wg_cvi (As := [.int x]) (rest := []) hx hb hml hown hts hK hP (hD _) hS hA rfl rfl rfl (c_M_isNode l D cJ cI h0 ad _ I x (by omega)) kc_M_75 ⟨rfl, rfl⟩ ⟨Nat.le_of_ble_eq_true rfl, Nat.le_of_ble_eq_true rfl⟩ rfl hl.1 rfl (Nat.le_of_ble_eq_true rfl) d_M_step_2 ⟨Nat.zero_le _, Nat.zero_le _⟩ (fun r u2 tt H locs ht q2 hB _ _ hS => ?_)
  have hP : va_P D wg_cl (wg_WM cJ cI h0 ad I) H := by rw [← ht]; exact hB
  clear hB ht tt
  rcases q2 with ⟨rfl, hz2a, hz2b, j2, hj2, rfl⟩ | ⟨rfl, hj2⟩
  · skip
    refine lv_if_eq (tgt := 30) hx hb d_M_step_5 (by decide) (fun h => absurd h (by decide +kernel)) (fun _ => ?_)
    refine lv_iload_n hx hb d_M_step_8 rfl (lv_at hl 2 rfl) ?_
    refine lv_iconst (v := (nI 1)) hx hb d_M_step_9 (by decide +kernel) ?_
    refine lv_icmp_lt (tgt := 30) hx hb d_M_step_10 (by decide) (fun h10 => ?_) (fun h10 => ?_)
    · refine lv_iconst (v := (-1)) hx hb d_M_step_30 (by decide +kernel) ?_
      exact W.iret (v := (-1)) hx hb hr (fun tt hth hW => ⟨⟨_, (), rfl, (fun _ => rfl), wg_h hth hP⟩, hS.F hth⟩) hS.2.2 d_M_step_31
    · refine lv_iload_n hx hb d_M_step_13 rfl (lv_at hl 2 rfl) ?_
      refine lv_bipush (v := (nI 26)) hx hb d_M_step_14 (by decide +kernel) ?_
      refine lv_icmp_gt (tgt := 30) hx hb d_M_step_16 (by decide) (fun h16 => ?_) (fun h16 => ?_)
      · refine lv_iconst (v := (-1)) hx hb d_M_step_30 (by decide +kernel) ?_
        exact W.iret (v := (-1)) hx hb hr (fun tt hth hW => ⟨⟨_, (), rfl, (fun _ => rfl), wg_h hth hP⟩, hS.F hth⟩) hS.2.2 d_M_step_31
      · refine lv_aload_n hx hb d_M_step_19 rfl (lv_at hl 0 rfl) ?_
        refine wg_gM hx hb hts hown hK hP 8 (by decide) (v := .ref (ad 8)) kf_M_26 rfl d_M_step_20 ?_
        refine lv_iload_n hx hb d_M_step_23 rfl (lv_at hl 1 rfl) ?_
        refine wg_ild (f := I 8) (j := j2) hx hb hK hP 6 rfl (by omega) (by decide) d_M_step_24 ?_
        have hB24 := hOL j2 (by omega)
        refine lv_bipush (v := (nI 12)) hx hb d_M_step_25 (by decide +kernel) ?_
        refine lv_icmp_ne (tgt := 32) hx hb d_M_step_27 (by decide) (fun h27 => ?_) (fun h27 => ?_)
        · rw [nI_eq (by omega) (by omega)] at h27
          refine lv_iconst (v := (nI 0)) hx hb d_M_step_32 (by decide +kernel) ?_
          refine lv_istore_n (lv' := [(3, .int (nI 0)), (0, .ref h0), (1, .int (nI j2)), (2, .int ch)]) hx hb d_M_step_33 rfl hl (by decide) rfl (fun ls hl => ?_)
          refine wg_loop (fun k _ _ _ H locs ls => (k ≤ 48) ∧ va_P D wg_cl (wg_WM cJ cI h0 ad I) H ∧ va_S A s.heap H locs ∧ lv_has ls 4 [(0, .ref h0), (1, .int (nI j2)), (2, .int ch), (3, .int (nI k))]) (fun k _ _ _ => 48 - k) (fun k _z0 _z1 _J H locs ls hI ih34 => ?_) 0 0 0 (fun _ _ => 0) _ _ _ ⟨(by omega), hP, hS, lv_sub hl [1, 2, 3, 0] rfl⟩
          obtain ⟨hk, hP, hS, hl⟩ := hI
          refine lv_iload_n hx hb d_M_step_34 rfl (lv_at hl 3 rfl) ?_
          refine lv_aload_n hx hb d_M_step_35 rfl (lv_at hl 0 rfl) ?_
          refine wg_gM hx hb hts hown hK hP 1 (by decide) (v := .int (nI (I 1 0))) kf_M_32 rfl d_M_step_36 ?_
          refine lv_icmp_ge (tgt := 106) hx hb d_M_step_39 (by decide) (fun h39 => ?_) (fun h39 => ?_)
          · rw [nI_leI (by omega) (by omega)] at h39
            refine lv_iconst (v := (-1)) hx hb d_M_step_106 (by decide +kernel) ?_
            exact W.iret (v := (-1)) hx hb hr (fun tt hth hW => ⟨⟨_, (), rfl, (fun _ => rfl), wg_h hth hP⟩, hS.F hth⟩) hS.2.2 d_M_step_107
          · rw [nI_leI (by omega) (by omega)] at h39
            refine lv_aload_n hx hb d_M_step_42 rfl (lv_at hl 0 rfl) ?_
            refine lv_iload_n hx hb d_M_step_43 rfl (lv_at hl 3 rfl) ?_
            refine lv_aload_n hx hb d_M_step_44 rfl (lv_at hl 0 rfl) ?_
            refine wg_gM hx hb hts hown hK hP 7 (by decide) (v := .ref (ad 7)) kf_M_23 rfl d_M_step_45 ?_
            refine lv_iload_n hx hb d_M_step_48 rfl (lv_at hl 1 rfl) ?_
            refine wg_ild (f := I 7) (j := j2) hx hb hK hP 5 rfl (by omega) (by decide) d_M_step_49 ?_
            have hB49 := hOW j2 (by omega)
            refine lv_aload_n hx hb d_M_step_50 rfl (lv_at hl 0 rfl) ?_
            refine wg_gM hx hb hts hown hK hP 8 (by decide) (v := .ref (ad 8)) kf_M_26 rfl d_M_step_51 ?_
            refine lv_iload_n hx hb d_M_step_54 rfl (lv_at hl 1 rfl) ?_
            refine wg_ild (f := I 8) (j := j2) hx hb hK hP 6 rfl (by omega) (by decide) d_M_step_55 ?_
            have hB55 := hOL j2 (by omega)
            refine wg_cvi (As := [.int (nI k), .int (nI (I 7 j2)), .int (nI (I 8 j2))]) (rest := []) hx hb hml hown hts hK hP (hD _) hS hA rfl rfl rfl (c_M_share l D cJ cI h0 ad _ I k (I 7 j2) (I 8 j2) (by omega) (by omega) (by omega) hI) kc_M_48 ⟨rfl, rfl⟩ ⟨Nat.le_of_ble_eq_true rfl, Nat.le_of_ble_eq_true rfl⟩ rfl hl.1 rfl (Nat.le_of_ble_eq_true rfl) d_M_step_56 ⟨Nat.zero_le _, Nat.zero_le _⟩ (fun r u56 tt H locs ht q56 hB _ _ hS => ?_)
            have hP : va_P D wg_cl (wg_WM cJ cI h0 ad I) H := by rw [← ht]; exact hB
            clear hB ht tt
            rcases q56 with ⟨rfl, hs56⟩ | ⟨rfl, hs56⟩
            · skip
              refine lv_if_eq (tgt := 100) hx hb d_M_step_59 (by decide) (fun h => absurd h (by decide +kernel)) (fun _ => ?_)
              refine lv_aload_n hx hb d_M_step_62 rfl (lv_at hl 0 rfl) ?_
              refine wg_gM hx hb hts hown hK hP 0 (by decide) (v := .ref (ad 0)) kf_M_7 rfl d_M_step_63 ?_
              refine lv_iload_n hx hb d_M_step_66 rfl (lv_at hl 3 rfl) ?_
              refine wg_lld (f := I 0) (j := k) hx hb hK hP 1 rfl (by omega) (by decide) d_M_step_67 ?_
              have hB67 := hw k (by omega)
              refine lv_aload_n hx hb d_M_step_68 rfl (lv_at hl 0 rfl) ?_
              refine wg_gM hx hb hts hown hK hP 8 (by decide) (v := .ref (ad 8)) kf_M_26 rfl d_M_step_69 ?_
              refine lv_iload_n hx hb d_M_step_72 rfl (lv_at hl 1 rfl) ?_
              refine wg_ild (f := I 8) (j := j2) hx hb hK hP 6 rfl (by omega) (by decide) d_M_step_73 ?_
              have hB73 := hOL j2 (by omega)
              refine wg_csi (As := [.long (lN (I 0 k)), .int (nI (I 8 j2))]) (rest := []) hx hb hml hown hts hK hP hS hA (c_M_letter l D cJ cI _ (I 0 k) (I 8 j2) (by omega) (by omega)) kc_M_36 ⟨rfl, rfl⟩ ⟨Nat.le_of_ble_eq_true rfl, Nat.le_of_ble_eq_true rfl⟩ rfl hl.1 rfl (Nat.le_of_ble_eq_true rfl) d_M_step_74 ⟨Nat.zero_le _, Nat.zero_le _⟩ (fun r H locs q74 hP hS => ?_)
              obtain rfl := q74
              have hq74 := wg_lt_le (I 0 k) (I 8 j2)
              refine lv_iload_n hx hb d_M_step_77 rfl (lv_at hl 2 rfl) ?_
              refine lv_icmp_ne (tgt := 100) hx hb d_M_step_78 (by decide) (fun h78 => ?_) (fun h78 => ?_)
              · refine lv_iinc (v := nI (k + 1)) (k := 3) (lv' := [(3, .int (nI (k + 1))), (0, .ref h0), (1, .int (nI j2)), (2, .int ch)]) hx hb d_M_step_100 hl rfl (nI_1 _) (by decide) rfl (fun ls hl => ?_)
                refine lv_goto (tgt := 34) hx hb d_M_step_103 (by decide) ?_
                exact ih34 (k + 1) 0 0 (fun _ _ => 0) _ _ _ ⟨(by omega), hP, hS, lv_sub hl [1, 2, 3, 0] rfl⟩ (by omega)
              · refine lv_aload_n hx hb d_M_step_81 rfl (lv_at hl 0 rfl) ?_
                refine wg_gM hx hb hts hown hK hP 6 (by decide) (v := .ref (ad 6)) kf_M_20 rfl d_M_step_82 ?_
                refine lv_bipush (v := (nI 13)) hx hb d_M_step_85 (by decide +kernel) ?_
                refine lv_iload_n hx hb d_M_step_87 rfl (lv_at hl 3 rfl) ?_
                refine t_imul (v := nI (13 * k)) hx hb d_M_step_88 (pk_mul _ _) ?_
                refine lv_aload_n hx hb d_M_step_89 rfl (lv_at hl 0 rfl) ?_
                refine wg_gM hx hb hts hown hK hP 8 (by decide) (v := .ref (ad 8)) kf_M_26 rfl d_M_step_90 ?_
                refine lv_iload_n hx hb d_M_step_93 rfl (lv_at hl 1 rfl) ?_
                refine wg_ild (f := I 8) (j := j2) hx hb hK hP 6 rfl (by omega) (by decide) d_M_step_94 ?_
                have hB94 := hOL j2 (by omega)
                refine t_iadd (v := nI ((13 * k) + (I 8 j2))) hx hb d_M_step_95 (nI_add _ _) ?_
                refine lv_iconst (v := (nI 1)) hx hb d_M_step_96 (by decide +kernel) ?_
                refine t_iadd (v := nI (((13 * k) + (I 8 j2)) + 1)) hx hb d_M_step_97 (nI_add _ _) ?_
                refine wg_ild (f := I 6) (j := (((13 * k) + (I 8 j2)) + 1)) hx hb hK hP 4 rfl (by omega) (by decide) d_M_step_98 ?_
                exact W.iret (v := (nI (I 6 (((13 * k) + (I 8 j2)) + 1)))) hx hb hr (fun tt hth hW => ⟨⟨_, (), rfl, (fun h => by omega), wg_h hth hP⟩, hS.F hth⟩) hS.2.2 d_M_step_99
            · skip
              refine lv_if_eq (tgt := 100) hx hb d_M_step_59 (by decide) (fun _ => ?_) (fun h => absurd h (by decide +kernel))
              refine lv_iinc (v := nI (k + 1)) (k := 3) (lv' := [(3, .int (nI (k + 1))), (0, .ref h0), (1, .int (nI j2)), (2, .int ch)]) hx hb d_M_step_100 hl rfl (nI_1 _) (by decide) rfl (fun ls hl => ?_)
              refine lv_goto (tgt := 34) hx hb d_M_step_103 (by decide) ?_
              exact ih34 (k + 1) 0 0 (fun _ _ => 0) _ _ _ ⟨(by omega), hP, hS, lv_sub hl [1, 2, 3, 0] rfl⟩ (by omega)
        · rw [nI_eq (by omega) (by omega)] at h27
          refine lv_iconst (v := (-1)) hx hb d_M_step_30 (by decide +kernel) ?_
          exact W.iret (v := (-1)) hx hb hr (fun tt hth hW => ⟨⟨_, (), rfl, (fun _ => rfl), wg_h hth hP⟩, hS.F hth⟩) hS.2.2 d_M_step_31
  · skip
    refine lv_if_eq (tgt := 30) hx hb d_M_step_5 (by decide) (fun _ => ?_) (fun h => absurd h (by decide +kernel))
    refine lv_iconst (v := (-1)) hx hb d_M_step_30 (by decide +kernel) ?_
    exact W.iret (v := (-1)) hx hb hr (fun tt hth hW => ⟨⟨_, (), rfl, (fun _ => rfl), wg_h hth hP⟩, hS.F hth⟩) hS.2.2 d_M_step_31
set_option maxHeartbeats 4000000 in
set_option maxRecDepth 100000 in
theorem c_M_ends (l : Launch) (D : va_G) (cJ cI : ClassId) (h0 : Nat) (ad : Nat → Nat) (sz : Nat) (I : wg_S) (x : Int32) (hI : wg_MI I) : Met l y_M_ends (wg_ws y_M_ends b_M_ends 3 (some .boolean)) ({ frames := 2, cells := 0, slots := 0, locals := 46 }) (va_Pc [.ref h0, .int x] (wg_Pc D cJ cI (wg_WM cJ cI h0 ad I) sz)) (va_Qi (fun (r : Int32) (u : Unit) => I 1 0 = 0 → r = nI 0) (fun (_ : Unit) t => va_P D wg_cl (wg_WM cJ cI h0 ad I) t.heap) (va_A (wg_WM cJ cI h0 ad I) sz)) 0 0 (va_A (wg_WM cJ cI h0 ad I) sz) := by
  refine wg_head (Wd := (fun I => wg_WM cJ cI h0 ad I)) (I := I) (fun A => va_Qi (fun (r : Int32) (u : Unit) => I 1 0 = 0 → r = nI 0) (fun (_ : Unit) t => va_P D wg_cl (wg_WM cJ cI h0 ad I) t.heap) A) R_M (by decide) rfl (Nat.le_of_ble_eq_true rfl) (fun I J => wg_same_M I J) ?_
  intro p e s m below meth c A ls hx hb hr hlk hml hown hnm hts hA hK hD hP hS hl hsz
  clear hsz
  have hl : lv_has ls 3 [(0, .ref h0), (1, .int x)] := hl
  have hP : va_P D wg_cl (wg_WM cJ cI h0 ad I) s.heap := hP
  skip
  have hI' := hI
  obtain ⟨hn, hse, hfd, hnd, hw, hOW, hOL⟩ := hI'
  refine lv_iconst (v := (nI 0)) hx hb d_M_ends_0 (by decide +kernel) ?_
  refine lv_istore_n (lv' := [(2, .int (nI 0)), (0, .ref h0), (1, .int x)]) hx hb d_M_ends_1 rfl hl (by decide) rfl (fun ls hl => ?_)
  refine wg_loop (fun k _ _ _ H locs ls => (k ≤ 48) ∧ va_P D wg_cl (wg_WM cJ cI h0 ad I) H ∧ va_S A s.heap H locs ∧ lv_has ls 3 [(0, .ref h0), (1, .int x), (2, .int (nI k))]) (fun k _ _ _ => 48 - k) (fun k _z0 _z1 _J H locs ls hI ih2 => ?_) 0 0 0 (fun _ _ => 0) _ _ _ ⟨(by omega), hP, hS, lv_sub hl [1, 2, 0] rfl⟩
  obtain ⟨hk, hP, hS, hl⟩ := hI
  refine lv_iload_n hx hb d_M_ends_2 rfl (lv_at hl 2 rfl) ?_
  refine lv_aload_n hx hb d_M_ends_3 rfl (lv_at hl 0 rfl) ?_
  refine wg_gM hx hb hts hown hK hP 1 (by decide) (v := .int (nI (I 1 0))) kf_M_32 rfl d_M_ends_4 ?_
  refine lv_icmp_ge (tgt := 64) hx hb d_M_ends_7 (by decide) (fun h7 => ?_) (fun h7 => ?_)
  · rw [nI_leI (by omega) (by omega)] at h7
    refine lv_iconst (v := (nI 0)) hx hb d_M_ends_64 (by decide +kernel) ?_
    exact W.zret (ty := .boolean) (v := (nI 0)) hx hb hr (by decide +kernel) (fun tt hth hW => ⟨⟨_, (), rfl, (fun _ => rfl), wg_h hth hP⟩, hS.F hth⟩) hS.2.2 d_M_ends_65
  · rw [nI_leI (by omega) (by omega)] at h7
    refine lv_aload_n hx hb d_M_ends_10 rfl (lv_at hl 0 rfl) ?_
    refine lv_iload_n hx hb d_M_ends_11 rfl (lv_at hl 1 rfl) ?_
    refine wg_cvi (As := [.int x]) (rest := []) hx hb hml hown hts hK hP (hD _) hS hA rfl rfl rfl (c_M_isNode l D cJ cI h0 ad _ I x (by omega)) kc_M_75 ⟨rfl, rfl⟩ ⟨Nat.le_of_ble_eq_true rfl, Nat.le_of_ble_eq_true rfl⟩ rfl hl.1 rfl (Nat.le_of_ble_eq_true rfl) d_M_ends_12 ⟨Nat.zero_le _, Nat.zero_le _⟩ (fun r u12 tt H locs ht q12 hB _ _ hS => ?_)
    have hP : va_P D wg_cl (wg_WM cJ cI h0 ad I) H := by rw [← ht]; exact hB
    clear hB ht tt
    rcases q12 with ⟨rfl, hz12a, hz12b, j12, hj12, rfl⟩ | ⟨rfl, hj12⟩
    · skip
      refine lv_if_eq (tgt := 58) hx hb d_M_ends_15 (by decide) (fun h => absurd h (by decide +kernel)) (fun _ => ?_)
      refine lv_aload_n hx hb d_M_ends_18 rfl (lv_at hl 0 rfl) ?_
      refine lv_iload_n hx hb d_M_ends_19 rfl (lv_at hl 2 rfl) ?_
      refine lv_aload_n hx hb d_M_ends_20 rfl (lv_at hl 0 rfl) ?_
      refine wg_gM hx hb hts hown hK hP 7 (by decide) (v := .ref (ad 7)) kf_M_23 rfl d_M_ends_21 ?_
      refine lv_iload_n hx hb d_M_ends_24 rfl (lv_at hl 1 rfl) ?_
      refine wg_ild (f := I 7) (j := j12) hx hb hK hP 5 rfl (by omega) (by decide) d_M_ends_25 ?_
      have hB25 := hOW j12 (by omega)
      refine lv_aload_n hx hb d_M_ends_26 rfl (lv_at hl 0 rfl) ?_
      refine wg_gM hx hb hts hown hK hP 8 (by decide) (v := .ref (ad 8)) kf_M_26 rfl d_M_ends_27 ?_
      refine lv_iload_n hx hb d_M_ends_30 rfl (lv_at hl 1 rfl) ?_
      refine wg_ild (f := I 8) (j := j12) hx hb hK hP 6 rfl (by omega) (by decide) d_M_ends_31 ?_
      have hB31 := hOL j12 (by omega)
      refine wg_cvi (As := [.int (nI k), .int (nI (I 7 j12)), .int (nI (I 8 j12))]) (rest := []) hx hb hml hown hts hK hP (hD _) hS hA rfl rfl rfl (c_M_share l D cJ cI h0 ad _ I k (I 7 j12) (I 8 j12) (by omega) (by omega) (by omega) hI) kc_M_48 ⟨rfl, rfl⟩ ⟨Nat.le_of_ble_eq_true rfl, Nat.le_of_ble_eq_true rfl⟩ rfl hl.1 rfl (Nat.le_of_ble_eq_true rfl) d_M_ends_32 ⟨Nat.zero_le _, Nat.zero_le _⟩ (fun r u32 tt H locs ht q32 hB _ _ hS => ?_)
      have hP : va_P D wg_cl (wg_WM cJ cI h0 ad I) H := by rw [← ht]; exact hB
      clear hB ht tt
      rcases q32 with ⟨rfl, hs32⟩ | ⟨rfl, hs32⟩
      · skip
        refine lv_if_eq (tgt := 58) hx hb d_M_ends_35 (by decide) (fun h => absurd h (by decide +kernel)) (fun _ => ?_)
        refine lv_aload_n hx hb d_M_ends_38 rfl (lv_at hl 0 rfl) ?_
        refine wg_gM hx hb hts hown hK hP 0 (by decide) (v := .ref (ad 0)) kf_M_7 rfl d_M_ends_39 ?_
        refine lv_iload_n hx hb d_M_ends_42 rfl (lv_at hl 2 rfl) ?_
        refine wg_lld (f := I 0) (j := k) hx hb hK hP 1 rfl (by omega) (by decide) d_M_ends_43 ?_
        have hB43 := hw k (by omega)
        refine wg_csi (As := [.long (lN (I 0 k))]) (rest := []) hx hb hml hown hts hK hP hS hA (c_M_length l D cJ cI _ (I 0 k) (by omega)) kc_M_52 ⟨rfl, rfl⟩ ⟨Nat.le_of_ble_eq_true rfl, Nat.le_of_ble_eq_true rfl⟩ rfl hl.1 rfl (Nat.le_of_ble_eq_true rfl) d_M_ends_44 ⟨Nat.zero_le _, Nat.zero_le _⟩ (fun r H locs q44 hP hS => ?_)
        obtain rfl := q44
        have hq44 := wg_ln_le (I 0 k)
        refine lv_aload_n hx hb d_M_ends_47 rfl (lv_at hl 0 rfl) ?_
        refine wg_gM hx hb hts hown hK hP 8 (by decide) (v := .ref (ad 8)) kf_M_26 rfl d_M_ends_48 ?_
        refine lv_iload_n hx hb d_M_ends_51 rfl (lv_at hl 1 rfl) ?_
        refine wg_ild (f := I 8) (j := j12) hx hb hK hP 6 rfl (by omega) (by decide) d_M_ends_52 ?_
        have hB52 := hOL j12 (by omega)
        refine lv_icmp_ne (tgt := 58) hx hb d_M_ends_53 (by decide) (fun h53 => ?_) (fun h53 => ?_)
        · rw [nI_eq (by omega) (by omega)] at h53
          refine lv_iinc (v := nI (k + 1)) (k := 2) (lv' := [(2, .int (nI (k + 1))), (0, .ref h0), (1, .int (nI j12))]) hx hb d_M_ends_58 hl rfl (nI_1 _) (by decide) rfl (fun ls hl => ?_)
          refine lv_goto (tgt := 2) hx hb d_M_ends_61 (by decide) ?_
          exact ih2 (k + 1) 0 0 (fun _ _ => 0) _ _ _ ⟨(by omega), hP, hS, lv_sub hl [1, 2, 0] rfl⟩ (by omega)
        · rw [nI_eq (by omega) (by omega)] at h53
          refine lv_iconst (v := (nI 1)) hx hb d_M_ends_56 (by decide +kernel) ?_
          exact W.zret (ty := .boolean) (v := (nI 1)) hx hb hr (by decide +kernel) (fun tt hth hW => ⟨⟨_, (), rfl, (fun h => by omega), wg_h hth hP⟩, hS.F hth⟩) hS.2.2 d_M_ends_57
      · skip
        refine lv_if_eq (tgt := 58) hx hb d_M_ends_35 (by decide) (fun _ => ?_) (fun h => absurd h (by decide +kernel))
        refine lv_iinc (v := nI (k + 1)) (k := 2) (lv' := [(2, .int (nI (k + 1))), (0, .ref h0), (1, .int (nI j12))]) hx hb d_M_ends_58 hl rfl (nI_1 _) (by decide) rfl (fun ls hl => ?_)
        refine lv_goto (tgt := 2) hx hb d_M_ends_61 (by decide) ?_
        exact ih2 (k + 1) 0 0 (fun _ _ => 0) _ _ _ ⟨(by omega), hP, hS, lv_sub hl [1, 2, 0] rfl⟩ (by omega)
    · skip
      refine lv_if_eq (tgt := 58) hx hb d_M_ends_15 (by decide) (fun _ => ?_) (fun h => absurd h (by decide +kernel))
      refine lv_iinc (v := nI (k + 1)) (k := 2) (lv' := [(2, .int (nI (k + 1))), (0, .ref h0), (1, .int x)]) hx hb d_M_ends_58 hl rfl (nI_1 _) (by decide) rfl (fun ls hl => ?_)
      refine lv_goto (tgt := 2) hx hb d_M_ends_61 (by decide) ?_
      exact ih2 (k + 1) 0 0 (fun _ _ => 0) _ _ _ ⟨(by omega), hP, hS, lv_sub hl [1, 2, 0] rfl⟩ (by omega)
set_option maxHeartbeats 4000000 in
set_option maxRecDepth 100000 in
theorem c_M_endings (l : Launch) (D : va_G) (cJ cI : ClassId) (h0 : Nat) (ad : Nat → Nat) (sz : Nat) (I : wg_S) (x : Int32) (hI : wg_MI I) : Met l y_M_endings (wg_ws y_M_endings b_M_endings 4 (some .int)) ({ frames := 2, cells := 0, slots := 0, locals := 46 }) (va_Pc [.ref h0, .int x] (wg_Pc D cJ cI (wg_WM cJ cI h0 ad I) sz)) (va_Qi (fun (r : Int32) (u : Unit) => I 1 0 = 0 → r = nI 0) (fun (_ : Unit) t => va_P D wg_cl (wg_WM cJ cI h0 ad I) t.heap) (va_A (wg_WM cJ cI h0 ad I) sz)) 0 0 (va_A (wg_WM cJ cI h0 ad I) sz) := by
  refine wg_head (Wd := (fun I => wg_WM cJ cI h0 ad I)) (I := I) (fun A => va_Qi (fun (r : Int32) (u : Unit) => I 1 0 = 0 → r = nI 0) (fun (_ : Unit) t => va_P D wg_cl (wg_WM cJ cI h0 ad I) t.heap) A) R_M (by decide) rfl (Nat.le_of_ble_eq_true rfl) (fun I J => wg_same_M I J) ?_
  intro p e s m below meth c A ls hx hb hr hlk hml hown hnm hts hA hK hD hP hS hl hsz
  clear hsz
  have hl : lv_has ls 4 [(0, .ref h0), (1, .int x)] := hl
  have hP : va_P D wg_cl (wg_WM cJ cI h0 ad I) s.heap := hP
  skip
  have hI' := hI
  obtain ⟨hn, hse, hfd, hnd, hw, hOW, hOL⟩ := hI'
  refine lv_iconst (v := (nI 0)) hx hb d_M_endings_0 (by decide +kernel) ?_
  refine lv_istore_n (lv' := [(2, .int (nI 0)), (0, .ref h0), (1, .int x)]) hx hb d_M_endings_1 rfl hl (by decide) rfl (fun ls hl => ?_)
  refine lv_iconst (v := (nI 0)) hx hb d_M_endings_2 (by decide +kernel) ?_
  refine lv_istore_n (lv' := [(3, .int (nI 0)), (2, .int (nI 0)), (0, .ref h0), (1, .int x)]) hx hb d_M_endings_3 rfl hl (by decide) rfl (fun ls hl => ?_)
  refine wg_loop (fun k cnt _ _ H locs ls => (k ≤ 48) ∧ (I 1 0 = 0 → cnt = 0) ∧ va_P D wg_cl (wg_WM cJ cI h0 ad I) H ∧ va_S A s.heap H locs ∧ lv_has ls 4 [(0, .ref h0), (1, .int x), (2, .int (nI cnt)), (3, .int (nI k))]) (fun k cnt _ _ => 48 - k) (fun k cnt _z0 _J H locs ls hI ih4 => ?_) 0 0 0 (fun _ _ => 0) _ _ _ ⟨(by omega), (by omega), hP, hS, lv_sub hl [2, 3, 1, 0] rfl⟩
  obtain ⟨hk, hcnt, hP, hS, hl⟩ := hI
  refine lv_iload_n hx hb d_M_endings_4 rfl (lv_at hl 3 rfl) ?_
  refine lv_aload_n hx hb d_M_endings_5 rfl (lv_at hl 0 rfl) ?_
  refine wg_gM hx hb hts hown hK hP 1 (by decide) (v := .int (nI (I 1 0))) kf_M_32 rfl d_M_endings_6 ?_
  refine lv_icmp_ge (tgt := 50) hx hb d_M_endings_9 (by decide) (fun h9 => ?_) (fun h9 => ?_)
  · rw [nI_leI (by omega) (by omega)] at h9
    refine lv_iload_n hx hb d_M_endings_50 rfl (lv_at hl 2 rfl) ?_
    exact W.iret (v := (nI cnt)) hx hb hr (fun tt hth hW => ⟨⟨_, (), rfl, (fun h => by rw [show cnt = 0 by omega]), wg_h hth hP⟩, hS.F hth⟩) hS.2.2 d_M_endings_51
  · rw [nI_leI (by omega) (by omega)] at h9
    refine lv_aload_n hx hb d_M_endings_12 rfl (lv_at hl 0 rfl) ?_
    refine lv_iload_n hx hb d_M_endings_13 rfl (lv_at hl 1 rfl) ?_
    refine wg_cvi (As := [.int x]) (rest := []) hx hb hml hown hts hK hP (hD _) hS hA rfl rfl rfl (c_M_isNode l D cJ cI h0 ad _ I x (by omega)) kc_M_75 ⟨rfl, rfl⟩ ⟨Nat.le_of_ble_eq_true rfl, Nat.le_of_ble_eq_true rfl⟩ rfl hl.1 rfl (Nat.le_of_ble_eq_true rfl) d_M_endings_14 ⟨Nat.zero_le _, Nat.zero_le _⟩ (fun r u14 tt H locs ht q14 hB _ _ hS => ?_)
    have hP : va_P D wg_cl (wg_WM cJ cI h0 ad I) H := by rw [← ht]; exact hB
    clear hB ht tt
    rcases q14 with ⟨rfl, hz14a, hz14b, j14, hj14, rfl⟩ | ⟨rfl, hj14⟩
    · skip
      refine lv_if_eq (tgt := 44) hx hb d_M_endings_17 (by decide) (fun h => absurd h (by decide +kernel)) (fun _ => ?_)
      refine lv_aload_n hx hb d_M_endings_20 rfl (lv_at hl 0 rfl) ?_
      refine lv_iload_n hx hb d_M_endings_21 rfl (lv_at hl 3 rfl) ?_
      refine lv_aload_n hx hb d_M_endings_22 rfl (lv_at hl 0 rfl) ?_
      refine wg_gM hx hb hts hown hK hP 7 (by decide) (v := .ref (ad 7)) kf_M_23 rfl d_M_endings_23 ?_
      refine lv_iload_n hx hb d_M_endings_26 rfl (lv_at hl 1 rfl) ?_
      refine wg_ild (f := I 7) (j := j14) hx hb hK hP 5 rfl (by omega) (by decide) d_M_endings_27 ?_
      have hB27 := hOW j14 (by omega)
      refine lv_aload_n hx hb d_M_endings_28 rfl (lv_at hl 0 rfl) ?_
      refine wg_gM hx hb hts hown hK hP 8 (by decide) (v := .ref (ad 8)) kf_M_26 rfl d_M_endings_29 ?_
      refine lv_iload_n hx hb d_M_endings_32 rfl (lv_at hl 1 rfl) ?_
      refine wg_ild (f := I 8) (j := j14) hx hb hK hP 6 rfl (by omega) (by decide) d_M_endings_33 ?_
      have hB33 := hOL j14 (by omega)
      refine wg_cvi (As := [.int (nI k), .int (nI (I 7 j14)), .int (nI (I 8 j14))]) (rest := []) hx hb hml hown hts hK hP (hD _) hS hA rfl rfl rfl (c_M_share l D cJ cI h0 ad _ I k (I 7 j14) (I 8 j14) (by omega) (by omega) (by omega) hI) kc_M_48 ⟨rfl, rfl⟩ ⟨Nat.le_of_ble_eq_true rfl, Nat.le_of_ble_eq_true rfl⟩ rfl hl.1 rfl (Nat.le_of_ble_eq_true rfl) d_M_endings_34 ⟨Nat.zero_le _, Nat.zero_le _⟩ (fun r u34 tt H locs ht q34 hB _ _ hS => ?_)
      have hP : va_P D wg_cl (wg_WM cJ cI h0 ad I) H := by rw [← ht]; exact hB
      clear hB ht tt
      rcases q34 with ⟨rfl, hs34⟩ | ⟨rfl, hs34⟩
      · skip
        refine lv_if_eq (tgt := 44) hx hb d_M_endings_37 (by decide) (fun h => absurd h (by decide +kernel)) (fun _ => ?_)
        refine lv_iload_n hx hb d_M_endings_40 rfl (lv_at hl 2 rfl) ?_
        refine lv_iconst (v := (nI 1)) hx hb d_M_endings_41 (by decide +kernel) ?_
        refine t_iadd (v := nI (cnt + 1)) hx hb d_M_endings_42 (nI_add _ _) ?_
        refine lv_istore_n (lv' := [(2, .int (nI (cnt + 1))), (0, .ref h0), (1, .int (nI j14)), (3, .int (nI k))]) hx hb d_M_endings_43 rfl hl (by decide) rfl (fun ls hl => ?_)
        refine lv_iinc (v := nI (k + 1)) (k := 3) (lv' := [(3, .int (nI (k + 1))), (2, .int (nI (cnt + 1))), (0, .ref h0), (1, .int (nI j14))]) hx hb d_M_endings_44 hl rfl (nI_1 _) (by decide) rfl (fun ls hl => ?_)
        refine lv_goto (tgt := 4) hx hb d_M_endings_47 (by decide) ?_
        exact ih4 (k + 1) (cnt + 1) 0 (fun _ _ => 0) _ _ _ ⟨(by omega), (by omega), hP, hS, lv_sub hl [2, 3, 1, 0] rfl⟩ (by omega)
      · skip
        refine lv_if_eq (tgt := 44) hx hb d_M_endings_37 (by decide) (fun _ => ?_) (fun h => absurd h (by decide +kernel))
        refine lv_iinc (v := nI (k + 1)) (k := 3) (lv' := [(3, .int (nI (k + 1))), (0, .ref h0), (1, .int (nI j14)), (2, .int (nI cnt))]) hx hb d_M_endings_44 hl rfl (nI_1 _) (by decide) rfl (fun ls hl => ?_)
        refine lv_goto (tgt := 4) hx hb d_M_endings_47 (by decide) ?_
        exact ih4 (k + 1) cnt 0 (fun _ _ => 0) _ _ _ ⟨(by omega), (by omega), hP, hS, lv_sub hl [1, 2, 3, 0] rfl⟩ (by omega)
    · skip
      refine lv_if_eq (tgt := 44) hx hb d_M_endings_17 (by decide) (fun _ => ?_) (fun h => absurd h (by decide +kernel))
      refine lv_iinc (v := nI (k + 1)) (k := 3) (lv' := [(3, .int (nI (k + 1))), (0, .ref h0), (1, .int x), (2, .int (nI cnt))]) hx hb d_M_endings_44 hl rfl (nI_1 _) (by decide) rfl (fun ls hl => ?_)
      refine lv_goto (tgt := 4) hx hb d_M_endings_47 (by decide) ?_
      exact ih4 (k + 1) cnt 0 (fun _ _ => 0) _ _ _ ⟨(by omega), (by omega), hP, hS, lv_sub hl [1, 2, 3, 0] rfl⟩ (by omega)
set_option maxHeartbeats 4000000 in
set_option maxRecDepth 100000 in
theorem c_M_between (l : Launch) (D : va_G) (cJ cI : ClassId) (h0 : Nat) (ad : Nat → Nat) (sz : Nat) (I : wg_S) (a : Nat) (b : Nat) (ha : a < 2 ^ 60) (hb60 : b < 2 ^ 60) : Met l y_M_between (wg_ws y_M_between b_M_between 10 (some .int)) ({ frames := 2, cells := 0, slots := 0, locals := 45 }) (va_Pc [.ref h0, .long (lN a), .long (lN b)] (wg_Pc D cJ cI (wg_WM cJ cI h0 ad I) sz)) (va_Qi (fun (r : Int32) (u : wg_S) => r = nI (wg_bt a b (wg_ln a) (wg_ln b)) ∧ (∀ j, ¬ j = 10 → u j = I j)) (fun (u : wg_S) t => va_P D wg_cl (wg_WM cJ cI h0 ad u) t.heap) (va_A (wg_WM cJ cI h0 ad I) sz)) 0 0 (va_A (wg_WM cJ cI h0 ad I) sz) := by
  refine wg_head (Wd := (fun I => wg_WM cJ cI h0 ad I)) (I := I) (fun A => va_Qi (fun (r : Int32) (u : wg_S) => r = nI (wg_bt a b (wg_ln a) (wg_ln b)) ∧ (∀ j, ¬ j = 10 → u j = I j)) (fun (u : wg_S) t => va_P D wg_cl (wg_WM cJ cI h0 ad u) t.heap) A) R_M (by decide) rfl (Nat.le_of_ble_eq_true rfl) (fun I J => wg_same_M I J) ?_
  intro p e s m below meth c A ls hx hb hr hlk hml hown hnm hts hA hK hD hP hS hl hsz
  clear hsz
  have hl : lv_has ls 10 [(0, .ref h0), (1, .long (lN a)), (3, .long (lN b))] := hl
  have hP : va_P D wg_cl (wg_WM cJ cI h0 ad I) s.heap := hP
  skip
  refine lv_lload_n hx hb d_M_between_0 rfl (lv_at hl 1 rfl) ?_
  refine wg_csi (As := [.long (lN a)]) (rest := []) hx hb hml hown hts hK hP hS hA (c_M_length l D cJ cI _ a (by omega)) kc_M_52 ⟨rfl, rfl⟩ ⟨Nat.le_of_ble_eq_true rfl, Nat.le_of_ble_eq_true rfl⟩ rfl hl.1 rfl (Nat.le_of_ble_eq_true rfl) d_M_between_1 ⟨Nat.zero_le _, Nat.zero_le _⟩ (fun r H locs q1 hP hS => ?_)
  obtain rfl := q1
  have hq1 := wg_ln_le a
  refine lv_istore (lv' := [(5, .int (nI (wg_ln a))), (0, .ref h0), (1, .long (lN a)), (3, .long (lN b))]) hx hb d_M_between_4 hl (by decide) rfl (fun ls hl => ?_)
  refine lv_lload_n hx hb d_M_between_6 rfl (lv_at hl 3 rfl) ?_
  refine wg_csi (As := [.long (lN b)]) (rest := []) hx hb hml hown hts hK hP hS hA (c_M_length l D cJ cI _ b (by omega)) kc_M_52 ⟨rfl, rfl⟩ ⟨Nat.le_of_ble_eq_true rfl, Nat.le_of_ble_eq_true rfl⟩ rfl hl.1 rfl (Nat.le_of_ble_eq_true rfl) d_M_between_7 ⟨Nat.zero_le _, Nat.zero_le _⟩ (fun r H locs q7 hP hS => ?_)
  obtain rfl := q7
  have hq7 := wg_ln_le b
  refine lv_istore (lv' := [(6, .int (nI (wg_ln b))), (5, .int (nI (wg_ln a))), (0, .ref h0), (1, .long (lN a)), (3, .long (lN b))]) hx hb d_M_between_10 hl (by decide) rfl (fun ls hl => ?_)
  refine lv_iconst (v := (nI 0)) hx hb d_M_between_12 (by decide +kernel) ?_
  refine lv_istore (lv' := [(7, .int (nI 0)), (6, .int (nI (wg_ln b))), (5, .int (nI (wg_ln a))), (0, .ref h0), (1, .long (lN a)), (3, .long (lN b))]) hx hb d_M_between_13 hl (by decide) rfl (fun ls hl => ?_)
  refine wg_loop (fun i _ _ J H locs ls => (i ≤ wg_ln a + 1) ∧ (∀ j, ¬ j = 10 → J j = I j) ∧ (∀ x y, x < i → y ≤ wg_ln b → J 10 (13 * x + y) = wg_bt a b x y) ∧ va_P D wg_cl (wg_WM cJ cI h0 ad J) H ∧ va_S A s.heap H locs ∧ lv_has ls 10 [(0, .ref h0), (1, .long (lN a)), (3, .long (lN b)), (5, .int (nI (wg_ln a))), (6, .int (nI (wg_ln b))), (7, .int (nI i))]) (fun i _ _ J => 13 - i) (fun i _z0 _z1 J H locs ls hI ih15 => ?_) 0 0 0 I _ _ _ ⟨(by omega), (fun _ _ => rfl), (fun x y h => by omega), hP, hS, lv_sub hl [3, 4, 5, 2, 1, 0] rfl⟩
  obtain ⟨hi, hJo, hfl, hP, hS, hl⟩ := hI
  refine lv_iload hx hb d_M_between_15 (lv_at hl 5 rfl) ?_
  refine lv_iload hx hb d_M_between_17 (lv_at hl 3 rfl) ?_
  refine lv_icmp_gt (tgt := 205) hx hb d_M_between_19 (by decide) (fun h19 => ?_) (fun h19 => ?_)
  · rw [nI_ltI (by omega) (by omega)] at h19
    refine lv_aload_n hx hb d_M_between_205 rfl (lv_at hl 0 rfl) ?_
    refine wg_gM hx hb hts hown hK hP 10 (by decide) (v := .ref (ad 10)) kf_M_29 rfl d_M_between_206 ?_
    refine lv_bipush (v := (nI 13)) hx hb d_M_between_209 (by decide +kernel) ?_
    refine lv_iload hx hb d_M_between_211 (lv_at hl 3 rfl) ?_
    refine t_imul (v := nI (13 * (wg_ln a))) hx hb d_M_between_213 (pk_mul _ _) ?_
    refine lv_iload hx hb d_M_between_214 (lv_at hl 4 rfl) ?_
    refine t_iadd (v := nI ((13 * (wg_ln a)) + (wg_ln b))) hx hb d_M_between_216 (nI_add _ _) ?_
    refine wg_ild (f := J 10) (j := ((13 * (wg_ln a)) + (wg_ln b))) hx hb hK hP 7 rfl (by omega) (by decide) d_M_between_217 ?_
    exact W.iret (v := (nI (J 10 ((13 * (wg_ln a)) + (wg_ln b))))) hx hb hr (fun tt hth hW => ⟨⟨_, J, rfl, ⟨by rw [hfl _ _ (by omega) (by omega)], hJo⟩, wg_h hth hP⟩, hS.F hth⟩) hS.2.2 d_M_between_218
  · rw [nI_ltI (by omega) (by omega)] at h19
    refine lv_iconst (v := (nI 0)) hx hb d_M_between_22 (by decide +kernel) ?_
    refine lv_istore (lv' := [(8, .int (nI 0)), (0, .ref h0), (1, .long (lN a)), (3, .long (lN b)), (5, .int (nI (wg_ln a))), (6, .int (nI (wg_ln b))), (7, .int (nI i))]) hx hb d_M_between_23 hl (by decide) rfl (fun ls hl => ?_)
    refine wg_loop (fun j _ _ K H locs ls => (j ≤ wg_ln b + 1) ∧ (∀ j, ¬ j = 10 → K j = I j) ∧ (∀ x y, x < i → y ≤ wg_ln b → K 10 (13 * x + y) = wg_bt a b x y) ∧ (∀ y, y < j → K 10 (13 * i + y) = wg_bt a b i y) ∧ va_P D wg_cl (wg_WM cJ cI h0 ad K) H ∧ va_S A s.heap H locs ∧ lv_has ls 10 [(0, .ref h0), (1, .long (lN a)), (3, .long (lN b)), (5, .int (nI (wg_ln a))), (6, .int (nI (wg_ln b))), (7, .int (nI i)), (8, .int (nI j))]) (fun j _ _ K => 13 - j) (fun j _z0 _z1 K H locs ls hI ih25 => ?_) 0 0 0 J _ _ _ ⟨(by omega), hJo, hfl, (fun y h => by omega), hP, hS, lv_sub hl [1, 2, 3, 4, 5, 6, 0] rfl⟩
    obtain ⟨hj, hKo, hf1, hf2, hP, hS, hl⟩ := hI
    refine lv_iload hx hb d_M_between_25 (lv_at hl 6 rfl) ?_
    refine lv_iload hx hb d_M_between_27 (lv_at hl 4 rfl) ?_
    refine lv_icmp_gt (tgt := 199) hx hb d_M_between_29 (by decide) (fun h29 => ?_) (fun h29 => ?_)
    · rw [nI_ltI (by omega) (by omega)] at h29
      refine lv_iinc (v := nI (i + 1)) (k := 5) (lv' := [(7, .int (nI (i + 1))), (0, .ref h0), (1, .long (lN a)), (3, .long (lN b)), (5, .int (nI (wg_ln a))), (6, .int (nI (wg_ln b))), (8, .int (nI j))]) hx hb d_M_between_199 hl rfl (nI_1 _) (by decide) rfl (fun ls hl => ?_)
      refine lv_goto (tgt := 15) hx hb d_M_between_202 (by decide) ?_
      exact ih15 (i + 1) 0 0 K _ _ _ ⟨(by omega), hKo, (fun x y h1 h2 => by rcases Nat.lt_succ_iff_lt_or_eq.mp h1 with h | rfl; exact hf1 x y h h2; exact hf2 y (by omega)), hP, hS, lv_sub hl [1, 2, 3, 4, 5, 0] rfl⟩ (by omega)
    · rw [nI_ltI (by omega) (by omega)] at h29
      refine lv_iload hx hb d_M_between_32 (lv_at hl 5 rfl) ?_
      refine lv_iload hx hb d_M_between_34 (lv_at hl 6 rfl) ?_
      refine t_iadd (v := nI (i + j)) hx hb d_M_between_36 (nI_add _ _) ?_
      refine lv_istore (lv' := [(9, .int (nI (i + j))), (0, .ref h0), (1, .long (lN a)), (3, .long (lN b)), (5, .int (nI (wg_ln a))), (6, .int (nI (wg_ln b))), (7, .int (nI i)), (8, .int (nI j))]) hx hb d_M_between_37 hl (by decide) rfl (fun ls hl => ?_)
      refine lv_iload hx hb d_M_between_39 (lv_at hl 6 rfl) ?_
      refine lv_if_le (tgt := 178) hx hb d_M_between_41 (by decide) (fun h41 => ?_) (fun h41 => ?_)
      · rw [wg_le0 (by omega)] at h41
        have hbest : i + j = wg_bt a b i j := by first | (rw [h41, wg_bt_0]; omega) | (rw [h46, wg_bt_i]; omega) | (rw [wg_bt_p (by omega) (by omega), ← e1, ← e2, ← e3]; first | (rw [if_pos h83]; omega) | (rw [if_neg h83]; omega))
        refine lv_aload_n hx hb d_M_between_178 rfl (lv_at hl 1 rfl) ?_
        refine wg_gM hx hb hts hown hK hP 10 (by decide) (v := .ref (ad 10)) kf_M_29 rfl d_M_between_179 ?_
        refine lv_bipush (v := (nI 13)) hx hb d_M_between_182 (by decide +kernel) ?_
        refine lv_iload hx hb d_M_between_184 (lv_at hl 6 rfl) ?_
        refine t_imul (v := nI (13 * i)) hx hb d_M_between_186 (pk_mul _ _) ?_
        refine lv_iload hx hb d_M_between_187 (lv_at hl 7 rfl) ?_
        refine t_iadd (v := nI ((13 * i) + j)) hx hb d_M_between_189 (nI_add _ _) ?_
        refine lv_iload hx hb d_M_between_190 (lv_at hl 0 rfl) ?_
        refine wg_sM10 (j := ((13 * i) + j)) (x := (i + j)) hx hb hK hP hD hS (by omega) d_M_between_192 (fun H locs hP hS => ?_)
        refine lv_iinc (v := nI (j + 1)) (k := 7) (lv' := [(8, .int (nI (j + 1))), (9, .int (nI (i + j))), (0, .ref h0), (1, .long (lN a)), (3, .long (lN b)), (5, .int (nI (wg_ln a))), (6, .int (nI (wg_ln b))), (7, .int (nI i))]) hx hb d_M_between_193 hl rfl (nI_1 _) (by decide) rfl (fun ls hl => ?_)
        refine lv_goto (tgt := 25) hx hb d_M_between_196 (by decide) ?_
        exact ih25 (j + 1) 0 0 (wg_st K 10 ((13 * i) + j) (i + j)) _ _ _ ⟨(by omega), (fun j h => (wg_st_o _ _ _ _ h).trans (hKo j h)), (fun x y h1 h2 => (wg_st_n _ _ _ _ (by omega)).trans (hf1 x y h1 h2)), (fun y h => by rcases Nat.lt_succ_iff_lt_or_eq.mp h with h | rfl; exact (wg_st_n _ _ _ _ (by omega)).trans (hf2 y h); exact (wg_st_s _ _ _ _).trans hbest), hP, hS, lv_sub hl [2, 3, 4, 5, 6, 7, 0] rfl⟩ (by omega)
      · rw [wg_le0 (by omega)] at h41
        refine lv_iload hx hb d_M_between_44 (lv_at hl 7 rfl) ?_
        refine lv_if_le (tgt := 178) hx hb d_M_between_46 (by decide) (fun h46 => ?_) (fun h46 => ?_)
        · rw [wg_le0 (by omega)] at h46
          have hbest : i + j = wg_bt a b i j := by first | (rw [h41, wg_bt_0]; omega) | (rw [h46, wg_bt_i]; omega) | (rw [wg_bt_p (by omega) (by omega), ← e1, ← e2, ← e3]; first | (rw [if_pos h83]; omega) | (rw [if_neg h83]; omega))
          refine lv_aload_n hx hb d_M_between_178 rfl (lv_at hl 1 rfl) ?_
          refine wg_gM hx hb hts hown hK hP 10 (by decide) (v := .ref (ad 10)) kf_M_29 rfl d_M_between_179 ?_
          refine lv_bipush (v := (nI 13)) hx hb d_M_between_182 (by decide +kernel) ?_
          refine lv_iload hx hb d_M_between_184 (lv_at hl 6 rfl) ?_
          refine t_imul (v := nI (13 * i)) hx hb d_M_between_186 (pk_mul _ _) ?_
          refine lv_iload hx hb d_M_between_187 (lv_at hl 7 rfl) ?_
          refine t_iadd (v := nI ((13 * i) + j)) hx hb d_M_between_189 (nI_add _ _) ?_
          refine lv_iload hx hb d_M_between_190 (lv_at hl 0 rfl) ?_
          refine wg_sM10 (j := ((13 * i) + j)) (x := (i + j)) hx hb hK hP hD hS (by omega) d_M_between_192 (fun H locs hP hS => ?_)
          refine lv_iinc (v := nI (j + 1)) (k := 7) (lv' := [(8, .int (nI (j + 1))), (9, .int (nI (i + j))), (0, .ref h0), (1, .long (lN a)), (3, .long (lN b)), (5, .int (nI (wg_ln a))), (6, .int (nI (wg_ln b))), (7, .int (nI i))]) hx hb d_M_between_193 hl rfl (nI_1 _) (by decide) rfl (fun ls hl => ?_)
          refine lv_goto (tgt := 25) hx hb d_M_between_196 (by decide) ?_
          exact ih25 (j + 1) 0 0 (wg_st K 10 ((13 * i) + j) (i + j)) _ _ _ ⟨(by omega), (fun j h => (wg_st_o _ _ _ _ h).trans (hKo j h)), (fun x y h1 h2 => (wg_st_n _ _ _ _ (by omega)).trans (hf1 x y h1 h2)), (fun y h => by rcases Nat.lt_succ_iff_lt_or_eq.mp h with h | rfl; exact (wg_st_n _ _ _ _ (by omega)).trans (hf2 y h); exact (wg_st_s _ _ _ _).trans hbest), hP, hS, lv_sub hl [2, 3, 4, 5, 6, 7, 0] rfl⟩ (by omega)
        · rw [wg_le0 (by omega)] at h46
          have e1 : K 10 (13 * i - 13 + j - 1) = wg_bt a b (i - 1) (j - 1) := by rw [show 13 * i - 13 + j - 1 = 13 * (i - 1) + (j - 1) by omega]; exact hf1 _ _ (by omega) (by omega)
          have e2 : K 10 (13 * i - 13 + j) = wg_bt a b (i - 1) j := by rw [show 13 * i - 13 + j = 13 * (i - 1) + j by omega]; exact hf1 _ _ (by omega) (by omega)
          have e3 : K 10 (13 * i + j - 1) = wg_bt a b i (j - 1) := by rw [show 13 * i + j - 1 = 13 * i + (j - 1) by omega]; exact hf2 _ (by omega)
          have l1 := wg_bt_le a b (i - 1) (j - 1)
          have l2 := wg_bt_le a b (i - 1) j
          have l3 := wg_bt_le a b i (j - 1)
          refine lv_aload_n hx hb d_M_between_49 rfl (lv_at hl 1 rfl) ?_
          refine wg_gM hx hb hts hown hK hP 10 (by decide) (v := .ref (ad 10)) kf_M_29 rfl d_M_between_50 ?_
          refine lv_bipush (v := (nI 13)) hx hb d_M_between_53 (by decide +kernel) ?_
          refine lv_iload hx hb d_M_between_55 (lv_at hl 6 rfl) ?_
          refine t_imul (v := nI (13 * i)) hx hb d_M_between_57 (pk_mul _ _) ?_
          refine lv_bipush (v := (nI 13)) hx hb d_M_between_58 (by decide +kernel) ?_
          refine t_isub (v := nI ((13 * i) - 13)) hx hb d_M_between_60 (pk_sub (by omega)) ?_
          refine lv_iload hx hb d_M_between_61 (lv_at hl 7 rfl) ?_
          refine t_iadd (v := nI (((13 * i) - 13) + j)) hx hb d_M_between_63 (nI_add _ _) ?_
          refine lv_iconst (v := (nI 1)) hx hb d_M_between_64 (by decide +kernel) ?_
          refine t_isub (v := nI ((((13 * i) - 13) + j) - 1)) hx hb d_M_between_65 (pk_sub (by omega)) ?_
          refine wg_ild (f := K 10) (j := ((((13 * i) - 13) + j) - 1)) hx hb hK hP 7 rfl (by omega) (by decide) d_M_between_66 ?_
          refine lv_lload_n hx hb d_M_between_67 rfl (lv_at hl 2 rfl) ?_
          refine lv_iload hx hb d_M_between_68 (lv_at hl 6 rfl) ?_
          refine lv_iconst (v := (nI 1)) hx hb d_M_between_70 (by decide +kernel) ?_
          refine t_isub (v := nI (i - 1)) hx hb d_M_between_71 (pk_sub (by omega)) ?_
          refine wg_csi (As := [.long (lN a), .int (nI (i - 1))]) (rest := [.int (nI (K 10 ((((13 * i) - 13) + j) - 1)))]) hx hb hml hown hts hK hP hS hA (c_M_letter l D cJ cI _ a (i - 1) (by omega) (by omega)) kc_M_36 ⟨rfl, rfl⟩ ⟨Nat.le_of_ble_eq_true rfl, Nat.le_of_ble_eq_true rfl⟩ rfl hl.1 rfl (Nat.le_of_ble_eq_true rfl) d_M_between_72 ⟨Nat.zero_le _, Nat.zero_le _⟩ (fun r H locs q72 hP hS => ?_)
          obtain rfl := q72
          have hq72 := wg_lt_le a (i - 1)
          refine lv_lload_n hx hb d_M_between_75 rfl (lv_at hl 3 rfl) ?_
          refine lv_iload hx hb d_M_between_76 (lv_at hl 7 rfl) ?_
          refine lv_iconst (v := (nI 1)) hx hb d_M_between_78 (by decide +kernel) ?_
          refine t_isub (v := nI (j - 1)) hx hb d_M_between_79 (pk_sub (by omega)) ?_
          refine wg_csi (As := [.long (lN b), .int (nI (j - 1))]) (rest := [.int (nI (wg_lt a (i - 1))), .int (nI (K 10 ((((13 * i) - 13) + j) - 1)))]) hx hb hml hown hts hK hP hS hA (c_M_letter l D cJ cI _ b (j - 1) (by omega) (by omega)) kc_M_36 ⟨rfl, rfl⟩ ⟨Nat.le_of_ble_eq_true rfl, Nat.le_of_ble_eq_true rfl⟩ rfl hl.1 rfl (Nat.le_of_ble_eq_true rfl) d_M_between_80 ⟨Nat.zero_le _, Nat.zero_le _⟩ (fun r H locs q80 hP hS => ?_)
          obtain rfl := q80
          have hq80 := wg_lt_le b (j - 1)
          refine lv_icmp_ne (tgt := 90) hx hb d_M_between_83 (by decide) (fun h83 => ?_) (fun h83 => ?_)
          · rw [nI_eq (by omega) (by omega)] at h83
            refine lv_iconst (v := (nI 1)) hx hb d_M_between_90 (by decide +kernel) ?_
            refine t_iadd (v := nI ((K 10 ((((13 * i) - 13) + j) - 1)) + 1)) hx hb d_M_between_91 (nI_add _ _) ?_
            refine lv_istore (lv' := [(9, .int (nI ((K 10 ((((13 * i) - 13) + j) - 1)) + 1))), (0, .ref h0), (1, .long (lN a)), (3, .long (lN b)), (5, .int (nI (wg_ln a))), (6, .int (nI (wg_ln b))), (7, .int (nI i)), (8, .int (nI j))]) hx hb d_M_between_92 hl (by decide) rfl (fun ls hl => ?_)
            refine lv_aload_n hx hb d_M_between_94 rfl (lv_at hl 1 rfl) ?_
            refine wg_gM hx hb hts hown hK hP 10 (by decide) (v := .ref (ad 10)) kf_M_29 rfl d_M_between_95 ?_
            refine lv_bipush (v := (nI 13)) hx hb d_M_between_98 (by decide +kernel) ?_
            refine lv_iload hx hb d_M_between_100 (lv_at hl 6 rfl) ?_
            refine t_imul (v := nI (13 * i)) hx hb d_M_between_102 (pk_mul _ _) ?_
            refine lv_bipush (v := (nI 13)) hx hb d_M_between_103 (by decide +kernel) ?_
            refine t_isub (v := nI ((13 * i) - 13)) hx hb d_M_between_105 (pk_sub (by omega)) ?_
            refine lv_iload hx hb d_M_between_106 (lv_at hl 7 rfl) ?_
            refine t_iadd (v := nI (((13 * i) - 13) + j)) hx hb d_M_between_108 (nI_add _ _) ?_
            refine wg_ild (f := K 10) (j := (((13 * i) - 13) + j)) hx hb hK hP 7 rfl (by omega) (by decide) d_M_between_109 ?_
            refine lv_iconst (v := (nI 1)) hx hb d_M_between_110 (by decide +kernel) ?_
            refine t_iadd (v := nI ((K 10 (((13 * i) - 13) + j)) + 1)) hx hb d_M_between_111 (nI_add _ _) ?_
            refine lv_iload hx hb d_M_between_112 (lv_at hl 0 rfl) ?_
            refine lv_icmp_ge (tgt := 137) hx hb d_M_between_114 (by decide) (fun h114 => ?_) (fun h114 => ?_)
            · rw [nI_leI (by omega) (by omega)] at h114
              refine lv_aload_n hx hb d_M_between_137 rfl (lv_at hl 1 rfl) ?_
              refine wg_gM hx hb hts hown hK hP 10 (by decide) (v := .ref (ad 10)) kf_M_29 rfl d_M_between_138 ?_
              refine lv_bipush (v := (nI 13)) hx hb d_M_between_141 (by decide +kernel) ?_
              refine lv_iload hx hb d_M_between_143 (lv_at hl 6 rfl) ?_
              refine t_imul (v := nI (13 * i)) hx hb d_M_between_145 (pk_mul _ _) ?_
              refine lv_iload hx hb d_M_between_146 (lv_at hl 7 rfl) ?_
              refine t_iadd (v := nI ((13 * i) + j)) hx hb d_M_between_148 (nI_add _ _) ?_
              refine lv_iconst (v := (nI 1)) hx hb d_M_between_149 (by decide +kernel) ?_
              refine t_isub (v := nI (((13 * i) + j) - 1)) hx hb d_M_between_150 (pk_sub (by omega)) ?_
              refine wg_ild (f := K 10) (j := (((13 * i) + j) - 1)) hx hb hK hP 7 rfl (by omega) (by decide) d_M_between_151 ?_
              refine lv_iconst (v := (nI 1)) hx hb d_M_between_152 (by decide +kernel) ?_
              refine t_iadd (v := nI ((K 10 (((13 * i) + j) - 1)) + 1)) hx hb d_M_between_153 (nI_add _ _) ?_
              refine lv_iload hx hb d_M_between_154 (lv_at hl 0 rfl) ?_
              refine lv_icmp_ge (tgt := 178) hx hb d_M_between_156 (by decide) (fun h156 => ?_) (fun h156 => ?_)
              · rw [nI_leI (by omega) (by omega)] at h156
                have hbest : (K 10 ((((13 * i) - 13) + j) - 1)) + 1 = wg_bt a b i j := by first | (rw [h41, wg_bt_0]; omega) | (rw [h46, wg_bt_i]; omega) | (rw [wg_bt_p (by omega) (by omega), ← e1, ← e2, ← e3]; first | (rw [if_pos h83]; omega) | (rw [if_neg h83]; omega))
                refine lv_aload_n hx hb d_M_between_178 rfl (lv_at hl 1 rfl) ?_
                refine wg_gM hx hb hts hown hK hP 10 (by decide) (v := .ref (ad 10)) kf_M_29 rfl d_M_between_179 ?_
                refine lv_bipush (v := (nI 13)) hx hb d_M_between_182 (by decide +kernel) ?_
                refine lv_iload hx hb d_M_between_184 (lv_at hl 6 rfl) ?_
                refine t_imul (v := nI (13 * i)) hx hb d_M_between_186 (pk_mul _ _) ?_
                refine lv_iload hx hb d_M_between_187 (lv_at hl 7 rfl) ?_
                refine t_iadd (v := nI ((13 * i) + j)) hx hb d_M_between_189 (nI_add _ _) ?_
                refine lv_iload hx hb d_M_between_190 (lv_at hl 0 rfl) ?_
                refine wg_sM10 (j := ((13 * i) + j)) (x := ((K 10 ((((13 * i) - 13) + j) - 1)) + 1)) hx hb hK hP hD hS (by omega) d_M_between_192 (fun H locs hP hS => ?_)
                refine lv_iinc (v := nI (j + 1)) (k := 7) (lv' := [(8, .int (nI (j + 1))), (9, .int (nI ((K 10 ((((13 * i) - 13) + j) - 1)) + 1))), (0, .ref h0), (1, .long (lN a)), (3, .long (lN b)), (5, .int (nI (wg_ln a))), (6, .int (nI (wg_ln b))), (7, .int (nI i))]) hx hb d_M_between_193 hl rfl (nI_1 _) (by decide) rfl (fun ls hl => ?_)
                refine lv_goto (tgt := 25) hx hb d_M_between_196 (by decide) ?_
                exact ih25 (j + 1) 0 0 (wg_st K 10 ((13 * i) + j) ((K 10 ((((13 * i) - 13) + j) - 1)) + 1)) _ _ _ ⟨(by omega), (fun j h => (wg_st_o _ _ _ _ h).trans (hKo j h)), (fun x y h1 h2 => (wg_st_n _ _ _ _ (by omega)).trans (hf1 x y h1 h2)), (fun y h => by rcases Nat.lt_succ_iff_lt_or_eq.mp h with h | rfl; exact (wg_st_n _ _ _ _ (by omega)).trans (hf2 y h); exact (wg_st_s _ _ _ _).trans hbest), hP, hS, lv_sub hl [2, 3, 4, 5, 6, 7, 0] rfl⟩ (by omega)
              · rw [nI_leI (by omega) (by omega)] at h156
                refine lv_aload_n hx hb d_M_between_159 rfl (lv_at hl 1 rfl) ?_
                refine wg_gM hx hb hts hown hK hP 10 (by decide) (v := .ref (ad 10)) kf_M_29 rfl d_M_between_160 ?_
                refine lv_bipush (v := (nI 13)) hx hb d_M_between_163 (by decide +kernel) ?_
                refine lv_iload hx hb d_M_between_165 (lv_at hl 6 rfl) ?_
                refine t_imul (v := nI (13 * i)) hx hb d_M_between_167 (pk_mul _ _) ?_
                refine lv_iload hx hb d_M_between_168 (lv_at hl 7 rfl) ?_
                refine t_iadd (v := nI ((13 * i) + j)) hx hb d_M_between_170 (nI_add _ _) ?_
                refine lv_iconst (v := (nI 1)) hx hb d_M_between_171 (by decide +kernel) ?_
                refine t_isub (v := nI (((13 * i) + j) - 1)) hx hb d_M_between_172 (pk_sub (by omega)) ?_
                refine wg_ild (f := K 10) (j := (((13 * i) + j) - 1)) hx hb hK hP 7 rfl (by omega) (by decide) d_M_between_173 ?_
                refine lv_iconst (v := (nI 1)) hx hb d_M_between_174 (by decide +kernel) ?_
                refine t_iadd (v := nI ((K 10 (((13 * i) + j) - 1)) + 1)) hx hb d_M_between_175 (nI_add _ _) ?_
                refine lv_istore (lv' := [(9, .int (nI ((K 10 (((13 * i) + j) - 1)) + 1))), (0, .ref h0), (1, .long (lN a)), (3, .long (lN b)), (5, .int (nI (wg_ln a))), (6, .int (nI (wg_ln b))), (7, .int (nI i)), (8, .int (nI j))]) hx hb d_M_between_176 hl (by decide) rfl (fun ls hl => ?_)
                have hbest : (K 10 (((13 * i) + j) - 1)) + 1 = wg_bt a b i j := by first | (rw [h41, wg_bt_0]; omega) | (rw [h46, wg_bt_i]; omega) | (rw [wg_bt_p (by omega) (by omega), ← e1, ← e2, ← e3]; first | (rw [if_pos h83]; omega) | (rw [if_neg h83]; omega))
                refine lv_aload_n hx hb d_M_between_178 rfl (lv_at hl 1 rfl) ?_
                refine wg_gM hx hb hts hown hK hP 10 (by decide) (v := .ref (ad 10)) kf_M_29 rfl d_M_between_179 ?_
                refine lv_bipush (v := (nI 13)) hx hb d_M_between_182 (by decide +kernel) ?_
                refine lv_iload hx hb d_M_between_184 (lv_at hl 6 rfl) ?_
                refine t_imul (v := nI (13 * i)) hx hb d_M_between_186 (pk_mul _ _) ?_
                refine lv_iload hx hb d_M_between_187 (lv_at hl 7 rfl) ?_
                refine t_iadd (v := nI ((13 * i) + j)) hx hb d_M_between_189 (nI_add _ _) ?_
                refine lv_iload hx hb d_M_between_190 (lv_at hl 0 rfl) ?_
                refine wg_sM10 (j := ((13 * i) + j)) (x := ((K 10 (((13 * i) + j) - 1)) + 1)) hx hb hK hP hD hS (by omega) d_M_between_192 (fun H locs hP hS => ?_)
                refine lv_iinc (v := nI (j + 1)) (k := 7) (lv' := [(8, .int (nI (j + 1))), (9, .int (nI ((K 10 (((13 * i) + j) - 1)) + 1))), (0, .ref h0), (1, .long (lN a)), (3, .long (lN b)), (5, .int (nI (wg_ln a))), (6, .int (nI (wg_ln b))), (7, .int (nI i))]) hx hb d_M_between_193 hl rfl (nI_1 _) (by decide) rfl (fun ls hl => ?_)
                refine lv_goto (tgt := 25) hx hb d_M_between_196 (by decide) ?_
                exact ih25 (j + 1) 0 0 (wg_st K 10 ((13 * i) + j) ((K 10 (((13 * i) + j) - 1)) + 1)) _ _ _ ⟨(by omega), (fun j h => (wg_st_o _ _ _ _ h).trans (hKo j h)), (fun x y h1 h2 => (wg_st_n _ _ _ _ (by omega)).trans (hf1 x y h1 h2)), (fun y h => by rcases Nat.lt_succ_iff_lt_or_eq.mp h with h | rfl; exact (wg_st_n _ _ _ _ (by omega)).trans (hf2 y h); exact (wg_st_s _ _ _ _).trans hbest), hP, hS, lv_sub hl [2, 3, 4, 5, 6, 7, 0] rfl⟩ (by omega)
            · rw [nI_leI (by omega) (by omega)] at h114
              refine lv_aload_n hx hb d_M_between_117 rfl (lv_at hl 1 rfl) ?_
              refine wg_gM hx hb hts hown hK hP 10 (by decide) (v := .ref (ad 10)) kf_M_29 rfl d_M_between_118 ?_
              refine lv_bipush (v := (nI 13)) hx hb d_M_between_121 (by decide +kernel) ?_
              refine lv_iload hx hb d_M_between_123 (lv_at hl 6 rfl) ?_
              refine t_imul (v := nI (13 * i)) hx hb d_M_between_125 (pk_mul _ _) ?_
              refine lv_bipush (v := (nI 13)) hx hb d_M_between_126 (by decide +kernel) ?_
              refine t_isub (v := nI ((13 * i) - 13)) hx hb d_M_between_128 (pk_sub (by omega)) ?_
              refine lv_iload hx hb d_M_between_129 (lv_at hl 7 rfl) ?_
              refine t_iadd (v := nI (((13 * i) - 13) + j)) hx hb d_M_between_131 (nI_add _ _) ?_
              refine wg_ild (f := K 10) (j := (((13 * i) - 13) + j)) hx hb hK hP 7 rfl (by omega) (by decide) d_M_between_132 ?_
              refine lv_iconst (v := (nI 1)) hx hb d_M_between_133 (by decide +kernel) ?_
              refine t_iadd (v := nI ((K 10 (((13 * i) - 13) + j)) + 1)) hx hb d_M_between_134 (nI_add _ _) ?_
              refine lv_istore (lv' := [(9, .int (nI ((K 10 (((13 * i) - 13) + j)) + 1))), (0, .ref h0), (1, .long (lN a)), (3, .long (lN b)), (5, .int (nI (wg_ln a))), (6, .int (nI (wg_ln b))), (7, .int (nI i)), (8, .int (nI j))]) hx hb d_M_between_135 hl (by decide) rfl (fun ls hl => ?_)
              refine lv_aload_n hx hb d_M_between_137 rfl (lv_at hl 1 rfl) ?_
              refine wg_gM hx hb hts hown hK hP 10 (by decide) (v := .ref (ad 10)) kf_M_29 rfl d_M_between_138 ?_
              refine lv_bipush (v := (nI 13)) hx hb d_M_between_141 (by decide +kernel) ?_
              refine lv_iload hx hb d_M_between_143 (lv_at hl 6 rfl) ?_
              refine t_imul (v := nI (13 * i)) hx hb d_M_between_145 (pk_mul _ _) ?_
              refine lv_iload hx hb d_M_between_146 (lv_at hl 7 rfl) ?_
              refine t_iadd (v := nI ((13 * i) + j)) hx hb d_M_between_148 (nI_add _ _) ?_
              refine lv_iconst (v := (nI 1)) hx hb d_M_between_149 (by decide +kernel) ?_
              refine t_isub (v := nI (((13 * i) + j) - 1)) hx hb d_M_between_150 (pk_sub (by omega)) ?_
              refine wg_ild (f := K 10) (j := (((13 * i) + j) - 1)) hx hb hK hP 7 rfl (by omega) (by decide) d_M_between_151 ?_
              refine lv_iconst (v := (nI 1)) hx hb d_M_between_152 (by decide +kernel) ?_
              refine t_iadd (v := nI ((K 10 (((13 * i) + j) - 1)) + 1)) hx hb d_M_between_153 (nI_add _ _) ?_
              refine lv_iload hx hb d_M_between_154 (lv_at hl 0 rfl) ?_
              refine lv_icmp_ge (tgt := 178) hx hb d_M_between_156 (by decide) (fun h156 => ?_) (fun h156 => ?_)
              · rw [nI_leI (by omega) (by omega)] at h156
                have hbest : (K 10 (((13 * i) - 13) + j)) + 1 = wg_bt a b i j := by first | (rw [h41, wg_bt_0]; omega) | (rw [h46, wg_bt_i]; omega) | (rw [wg_bt_p (by omega) (by omega), ← e1, ← e2, ← e3]; first | (rw [if_pos h83]; omega) | (rw [if_neg h83]; omega))
                refine lv_aload_n hx hb d_M_between_178 rfl (lv_at hl 1 rfl) ?_
                refine wg_gM hx hb hts hown hK hP 10 (by decide) (v := .ref (ad 10)) kf_M_29 rfl d_M_between_179 ?_
                refine lv_bipush (v := (nI 13)) hx hb d_M_between_182 (by decide +kernel) ?_
                refine lv_iload hx hb d_M_between_184 (lv_at hl 6 rfl) ?_
                refine t_imul (v := nI (13 * i)) hx hb d_M_between_186 (pk_mul _ _) ?_
                refine lv_iload hx hb d_M_between_187 (lv_at hl 7 rfl) ?_
                refine t_iadd (v := nI ((13 * i) + j)) hx hb d_M_between_189 (nI_add _ _) ?_
                refine lv_iload hx hb d_M_between_190 (lv_at hl 0 rfl) ?_
                refine wg_sM10 (j := ((13 * i) + j)) (x := ((K 10 (((13 * i) - 13) + j)) + 1)) hx hb hK hP hD hS (by omega) d_M_between_192 (fun H locs hP hS => ?_)
                refine lv_iinc (v := nI (j + 1)) (k := 7) (lv' := [(8, .int (nI (j + 1))), (9, .int (nI ((K 10 (((13 * i) - 13) + j)) + 1))), (0, .ref h0), (1, .long (lN a)), (3, .long (lN b)), (5, .int (nI (wg_ln a))), (6, .int (nI (wg_ln b))), (7, .int (nI i))]) hx hb d_M_between_193 hl rfl (nI_1 _) (by decide) rfl (fun ls hl => ?_)
                refine lv_goto (tgt := 25) hx hb d_M_between_196 (by decide) ?_
                exact ih25 (j + 1) 0 0 (wg_st K 10 ((13 * i) + j) ((K 10 (((13 * i) - 13) + j)) + 1)) _ _ _ ⟨(by omega), (fun j h => (wg_st_o _ _ _ _ h).trans (hKo j h)), (fun x y h1 h2 => (wg_st_n _ _ _ _ (by omega)).trans (hf1 x y h1 h2)), (fun y h => by rcases Nat.lt_succ_iff_lt_or_eq.mp h with h | rfl; exact (wg_st_n _ _ _ _ (by omega)).trans (hf2 y h); exact (wg_st_s _ _ _ _).trans hbest), hP, hS, lv_sub hl [2, 3, 4, 5, 6, 7, 0] rfl⟩ (by omega)
              · rw [nI_leI (by omega) (by omega)] at h156
                refine lv_aload_n hx hb d_M_between_159 rfl (lv_at hl 1 rfl) ?_
                refine wg_gM hx hb hts hown hK hP 10 (by decide) (v := .ref (ad 10)) kf_M_29 rfl d_M_between_160 ?_
                refine lv_bipush (v := (nI 13)) hx hb d_M_between_163 (by decide +kernel) ?_
                refine lv_iload hx hb d_M_between_165 (lv_at hl 6 rfl) ?_
                refine t_imul (v := nI (13 * i)) hx hb d_M_between_167 (pk_mul _ _) ?_
                refine lv_iload hx hb d_M_between_168 (lv_at hl 7 rfl) ?_
                refine t_iadd (v := nI ((13 * i) + j)) hx hb d_M_between_170 (nI_add _ _) ?_
                refine lv_iconst (v := (nI 1)) hx hb d_M_between_171 (by decide +kernel) ?_
                refine t_isub (v := nI (((13 * i) + j) - 1)) hx hb d_M_between_172 (pk_sub (by omega)) ?_
                refine wg_ild (f := K 10) (j := (((13 * i) + j) - 1)) hx hb hK hP 7 rfl (by omega) (by decide) d_M_between_173 ?_
                refine lv_iconst (v := (nI 1)) hx hb d_M_between_174 (by decide +kernel) ?_
                refine t_iadd (v := nI ((K 10 (((13 * i) + j) - 1)) + 1)) hx hb d_M_between_175 (nI_add _ _) ?_
                refine lv_istore (lv' := [(9, .int (nI ((K 10 (((13 * i) + j) - 1)) + 1))), (0, .ref h0), (1, .long (lN a)), (3, .long (lN b)), (5, .int (nI (wg_ln a))), (6, .int (nI (wg_ln b))), (7, .int (nI i)), (8, .int (nI j))]) hx hb d_M_between_176 hl (by decide) rfl (fun ls hl => ?_)
                have hbest : (K 10 (((13 * i) + j) - 1)) + 1 = wg_bt a b i j := by first | (rw [h41, wg_bt_0]; omega) | (rw [h46, wg_bt_i]; omega) | (rw [wg_bt_p (by omega) (by omega), ← e1, ← e2, ← e3]; first | (rw [if_pos h83]; omega) | (rw [if_neg h83]; omega))
                refine lv_aload_n hx hb d_M_between_178 rfl (lv_at hl 1 rfl) ?_
                refine wg_gM hx hb hts hown hK hP 10 (by decide) (v := .ref (ad 10)) kf_M_29 rfl d_M_between_179 ?_
                refine lv_bipush (v := (nI 13)) hx hb d_M_between_182 (by decide +kernel) ?_
                refine lv_iload hx hb d_M_between_184 (lv_at hl 6 rfl) ?_
                refine t_imul (v := nI (13 * i)) hx hb d_M_between_186 (pk_mul _ _) ?_
                refine lv_iload hx hb d_M_between_187 (lv_at hl 7 rfl) ?_
                refine t_iadd (v := nI ((13 * i) + j)) hx hb d_M_between_189 (nI_add _ _) ?_
                refine lv_iload hx hb d_M_between_190 (lv_at hl 0 rfl) ?_
                refine wg_sM10 (j := ((13 * i) + j)) (x := ((K 10 (((13 * i) + j) - 1)) + 1)) hx hb hK hP hD hS (by omega) d_M_between_192 (fun H locs hP hS => ?_)
                refine lv_iinc (v := nI (j + 1)) (k := 7) (lv' := [(8, .int (nI (j + 1))), (9, .int (nI ((K 10 (((13 * i) + j) - 1)) + 1))), (0, .ref h0), (1, .long (lN a)), (3, .long (lN b)), (5, .int (nI (wg_ln a))), (6, .int (nI (wg_ln b))), (7, .int (nI i))]) hx hb d_M_between_193 hl rfl (nI_1 _) (by decide) rfl (fun ls hl => ?_)
                refine lv_goto (tgt := 25) hx hb d_M_between_196 (by decide) ?_
                exact ih25 (j + 1) 0 0 (wg_st K 10 ((13 * i) + j) ((K 10 (((13 * i) + j) - 1)) + 1)) _ _ _ ⟨(by omega), (fun j h => (wg_st_o _ _ _ _ h).trans (hKo j h)), (fun x y h1 h2 => (wg_st_n _ _ _ _ (by omega)).trans (hf1 x y h1 h2)), (fun y h => by rcases Nat.lt_succ_iff_lt_or_eq.mp h with h | rfl; exact (wg_st_n _ _ _ _ (by omega)).trans (hf2 y h); exact (wg_st_s _ _ _ _).trans hbest), hP, hS, lv_sub hl [2, 3, 4, 5, 6, 7, 0] rfl⟩ (by omega)
          · rw [nI_eq (by omega) (by omega)] at h83
            refine lv_iconst (v := (nI 0)) hx hb d_M_between_86 (by decide +kernel) ?_
            refine lv_goto (tgt := 91) hx hb d_M_between_87 (by decide) ?_
            refine t_iadd (v := nI ((K 10 ((((13 * i) - 13) + j) - 1)) + 0)) hx hb d_M_between_91 (nI_add _ _) ?_
            refine lv_istore (lv' := [(9, .int (nI ((K 10 ((((13 * i) - 13) + j) - 1)) + 0))), (0, .ref h0), (1, .long (lN a)), (3, .long (lN b)), (5, .int (nI (wg_ln a))), (6, .int (nI (wg_ln b))), (7, .int (nI i)), (8, .int (nI j))]) hx hb d_M_between_92 hl (by decide) rfl (fun ls hl => ?_)
            refine lv_aload_n hx hb d_M_between_94 rfl (lv_at hl 1 rfl) ?_
            refine wg_gM hx hb hts hown hK hP 10 (by decide) (v := .ref (ad 10)) kf_M_29 rfl d_M_between_95 ?_
            refine lv_bipush (v := (nI 13)) hx hb d_M_between_98 (by decide +kernel) ?_
            refine lv_iload hx hb d_M_between_100 (lv_at hl 6 rfl) ?_
            refine t_imul (v := nI (13 * i)) hx hb d_M_between_102 (pk_mul _ _) ?_
            refine lv_bipush (v := (nI 13)) hx hb d_M_between_103 (by decide +kernel) ?_
            refine t_isub (v := nI ((13 * i) - 13)) hx hb d_M_between_105 (pk_sub (by omega)) ?_
            refine lv_iload hx hb d_M_between_106 (lv_at hl 7 rfl) ?_
            refine t_iadd (v := nI (((13 * i) - 13) + j)) hx hb d_M_between_108 (nI_add _ _) ?_
            refine wg_ild (f := K 10) (j := (((13 * i) - 13) + j)) hx hb hK hP 7 rfl (by omega) (by decide) d_M_between_109 ?_
            refine lv_iconst (v := (nI 1)) hx hb d_M_between_110 (by decide +kernel) ?_
            refine t_iadd (v := nI ((K 10 (((13 * i) - 13) + j)) + 1)) hx hb d_M_between_111 (nI_add _ _) ?_
            refine lv_iload hx hb d_M_between_112 (lv_at hl 0 rfl) ?_
            refine lv_icmp_ge (tgt := 137) hx hb d_M_between_114 (by decide) (fun h114 => ?_) (fun h114 => ?_)
            · rw [nI_leI (by omega) (by omega)] at h114
              refine lv_aload_n hx hb d_M_between_137 rfl (lv_at hl 1 rfl) ?_
              refine wg_gM hx hb hts hown hK hP 10 (by decide) (v := .ref (ad 10)) kf_M_29 rfl d_M_between_138 ?_
              refine lv_bipush (v := (nI 13)) hx hb d_M_between_141 (by decide +kernel) ?_
              refine lv_iload hx hb d_M_between_143 (lv_at hl 6 rfl) ?_
              refine t_imul (v := nI (13 * i)) hx hb d_M_between_145 (pk_mul _ _) ?_
              refine lv_iload hx hb d_M_between_146 (lv_at hl 7 rfl) ?_
              refine t_iadd (v := nI ((13 * i) + j)) hx hb d_M_between_148 (nI_add _ _) ?_
              refine lv_iconst (v := (nI 1)) hx hb d_M_between_149 (by decide +kernel) ?_
              refine t_isub (v := nI (((13 * i) + j) - 1)) hx hb d_M_between_150 (pk_sub (by omega)) ?_
              refine wg_ild (f := K 10) (j := (((13 * i) + j) - 1)) hx hb hK hP 7 rfl (by omega) (by decide) d_M_between_151 ?_
              refine lv_iconst (v := (nI 1)) hx hb d_M_between_152 (by decide +kernel) ?_
              refine t_iadd (v := nI ((K 10 (((13 * i) + j) - 1)) + 1)) hx hb d_M_between_153 (nI_add _ _) ?_
              refine lv_iload hx hb d_M_between_154 (lv_at hl 0 rfl) ?_
              refine lv_icmp_ge (tgt := 178) hx hb d_M_between_156 (by decide) (fun h156 => ?_) (fun h156 => ?_)
              · rw [nI_leI (by omega) (by omega)] at h156
                have hbest : (K 10 ((((13 * i) - 13) + j) - 1)) + 0 = wg_bt a b i j := by first | (rw [h41, wg_bt_0]; omega) | (rw [h46, wg_bt_i]; omega) | (rw [wg_bt_p (by omega) (by omega), ← e1, ← e2, ← e3]; first | (rw [if_pos h83]; omega) | (rw [if_neg h83]; omega))
                refine lv_aload_n hx hb d_M_between_178 rfl (lv_at hl 1 rfl) ?_
                refine wg_gM hx hb hts hown hK hP 10 (by decide) (v := .ref (ad 10)) kf_M_29 rfl d_M_between_179 ?_
                refine lv_bipush (v := (nI 13)) hx hb d_M_between_182 (by decide +kernel) ?_
                refine lv_iload hx hb d_M_between_184 (lv_at hl 6 rfl) ?_
                refine t_imul (v := nI (13 * i)) hx hb d_M_between_186 (pk_mul _ _) ?_
                refine lv_iload hx hb d_M_between_187 (lv_at hl 7 rfl) ?_
                refine t_iadd (v := nI ((13 * i) + j)) hx hb d_M_between_189 (nI_add _ _) ?_
                refine lv_iload hx hb d_M_between_190 (lv_at hl 0 rfl) ?_
                refine wg_sM10 (j := ((13 * i) + j)) (x := ((K 10 ((((13 * i) - 13) + j) - 1)) + 0)) hx hb hK hP hD hS (by omega) d_M_between_192 (fun H locs hP hS => ?_)
                refine lv_iinc (v := nI (j + 1)) (k := 7) (lv' := [(8, .int (nI (j + 1))), (9, .int (nI ((K 10 ((((13 * i) - 13) + j) - 1)) + 0))), (0, .ref h0), (1, .long (lN a)), (3, .long (lN b)), (5, .int (nI (wg_ln a))), (6, .int (nI (wg_ln b))), (7, .int (nI i))]) hx hb d_M_between_193 hl rfl (nI_1 _) (by decide) rfl (fun ls hl => ?_)
                refine lv_goto (tgt := 25) hx hb d_M_between_196 (by decide) ?_
                exact ih25 (j + 1) 0 0 (wg_st K 10 ((13 * i) + j) ((K 10 ((((13 * i) - 13) + j) - 1)) + 0)) _ _ _ ⟨(by omega), (fun j h => (wg_st_o _ _ _ _ h).trans (hKo j h)), (fun x y h1 h2 => (wg_st_n _ _ _ _ (by omega)).trans (hf1 x y h1 h2)), (fun y h => by rcases Nat.lt_succ_iff_lt_or_eq.mp h with h | rfl; exact (wg_st_n _ _ _ _ (by omega)).trans (hf2 y h); exact (wg_st_s _ _ _ _).trans hbest), hP, hS, lv_sub hl [2, 3, 4, 5, 6, 7, 0] rfl⟩ (by omega)
              · rw [nI_leI (by omega) (by omega)] at h156
                refine lv_aload_n hx hb d_M_between_159 rfl (lv_at hl 1 rfl) ?_
                refine wg_gM hx hb hts hown hK hP 10 (by decide) (v := .ref (ad 10)) kf_M_29 rfl d_M_between_160 ?_
                refine lv_bipush (v := (nI 13)) hx hb d_M_between_163 (by decide +kernel) ?_
                refine lv_iload hx hb d_M_between_165 (lv_at hl 6 rfl) ?_
                refine t_imul (v := nI (13 * i)) hx hb d_M_between_167 (pk_mul _ _) ?_
                refine lv_iload hx hb d_M_between_168 (lv_at hl 7 rfl) ?_
                refine t_iadd (v := nI ((13 * i) + j)) hx hb d_M_between_170 (nI_add _ _) ?_
                refine lv_iconst (v := (nI 1)) hx hb d_M_between_171 (by decide +kernel) ?_
                refine t_isub (v := nI (((13 * i) + j) - 1)) hx hb d_M_between_172 (pk_sub (by omega)) ?_
                refine wg_ild (f := K 10) (j := (((13 * i) + j) - 1)) hx hb hK hP 7 rfl (by omega) (by decide) d_M_between_173 ?_
                refine lv_iconst (v := (nI 1)) hx hb d_M_between_174 (by decide +kernel) ?_
                refine t_iadd (v := nI ((K 10 (((13 * i) + j) - 1)) + 1)) hx hb d_M_between_175 (nI_add _ _) ?_
                refine lv_istore (lv' := [(9, .int (nI ((K 10 (((13 * i) + j) - 1)) + 1))), (0, .ref h0), (1, .long (lN a)), (3, .long (lN b)), (5, .int (nI (wg_ln a))), (6, .int (nI (wg_ln b))), (7, .int (nI i)), (8, .int (nI j))]) hx hb d_M_between_176 hl (by decide) rfl (fun ls hl => ?_)
                have hbest : (K 10 (((13 * i) + j) - 1)) + 1 = wg_bt a b i j := by first | (rw [h41, wg_bt_0]; omega) | (rw [h46, wg_bt_i]; omega) | (rw [wg_bt_p (by omega) (by omega), ← e1, ← e2, ← e3]; first | (rw [if_pos h83]; omega) | (rw [if_neg h83]; omega))
                refine lv_aload_n hx hb d_M_between_178 rfl (lv_at hl 1 rfl) ?_
                refine wg_gM hx hb hts hown hK hP 10 (by decide) (v := .ref (ad 10)) kf_M_29 rfl d_M_between_179 ?_
                refine lv_bipush (v := (nI 13)) hx hb d_M_between_182 (by decide +kernel) ?_
                refine lv_iload hx hb d_M_between_184 (lv_at hl 6 rfl) ?_
                refine t_imul (v := nI (13 * i)) hx hb d_M_between_186 (pk_mul _ _) ?_
                refine lv_iload hx hb d_M_between_187 (lv_at hl 7 rfl) ?_
                refine t_iadd (v := nI ((13 * i) + j)) hx hb d_M_between_189 (nI_add _ _) ?_
                refine lv_iload hx hb d_M_between_190 (lv_at hl 0 rfl) ?_
                refine wg_sM10 (j := ((13 * i) + j)) (x := ((K 10 (((13 * i) + j) - 1)) + 1)) hx hb hK hP hD hS (by omega) d_M_between_192 (fun H locs hP hS => ?_)
                refine lv_iinc (v := nI (j + 1)) (k := 7) (lv' := [(8, .int (nI (j + 1))), (9, .int (nI ((K 10 (((13 * i) + j) - 1)) + 1))), (0, .ref h0), (1, .long (lN a)), (3, .long (lN b)), (5, .int (nI (wg_ln a))), (6, .int (nI (wg_ln b))), (7, .int (nI i))]) hx hb d_M_between_193 hl rfl (nI_1 _) (by decide) rfl (fun ls hl => ?_)
                refine lv_goto (tgt := 25) hx hb d_M_between_196 (by decide) ?_
                exact ih25 (j + 1) 0 0 (wg_st K 10 ((13 * i) + j) ((K 10 (((13 * i) + j) - 1)) + 1)) _ _ _ ⟨(by omega), (fun j h => (wg_st_o _ _ _ _ h).trans (hKo j h)), (fun x y h1 h2 => (wg_st_n _ _ _ _ (by omega)).trans (hf1 x y h1 h2)), (fun y h => by rcases Nat.lt_succ_iff_lt_or_eq.mp h with h | rfl; exact (wg_st_n _ _ _ _ (by omega)).trans (hf2 y h); exact (wg_st_s _ _ _ _).trans hbest), hP, hS, lv_sub hl [2, 3, 4, 5, 6, 7, 0] rfl⟩ (by omega)
            · rw [nI_leI (by omega) (by omega)] at h114
              refine lv_aload_n hx hb d_M_between_117 rfl (lv_at hl 1 rfl) ?_
              refine wg_gM hx hb hts hown hK hP 10 (by decide) (v := .ref (ad 10)) kf_M_29 rfl d_M_between_118 ?_
              refine lv_bipush (v := (nI 13)) hx hb d_M_between_121 (by decide +kernel) ?_
              refine lv_iload hx hb d_M_between_123 (lv_at hl 6 rfl) ?_
              refine t_imul (v := nI (13 * i)) hx hb d_M_between_125 (pk_mul _ _) ?_
              refine lv_bipush (v := (nI 13)) hx hb d_M_between_126 (by decide +kernel) ?_
              refine t_isub (v := nI ((13 * i) - 13)) hx hb d_M_between_128 (pk_sub (by omega)) ?_
              refine lv_iload hx hb d_M_between_129 (lv_at hl 7 rfl) ?_
              refine t_iadd (v := nI (((13 * i) - 13) + j)) hx hb d_M_between_131 (nI_add _ _) ?_
              refine wg_ild (f := K 10) (j := (((13 * i) - 13) + j)) hx hb hK hP 7 rfl (by omega) (by decide) d_M_between_132 ?_
              refine lv_iconst (v := (nI 1)) hx hb d_M_between_133 (by decide +kernel) ?_
              refine t_iadd (v := nI ((K 10 (((13 * i) - 13) + j)) + 1)) hx hb d_M_between_134 (nI_add _ _) ?_
              refine lv_istore (lv' := [(9, .int (nI ((K 10 (((13 * i) - 13) + j)) + 1))), (0, .ref h0), (1, .long (lN a)), (3, .long (lN b)), (5, .int (nI (wg_ln a))), (6, .int (nI (wg_ln b))), (7, .int (nI i)), (8, .int (nI j))]) hx hb d_M_between_135 hl (by decide) rfl (fun ls hl => ?_)
              refine lv_aload_n hx hb d_M_between_137 rfl (lv_at hl 1 rfl) ?_
              refine wg_gM hx hb hts hown hK hP 10 (by decide) (v := .ref (ad 10)) kf_M_29 rfl d_M_between_138 ?_
              refine lv_bipush (v := (nI 13)) hx hb d_M_between_141 (by decide +kernel) ?_
              refine lv_iload hx hb d_M_between_143 (lv_at hl 6 rfl) ?_
              refine t_imul (v := nI (13 * i)) hx hb d_M_between_145 (pk_mul _ _) ?_
              refine lv_iload hx hb d_M_between_146 (lv_at hl 7 rfl) ?_
              refine t_iadd (v := nI ((13 * i) + j)) hx hb d_M_between_148 (nI_add _ _) ?_
              refine lv_iconst (v := (nI 1)) hx hb d_M_between_149 (by decide +kernel) ?_
              refine t_isub (v := nI (((13 * i) + j) - 1)) hx hb d_M_between_150 (pk_sub (by omega)) ?_
              refine wg_ild (f := K 10) (j := (((13 * i) + j) - 1)) hx hb hK hP 7 rfl (by omega) (by decide) d_M_between_151 ?_
              refine lv_iconst (v := (nI 1)) hx hb d_M_between_152 (by decide +kernel) ?_
              refine t_iadd (v := nI ((K 10 (((13 * i) + j) - 1)) + 1)) hx hb d_M_between_153 (nI_add _ _) ?_
              refine lv_iload hx hb d_M_between_154 (lv_at hl 0 rfl) ?_
              refine lv_icmp_ge (tgt := 178) hx hb d_M_between_156 (by decide) (fun h156 => ?_) (fun h156 => ?_)
              · rw [nI_leI (by omega) (by omega)] at h156
                have hbest : (K 10 (((13 * i) - 13) + j)) + 1 = wg_bt a b i j := by first | (rw [h41, wg_bt_0]; omega) | (rw [h46, wg_bt_i]; omega) | (rw [wg_bt_p (by omega) (by omega), ← e1, ← e2, ← e3]; first | (rw [if_pos h83]; omega) | (rw [if_neg h83]; omega))
                refine lv_aload_n hx hb d_M_between_178 rfl (lv_at hl 1 rfl) ?_
                refine wg_gM hx hb hts hown hK hP 10 (by decide) (v := .ref (ad 10)) kf_M_29 rfl d_M_between_179 ?_
                refine lv_bipush (v := (nI 13)) hx hb d_M_between_182 (by decide +kernel) ?_
                refine lv_iload hx hb d_M_between_184 (lv_at hl 6 rfl) ?_
                refine t_imul (v := nI (13 * i)) hx hb d_M_between_186 (pk_mul _ _) ?_
                refine lv_iload hx hb d_M_between_187 (lv_at hl 7 rfl) ?_
                refine t_iadd (v := nI ((13 * i) + j)) hx hb d_M_between_189 (nI_add _ _) ?_
                refine lv_iload hx hb d_M_between_190 (lv_at hl 0 rfl) ?_
                refine wg_sM10 (j := ((13 * i) + j)) (x := ((K 10 (((13 * i) - 13) + j)) + 1)) hx hb hK hP hD hS (by omega) d_M_between_192 (fun H locs hP hS => ?_)
                refine lv_iinc (v := nI (j + 1)) (k := 7) (lv' := [(8, .int (nI (j + 1))), (9, .int (nI ((K 10 (((13 * i) - 13) + j)) + 1))), (0, .ref h0), (1, .long (lN a)), (3, .long (lN b)), (5, .int (nI (wg_ln a))), (6, .int (nI (wg_ln b))), (7, .int (nI i))]) hx hb d_M_between_193 hl rfl (nI_1 _) (by decide) rfl (fun ls hl => ?_)
                refine lv_goto (tgt := 25) hx hb d_M_between_196 (by decide) ?_
                exact ih25 (j + 1) 0 0 (wg_st K 10 ((13 * i) + j) ((K 10 (((13 * i) - 13) + j)) + 1)) _ _ _ ⟨(by omega), (fun j h => (wg_st_o _ _ _ _ h).trans (hKo j h)), (fun x y h1 h2 => (wg_st_n _ _ _ _ (by omega)).trans (hf1 x y h1 h2)), (fun y h => by rcases Nat.lt_succ_iff_lt_or_eq.mp h with h | rfl; exact (wg_st_n _ _ _ _ (by omega)).trans (hf2 y h); exact (wg_st_s _ _ _ _).trans hbest), hP, hS, lv_sub hl [2, 3, 4, 5, 6, 7, 0] rfl⟩ (by omega)
              · rw [nI_leI (by omega) (by omega)] at h156
                refine lv_aload_n hx hb d_M_between_159 rfl (lv_at hl 1 rfl) ?_
                refine wg_gM hx hb hts hown hK hP 10 (by decide) (v := .ref (ad 10)) kf_M_29 rfl d_M_between_160 ?_
                refine lv_bipush (v := (nI 13)) hx hb d_M_between_163 (by decide +kernel) ?_
                refine lv_iload hx hb d_M_between_165 (lv_at hl 6 rfl) ?_
                refine t_imul (v := nI (13 * i)) hx hb d_M_between_167 (pk_mul _ _) ?_
                refine lv_iload hx hb d_M_between_168 (lv_at hl 7 rfl) ?_
                refine t_iadd (v := nI ((13 * i) + j)) hx hb d_M_between_170 (nI_add _ _) ?_
                refine lv_iconst (v := (nI 1)) hx hb d_M_between_171 (by decide +kernel) ?_
                refine t_isub (v := nI (((13 * i) + j) - 1)) hx hb d_M_between_172 (pk_sub (by omega)) ?_
                refine wg_ild (f := K 10) (j := (((13 * i) + j) - 1)) hx hb hK hP 7 rfl (by omega) (by decide) d_M_between_173 ?_
                refine lv_iconst (v := (nI 1)) hx hb d_M_between_174 (by decide +kernel) ?_
                refine t_iadd (v := nI ((K 10 (((13 * i) + j) - 1)) + 1)) hx hb d_M_between_175 (nI_add _ _) ?_
                refine lv_istore (lv' := [(9, .int (nI ((K 10 (((13 * i) + j) - 1)) + 1))), (0, .ref h0), (1, .long (lN a)), (3, .long (lN b)), (5, .int (nI (wg_ln a))), (6, .int (nI (wg_ln b))), (7, .int (nI i)), (8, .int (nI j))]) hx hb d_M_between_176 hl (by decide) rfl (fun ls hl => ?_)
                have hbest : (K 10 (((13 * i) + j) - 1)) + 1 = wg_bt a b i j := by first | (rw [h41, wg_bt_0]; omega) | (rw [h46, wg_bt_i]; omega) | (rw [wg_bt_p (by omega) (by omega), ← e1, ← e2, ← e3]; first | (rw [if_pos h83]; omega) | (rw [if_neg h83]; omega))
                refine lv_aload_n hx hb d_M_between_178 rfl (lv_at hl 1 rfl) ?_
                refine wg_gM hx hb hts hown hK hP 10 (by decide) (v := .ref (ad 10)) kf_M_29 rfl d_M_between_179 ?_
                refine lv_bipush (v := (nI 13)) hx hb d_M_between_182 (by decide +kernel) ?_
                refine lv_iload hx hb d_M_between_184 (lv_at hl 6 rfl) ?_
                refine t_imul (v := nI (13 * i)) hx hb d_M_between_186 (pk_mul _ _) ?_
                refine lv_iload hx hb d_M_between_187 (lv_at hl 7 rfl) ?_
                refine t_iadd (v := nI ((13 * i) + j)) hx hb d_M_between_189 (nI_add _ _) ?_
                refine lv_iload hx hb d_M_between_190 (lv_at hl 0 rfl) ?_
                refine wg_sM10 (j := ((13 * i) + j)) (x := ((K 10 (((13 * i) + j) - 1)) + 1)) hx hb hK hP hD hS (by omega) d_M_between_192 (fun H locs hP hS => ?_)
                refine lv_iinc (v := nI (j + 1)) (k := 7) (lv' := [(8, .int (nI (j + 1))), (9, .int (nI ((K 10 (((13 * i) + j) - 1)) + 1))), (0, .ref h0), (1, .long (lN a)), (3, .long (lN b)), (5, .int (nI (wg_ln a))), (6, .int (nI (wg_ln b))), (7, .int (nI i))]) hx hb d_M_between_193 hl rfl (nI_1 _) (by decide) rfl (fun ls hl => ?_)
                refine lv_goto (tgt := 25) hx hb d_M_between_196 (by decide) ?_
                exact ih25 (j + 1) 0 0 (wg_st K 10 ((13 * i) + j) ((K 10 (((13 * i) + j) - 1)) + 1)) _ _ _ ⟨(by omega), (fun j h => (wg_st_o _ _ _ _ h).trans (hKo j h)), (fun x y h1 h2 => (wg_st_n _ _ _ _ (by omega)).trans (hf1 x y h1 h2)), (fun y h => by rcases Nat.lt_succ_iff_lt_or_eq.mp h with h | rfl; exact (wg_st_n _ _ _ _ (by omega)).trans (hf2 y h); exact (wg_st_s _ _ _ _).trans hbest), hP, hS, lv_sub hl [2, 3, 4, 5, 6, 7, 0] rfl⟩ (by omega)
set_option maxHeartbeats 4000000 in
set_option maxRecDepth 100000 in
theorem c_M_distance (l : Launch) (D : va_G) (cJ cI : ClassId) (h0 : Nat) (ad : Nat → Nat) (sz : Nat) (I : wg_S) (n : Nat) (k : Int32) (hn64 : n < 2 ^ 64) (hI : wg_MI I) : Met l y_M_distance (wg_ws y_M_distance b_M_distance 4 (some .int)) ({ frames := 3, cells := 0, slots := 0, locals := 74 }) (va_Pc [.ref h0, .long (lN n), .int k] (wg_Pc D cJ cI (wg_WM cJ cI h0 ad I) sz)) (va_Qi (fun (r : Int32) (u : wg_S) => (¬ (wg_ok n ∧ ∃ j, j < I 1 0 ∧ k = nI j) ∧ r = -1 ∧ u = I) ∨ (wg_ok n ∧ ∃ j, j < I 1 0 ∧ k = nI j ∧ r = nI (wg_bt n (I 0 j) (wg_ln n) (wg_ln (I 0 j))) ∧ wg_MI u ∧ (∀ x, ¬ x = 10 → u x = I x))) (fun (u : wg_S) t => va_P D wg_cl (wg_WM cJ cI h0 ad u) t.heap) (va_A (wg_WM cJ cI h0 ad I) sz)) 0 0 (va_A (wg_WM cJ cI h0 ad I) sz) := by
  refine wg_head (Wd := (fun I => wg_WM cJ cI h0 ad I)) (I := I) (fun A => va_Qi (fun (r : Int32) (u : wg_S) => (¬ (wg_ok n ∧ ∃ j, j < I 1 0 ∧ k = nI j) ∧ r = -1 ∧ u = I) ∨ (wg_ok n ∧ ∃ j, j < I 1 0 ∧ k = nI j ∧ r = nI (wg_bt n (I 0 j) (wg_ln n) (wg_ln (I 0 j))) ∧ wg_MI u ∧ (∀ x, ¬ x = 10 → u x = I x))) (fun (u : wg_S) t => va_P D wg_cl (wg_WM cJ cI h0 ad u) t.heap) A) R_M (by decide) rfl (Nat.le_of_ble_eq_true rfl) (fun I J => wg_same_M I J) ?_
  intro p e s m below meth c A ls hx hb hr hlk hml hown hnm hts hA hK hD hP hS hl hsz
  clear hsz
  have hl : lv_has ls 4 [(0, .ref h0), (1, .long (lN n)), (3, .int k)] := hl
  have hP : va_P D wg_cl (wg_WM cJ cI h0 ad I) s.heap := hP
  skip
  have hI' := hI
  obtain ⟨hn, hse, hfd, hnd, hw, hOW, hOL⟩ := hI'
  refine lv_lload_n hx hb d_M_distance_0 rfl (lv_at hl 1 rfl) ?_
  refine wg_csi (As := [.long (lN n)]) (rest := []) hx hb hml hown hts hK hP hS hA (c_M_isWord l D cJ cI _ n (by omega)) kc_M_44 ⟨rfl, rfl⟩ ⟨Nat.le_of_ble_eq_true rfl, Nat.le_of_ble_eq_true rfl⟩ rfl hl.1 rfl (Nat.le_of_ble_eq_true rfl) d_M_distance_1 ⟨Nat.zero_le _, Nat.zero_le _⟩ (fun r H locs q1 hP hS => ?_)
  rcases q1 with ⟨rfl, hok1⟩ | ⟨rfl, hok1⟩
  · skip
    have hlt1 := hok1.1
    refine lv_if_eq (tgt := 19) hx hb d_M_distance_4 (by decide) (fun h => absurd h (by decide +kernel)) (fun _ => ?_)
    refine lv_iload_n hx hb d_M_distance_7 rfl (lv_at hl 2 rfl) ?_
    refine lv_if_lt (tgt := 19) hx hb d_M_distance_8 (by decide) (fun h8 => ?_) (fun h8 => ?_)
    · refine lv_iconst (v := (-1)) hx hb d_M_distance_19 (by decide +kernel) ?_
      refine lv_goto (tgt := 34) hx hb d_M_distance_20 (by decide) ?_
      exact W.iret (v := (-1)) hx hb hr (fun tt hth hW => ⟨⟨_, I, rfl, (Or.inl ⟨by first | exact fun q => hok1 q.1 | exact fun q => (by obtain ⟨j, q1, q2⟩ := q.2; exact wg_has0a (n := I 1 0) (by omega) h8 j q1 q2) | exact fun q => (by obtain ⟨j, q1, q2⟩ := q.2; exact wg_has0b (n := I 1 0) (by omega) (Int32.not_lt.mp h16) j q1 q2), rfl, rfl⟩), wg_h hth hP⟩, hS.F hth⟩) hS.2.2 d_M_distance_34
    · refine lv_iload_n hx hb d_M_distance_11 rfl (lv_at hl 2 rfl) ?_
      refine lv_aload_n hx hb d_M_distance_12 rfl (lv_at hl 0 rfl) ?_
      refine wg_gM hx hb hts hown hK hP 1 (by decide) (v := .int (nI (I 1 0))) kf_M_32 rfl d_M_distance_13 ?_
      refine lv_icmp_lt (tgt := 23) hx hb d_M_distance_16 (by decide) (fun h16 => ?_) (fun h16 => ?_)
      · obtain ⟨j, hj, rfl⟩ := wg_has1 (n := I 1 0) (by omega) h8 (Int32.not_le.mpr h16)
        refine lv_aload_n hx hb d_M_distance_23 rfl (lv_at hl 0 rfl) ?_
        refine lv_lload_n hx hb d_M_distance_24 rfl (lv_at hl 1 rfl) ?_
        refine lv_aload_n hx hb d_M_distance_25 rfl (lv_at hl 0 rfl) ?_
        refine wg_gM hx hb hts hown hK hP 0 (by decide) (v := .ref (ad 0)) kf_M_7 rfl d_M_distance_26 ?_
        refine lv_iload_n hx hb d_M_distance_29 rfl (lv_at hl 2 rfl) ?_
        refine wg_lld (f := I 0) (j := j) hx hb hK hP 1 rfl (by omega) (by decide) d_M_distance_30 ?_
        have hB30 := hw j (by omega)
        refine wg_cvi (As := [.long (lN n), .long (lN (I 0 j))]) (rest := []) hx hb hml hown hts hK hP (hD _) hS hA rfl rfl rfl (c_M_between l D cJ cI h0 ad _ I n (I 0 j) (by omega) (by omega)) kc_M_79 ⟨rfl, rfl⟩ ⟨Nat.le_of_ble_eq_true rfl, Nat.le_of_ble_eq_true rfl⟩ rfl hl.1 rfl (Nat.le_of_ble_eq_true rfl) d_M_distance_31 ⟨Nat.zero_le _, Nat.zero_le _⟩ (fun r u31 tt H locs ht q31 hB _ _ hS => ?_)
        have hP : va_P D wg_cl (wg_WM cJ cI h0 ad u31) H := by rw [← ht]; exact hB
        clear hB ht tt
        obtain ⟨rfl, hq31a⟩ := q31
        have hl31a := wg_ln_le n
        have hl31b := wg_ln_le (I 0 j)
        have hl31c := wg_bt_le n (I 0 j) (wg_ln n) (wg_ln (I 0 j))
        exact W.iret (v := (nI (wg_bt n (I 0 j) (wg_ln n) (wg_ln (I 0 j))))) hx hb hr (fun tt hth hW => ⟨⟨_, u31, rfl, (Or.inr ⟨hok1, j, hj, rfl, rfl, wg_MI_10 hI hq31a, hq31a⟩), wg_h hth hP⟩, hS.F hth⟩) hS.2.2 d_M_distance_34
      · refine lv_iconst (v := (-1)) hx hb d_M_distance_19 (by decide +kernel) ?_
        refine lv_goto (tgt := 34) hx hb d_M_distance_20 (by decide) ?_
        exact W.iret (v := (-1)) hx hb hr (fun tt hth hW => ⟨⟨_, I, rfl, (Or.inl ⟨by first | exact fun q => hok1 q.1 | exact fun q => (by obtain ⟨j, q1, q2⟩ := q.2; exact wg_has0a (n := I 1 0) (by omega) h8 j q1 q2) | exact fun q => (by obtain ⟨j, q1, q2⟩ := q.2; exact wg_has0b (n := I 1 0) (by omega) (Int32.not_lt.mp h16) j q1 q2), rfl, rfl⟩), wg_h hth hP⟩, hS.F hth⟩) hS.2.2 d_M_distance_34
  · skip
    refine lv_if_eq (tgt := 19) hx hb d_M_distance_4 (by decide) (fun _ => ?_) (fun h => absurd h (by decide +kernel))
    refine lv_iconst (v := (-1)) hx hb d_M_distance_19 (by decide +kernel) ?_
    refine lv_goto (tgt := 34) hx hb d_M_distance_20 (by decide) ?_
    exact W.iret (v := (-1)) hx hb hr (fun tt hth hW => ⟨⟨_, I, rfl, (Or.inl ⟨by first | exact fun q => hok1 q.1 | exact fun q => (by obtain ⟨j, q1, q2⟩ := q.2; exact wg_has0a (n := I 1 0) (by omega) h8 j q1 q2) | exact fun q => (by obtain ⟨j, q1, q2⟩ := q.2; exact wg_has0b (n := I 1 0) (by omega) (Int32.not_lt.mp h16) j q1 q2), rfl, rfl⟩), wg_h hth hP⟩, hS.F hth⟩) hS.2.2 d_M_distance_34
set_option maxHeartbeats 4000000 in
set_option maxRecDepth 100000 in
theorem c_M_search (l : Launch) (D : va_G) (cJ cI : ClassId) (h0 : Nat) (ad : Nat → Nat) (sz : Nat) (I : wg_S) (n : Nat) (d : Int32) (hn64 : n < 2 ^ 64) (hI : wg_MI I) : Met l y_M_search (wg_ws y_M_search b_M_search 6 (some .int)) ({ frames := 3, cells := 0, slots := 0, locals := 74 }) (va_Pc [.ref h0, .long (lN n), .int d] (wg_Pc D cJ cI (wg_WM cJ cI h0 ad I) sz)) (va_Qi (fun (r : Int32) (u : wg_S) => (I 2 0 = 0 ∧ r = -1 ∧ u = I) ∨ (¬ I 2 0 = 0 ∧ ¬ (wg_ok n ∧ ∃ dn, dn ≤ 3 ∧ d = nI dn) ∧ r = -2 ∧ u = I) ∨ (¬ I 2 0 = 0 ∧ wg_ok n ∧ ∃ dn, dn ≤ 3 ∧ d = nI dn ∧ r = nI (u 3 0) ∧ u 3 0 = wg_ct (fun k => wg_bt n (I 0 k) (wg_ln n) (wg_ln (I 0 k))) (dn + 1) (I 1 0) ∧ wg_RS (fun k => wg_bt n (I 0 k) (wg_ln n) (wg_ln (I 0 k))) (I 1 0) (u 4) (u 5) (dn + 1) 0 ∧ wg_MI u ∧ (∀ j, ¬ j = 3 → ¬ j = 4 → ¬ j = 5 → ¬ j = 10 → u j = I j))) (fun (u : wg_S) t => va_P D wg_cl (wg_WM cJ cI h0 ad u) t.heap) (va_A (wg_WM cJ cI h0 ad I) sz)) 0 0 (va_A (wg_WM cJ cI h0 ad I) sz) := by
  refine wg_head (Wd := (fun I => wg_WM cJ cI h0 ad I)) (I := I) (fun A => va_Qi (fun (r : Int32) (u : wg_S) => (I 2 0 = 0 ∧ r = -1 ∧ u = I) ∨ (¬ I 2 0 = 0 ∧ ¬ (wg_ok n ∧ ∃ dn, dn ≤ 3 ∧ d = nI dn) ∧ r = -2 ∧ u = I) ∨ (¬ I 2 0 = 0 ∧ wg_ok n ∧ ∃ dn, dn ≤ 3 ∧ d = nI dn ∧ r = nI (u 3 0) ∧ u 3 0 = wg_ct (fun k => wg_bt n (I 0 k) (wg_ln n) (wg_ln (I 0 k))) (dn + 1) (I 1 0) ∧ wg_RS (fun k => wg_bt n (I 0 k) (wg_ln n) (wg_ln (I 0 k))) (I 1 0) (u 4) (u 5) (dn + 1) 0 ∧ wg_MI u ∧ (∀ j, ¬ j = 3 → ¬ j = 4 → ¬ j = 5 → ¬ j = 10 → u j = I j))) (fun (u : wg_S) t => va_P D wg_cl (wg_WM cJ cI h0 ad u) t.heap) A) R_M (by decide) rfl (Nat.le_of_ble_eq_true rfl) (fun I J => wg_same_M I J) ?_
  intro p e s m below meth c A ls hx hb hr hlk hml hown hnm hts hA hK hD hP hS hl hsz
  clear hsz
  have hl : lv_has ls 6 [(0, .ref h0), (1, .long (lN n)), (3, .int d)] := hl
  have hP : va_P D wg_cl (wg_WM cJ cI h0 ad I) s.heap := hP
  skip
  have hI' := hI
  obtain ⟨hn, hse, hfd, hnd, hw, hOW, hOL⟩ := hI'
  refine lv_aload_n hx hb d_M_search_0 rfl (lv_at hl 0 rfl) ?_
  refine wg_gM hx hb hts hown hK hP 2 (by decide) (v := .int (nI (I 2 0))) kf_M_40 rfl d_M_search_1 ?_
  refine lv_if_ne (tgt := 9) hx hb d_M_search_4 (by decide) (fun h4 => ?_) (fun h4 => ?_)
  · rw [wg_z0 (by omega)] at h4
    refine lv_lload_n hx hb d_M_search_9 rfl (lv_at hl 1 rfl) ?_
    refine wg_csi (As := [.long (lN n)]) (rest := []) hx hb hml hown hts hK hP hS hA (c_M_isWord l D cJ cI _ n (by omega)) kc_M_44 ⟨rfl, rfl⟩ ⟨Nat.le_of_ble_eq_true rfl, Nat.le_of_ble_eq_true rfl⟩ rfl hl.1 rfl (Nat.le_of_ble_eq_true rfl) d_M_search_10 ⟨Nat.zero_le _, Nat.zero_le _⟩ (fun r H locs q10 hP hS => ?_)
    rcases q10 with ⟨rfl, hok10⟩ | ⟨rfl, hok10⟩
    · skip
      have hlt10 := hok10.1
      refine lv_if_eq (tgt := 25) hx hb d_M_search_13 (by decide) (fun h => absurd h (by decide +kernel)) (fun _ => ?_)
      refine lv_iload_n hx hb d_M_search_16 rfl (lv_at hl 2 rfl) ?_
      refine lv_if_lt (tgt := 25) hx hb d_M_search_17 (by decide) (fun h17 => ?_) (fun h17 => ?_)
      · refine lv_bipush (v := (-2)) hx hb d_M_search_25 (by decide +kernel) ?_
        exact W.iret (v := (-2)) hx hb hr (fun tt hth hW => ⟨⟨_, I, rfl, (Or.inr (Or.inl ⟨h4, by first | exact fun q => hok10 q.1 | exact fun q => wg_dno1 h17 q.2 | exact fun q => wg_dno2 h22 q.2, rfl, rfl⟩)), wg_h hth hP⟩, hS.F hth⟩) hS.2.2 d_M_search_27
      · refine lv_iload_n hx hb d_M_search_20 rfl (lv_at hl 2 rfl) ?_
        refine lv_iconst (v := (nI 3)) hx hb d_M_search_21 (by decide +kernel) ?_
        refine lv_icmp_le (tgt := 28) hx hb d_M_search_22 (by decide) (fun h22 => ?_) (fun h22 => ?_)
        · obtain ⟨dn, hdn, rfl⟩ := nI_of2 (n := 3) (by decide +kernel) h17 h22
          refine lv_aload_n hx hb d_M_search_28 rfl (lv_at hl 0 rfl) ?_
          refine lv_iconst (v := (nI 0)) hx hb d_M_search_29 (by decide +kernel) ?_
          refine wg_pM3 (v := 0) hx hb hts hown hK hP hD hS kf_M_70 d_M_search_30 (fun H locs hP hS => ?_)
          refine lv_iconst (v := (nI 0)) hx hb d_M_search_33 (by decide +kernel) ?_
          refine lv_istore (lv' := [(4, .int (nI 0)), (0, .ref h0), (1, .long (lN n)), (3, .int (nI dn))]) hx hb d_M_search_34 hl (by decide) rfl (fun ls hl => ?_)
          refine wg_loop (fun g _ _ J H locs ls => (g ≤ dn + 1) ∧ (∀ j, ¬ j = 3 → ¬ j = 4 → ¬ j = 5 → ¬ j = 10 → J j = I j) ∧ (J 3 0 = wg_ct (fun k => wg_bt n (I 0 k) (wg_ln n) (wg_ln (I 0 k))) g (I 1 0)) ∧ (wg_RS (fun k => wg_bt n (I 0 k) (wg_ln n) (wg_ln (I 0 k))) (I 1 0) (J 4) (J 5) g 0) ∧ va_P D wg_cl (wg_WM cJ cI h0 ad J) H ∧ va_S A s.heap H locs ∧ lv_has ls 6 [(0, .ref h0), (1, .long (lN n)), (3, .int (nI dn)), (4, .int (nI g))]) (fun g _ _ J => dn + 1 - g) (fun g _z0 _z1 J H locs ls hI ih36 => ?_) 0 0 0 (wg_st I 3 0 0) _ _ _ ⟨(by omega), (fun j h _ _ _ => wg_st_o _ _ _ _ h), (wg_ct_0 _ _).symm, (wg_RS_0 _ _ _ _), hP, hS, lv_sub hl [1, 2, 3, 0] rfl⟩
          obtain ⟨hg, hJo, hJc, hJR, hP, hS, hl⟩ := hI
          have hJ48 : J 3 0 ≤ 48 := by rw [hJc]; have := wg_cc_le (fun k => wg_bt n (I 0 k) (wg_ln n) (wg_ln (I 0 k))) g (I 1 0); omega
          refine lv_iload hx hb d_M_search_36 (lv_at hl 3 rfl) ?_
          refine lv_iload_n hx hb d_M_search_38 rfl (lv_at hl 2 rfl) ?_
          refine lv_icmp_gt (tgt := 115) hx hb d_M_search_39 (by decide) (fun h39 => ?_) (fun h39 => ?_)
          · rw [nI_ltI (by omega) (by omega)] at h39
            refine lv_aload_n hx hb d_M_search_115 rfl (lv_at hl 0 rfl) ?_
            refine wg_gM hx hb hts hown hK hP 3 (by decide) (v := .int (nI (J 3 0))) kf_M_70 rfl d_M_search_116 ?_
            exact W.iret (v := (nI (J 3 0))) hx hb hr (fun tt hth hW => ⟨⟨_, J, rfl, (Or.inr (Or.inr ⟨h4, hok10, dn, hdn, rfl, rfl, by rw [hJc, show g = dn + 1 by omega], by rw [show g = dn + 1 by omega] at hJR; exact hJR, wg_MI_s hI hJo hJ48, hJo⟩)), wg_h hth hP⟩, hS.F hth⟩) hS.2.2 d_M_search_119
          · rw [nI_ltI (by omega) (by omega)] at h39
            refine lv_iconst (v := (nI 0)) hx hb d_M_search_42 (by decide +kernel) ?_
            refine lv_istore (lv' := [(5, .int (nI 0)), (0, .ref h0), (1, .long (lN n)), (3, .int (nI dn)), (4, .int (nI g))]) hx hb d_M_search_43 hl (by decide) rfl (fun ls hl => ?_)
            refine wg_loop (fun k _ _ K H locs ls => (k ≤ I 1 0) ∧ (∀ j, ¬ j = 3 → ¬ j = 4 → ¬ j = 5 → ¬ j = 10 → K j = I j) ∧ (K 3 0 = wg_ct (fun k => wg_bt n (I 0 k) (wg_ln n) (wg_ln (I 0 k))) g (I 1 0) + wg_cq (fun k => wg_bt n (I 0 k) (wg_ln n) (wg_ln (I 0 k))) g k) ∧ (wg_RS (fun k => wg_bt n (I 0 k) (wg_ln n) (wg_ln (I 0 k))) (I 1 0) (K 4) (K 5) g k) ∧ va_P D wg_cl (wg_WM cJ cI h0 ad K) H ∧ va_S A s.heap H locs ∧ lv_has ls 6 [(0, .ref h0), (1, .long (lN n)), (3, .int (nI dn)), (4, .int (nI g)), (5, .int (nI k))]) (fun k _ _ K => 48 - k) (fun k _z0 _z1 K H locs ls hI ih45 => ?_) 0 0 0 J _ _ _ ⟨(by omega), hJo, hJc, hJR, hP, hS, lv_sub hl [1, 2, 3, 4, 0] rfl⟩
            obtain ⟨hk, hKo, hKc, hKR, hP, hS, hl⟩ := hI
            have hK1 : K 1 0 = I 1 0 := by rw [hKo 1 (by decide) (by decide) (by decide) (by decide)]
            have hK0 : K 0 = I 0 := hKo 0 (by decide) (by decide) (by decide) (by decide)
            have hKw : ∀ k, k < 48 → K 0 k < 2 ^ 60 := by rw [hK0]; exact hw
            refine lv_iload hx hb d_M_search_45 (lv_at hl 4 rfl) ?_
            refine lv_aload_n hx hb d_M_search_47 rfl (lv_at hl 0 rfl) ?_
            refine wg_gM hx hb hts hown hK hP 1 (by decide) (v := .int (nI (K 1 0))) kf_M_32 rfl d_M_search_48 ?_
            refine lv_icmp_ge (tgt := 109) hx hb d_M_search_51 (by decide) (fun h51 => ?_) (fun h51 => ?_)
            · rw [nI_leI (by omega) (by omega)] at h51
              have hkk : k = I 1 0 := by omega
              refine lv_iinc (v := nI (g + 1)) (k := 3) (lv' := [(4, .int (nI (g + 1))), (0, .ref h0), (1, .long (lN n)), (3, .int (nI dn)), (5, .int (nI k))]) hx hb d_M_search_109 hl rfl (nI_1 _) (by decide) rfl (fun ls hl => ?_)
              refine lv_goto (tgt := 36) hx hb d_M_search_112 (by decide) ?_
              exact ih36 (g + 1) 0 0 K _ _ _ ⟨(by omega), hKo, (by rw [hKc, wg_ct_s, hkk]), (wg_RS_n (by rw [hkk] at hKR; exact hKR)), hP, hS, lv_sub hl [1, 2, 3, 0] rfl⟩ (by omega)
            · rw [nI_leI (by omega) (by omega)] at h51
              refine lv_aload_n hx hb d_M_search_54 rfl (lv_at hl 0 rfl) ?_
              refine lv_lload_n hx hb d_M_search_55 rfl (lv_at hl 1 rfl) ?_
              refine lv_aload_n hx hb d_M_search_56 rfl (lv_at hl 0 rfl) ?_
              refine wg_gM hx hb hts hown hK hP 0 (by decide) (v := .ref (ad 0)) kf_M_7 rfl d_M_search_57 ?_
              refine lv_iload hx hb d_M_search_60 (lv_at hl 4 rfl) ?_
              refine wg_lld (f := K 0) (j := k) hx hb hK hP 1 rfl (by omega) (by decide) d_M_search_62 ?_
              have hB62 := hKw k (by omega)
              refine wg_cvi (As := [.long (lN n), .long (lN (K 0 k))]) (rest := []) hx hb hml hown hts hK hP (hD _) hS hA rfl rfl rfl (c_M_between l D cJ cI h0 ad _ K n (K 0 k) (by omega) (by omega)) kc_M_79 ⟨rfl, rfl⟩ ⟨Nat.le_of_ble_eq_true rfl, Nat.le_of_ble_eq_true rfl⟩ rfl hl.1 rfl (Nat.le_of_ble_eq_true rfl) d_M_search_63 ⟨Nat.zero_le _, Nat.zero_le _⟩ (fun r u63 tt H locs ht q63 hB _ _ hS => ?_)
              have hP : va_P D wg_cl (wg_WM cJ cI h0 ad u63) H := by rw [← ht]; exact hB
              clear hB ht tt
              obtain ⟨rfl, hq63a⟩ := q63
              have hl63a := wg_ln_le n
              have hl63b := wg_ln_le (K 0 k)
              have hl63c := wg_bt_le n (K 0 k) (wg_ln n) (wg_ln (K 0 k))
              refine lv_iload hx hb d_M_search_66 (lv_at hl 3 rfl) ?_
              refine lv_icmp_ne (tgt := 103) hx hb d_M_search_68 (by decide) (fun h68 => ?_) (fun h68 => ?_)
              · rw [nI_eq (by omega) (by omega)] at h68
                rw [hK0] at h68
                refine lv_iinc (v := nI (k + 1)) (k := 4) (lv' := [(5, .int (nI (k + 1))), (0, .ref h0), (1, .long (lN n)), (3, .int (nI dn)), (4, .int (nI g))]) hx hb d_M_search_103 hl rfl (nI_1 _) (by decide) rfl (fun ls hl => ?_)
                refine lv_goto (tgt := 45) hx hb d_M_search_106 (by decide) ?_
                exact ih45 (k + 1) 0 0 u63 _ _ _ ⟨(by omega), (by first | exact fun j h1 h2 h3 h4 => (hq63a j h4).trans (hKo j h1 h2 h3 h4) | exact fun j h1 h2 h3 h4 => (wg_st_o _ _ _ _ h1).trans ((wg_st_o _ _ _ _ h3).trans ((wg_st_o _ _ _ _ h2).trans ((hq63a j h4).trans (hKo j h1 h2 h3 h4))))), (by first | (show u63 3 0 + 1 = _; rw [wg_cq_t (f := (fun k => wg_bt n (I 0 k) (wg_ln n) (wg_ln (I 0 k)))) (e := g) (k := k) h68]; omega) | (rw [wg_cq_f (f := (fun k => wg_bt n (I 0 k) (wg_ln n) (wg_ln (I 0 k)))) (e := g) (k := k) h68, hq63a 3 (by decide)]; exact hKc)), (by first | (rw [hq63a 4 (by decide), hq63a 5 (by decide)]; exact wg_RS_f (f := (fun k => wg_bt n (I 0 k) (wg_ln n) (wg_ln (I 0 k)))) hKR h68) | exact wg_RS_t (f := (fun k => wg_bt n (I 0 k) (wg_ln n) (wg_ln (I 0 k)))) (A' := wg_st u63 4 (u63 3 0) k 4) (B' := wg_st u63 5 (u63 3 0) g 5) hKR (by omega) h68 (fun x h => by rw [← hKc, ← hu3] at h; rw [← hu4]; exact wg_st_n _ _ _ _ h) (fun x h => by rw [← hKc, ← hu3] at h; rw [← hu5]; exact wg_st_n _ _ _ _ h) (by rw [← hKc, ← hu3]; exact wg_st_s _ _ _ _) (by rw [← hKc, ← hu3]; exact wg_st_s _ _ _ _)), hP, hS, lv_sub hl [1, 2, 3, 4, 0] rfl⟩ (by omega)
              · rw [nI_eq (by omega) (by omega)] at h68
                rw [hK0] at h68
                have hcl := wg_cc_lt (f := (fun k => wg_bt n (I 0 k) (wg_ln n) (wg_ln (I 0 k)))) (n := I 1 0) (by omega) h68
                have hu3 : u63 3 0 = K 3 0 := by rw [hq63a 3 (by decide)]
                have hu4 : u63 4 = K 4 := hq63a 4 (by decide)
                have hu5 : u63 5 = K 5 := hq63a 5 (by decide)
                refine lv_aload_n hx hb d_M_search_71 rfl (lv_at hl 0 rfl) ?_
                refine wg_gM hx hb hts hown hK hP 4 (by decide) (v := .ref (ad 4)) kf_M_13 rfl d_M_search_72 ?_
                refine lv_aload_n hx hb d_M_search_75 rfl (lv_at hl 0 rfl) ?_
                refine wg_gM hx hb hts hown hK hP 3 (by decide) (v := .int (nI (u63 3 0))) kf_M_70 rfl d_M_search_76 ?_
                refine lv_iload hx hb d_M_search_79 (lv_at hl 4 rfl) ?_
                refine wg_sM4 (j := (u63 3 0)) (x := k) hx hb hK hP hD hS (by omega) d_M_search_81 (fun H locs hP hS => ?_)
                refine lv_aload_n hx hb d_M_search_82 rfl (lv_at hl 0 rfl) ?_
                refine wg_gM hx hb hts hown hK hP 5 (by decide) (v := .ref (ad 5)) kf_M_17 rfl d_M_search_83 ?_
                refine lv_aload_n hx hb d_M_search_86 rfl (lv_at hl 0 rfl) ?_
                refine wg_gM hx hb hts hown hK hP 3 (by decide) (v := .int (nI (u63 3 0))) kf_M_70 rfl d_M_search_87 ?_
                refine lv_iload hx hb d_M_search_90 (lv_at hl 3 rfl) ?_
                refine wg_sM5 (j := (u63 3 0)) (x := g) hx hb hK hP hD hS (by omega) d_M_search_92 (fun H locs hP hS => ?_)
                refine lv_aload_n hx hb d_M_search_93 rfl (lv_at hl 0 rfl) ?_
                refine lv_aload_n hx hb d_M_search_94 rfl (lv_at hl 0 rfl) ?_
                refine wg_gM hx hb hts hown hK hP 3 (by decide) (v := .int (nI (u63 3 0))) kf_M_70 rfl d_M_search_95 ?_
                refine lv_iconst (v := (nI 1)) hx hb d_M_search_98 (by decide +kernel) ?_
                refine t_iadd (v := nI ((u63 3 0) + 1)) hx hb d_M_search_99 (nI_add _ _) ?_
                refine wg_pM3 (v := ((u63 3 0) + 1)) hx hb hts hown hK hP hD hS kf_M_70 d_M_search_100 (fun H locs hP hS => ?_)
                refine lv_iinc (v := nI (k + 1)) (k := 4) (lv' := [(5, .int (nI (k + 1))), (0, .ref h0), (1, .long (lN n)), (3, .int (nI dn)), (4, .int (nI g))]) hx hb d_M_search_103 hl rfl (nI_1 _) (by decide) rfl (fun ls hl => ?_)
                refine lv_goto (tgt := 45) hx hb d_M_search_106 (by decide) ?_
                exact ih45 (k + 1) 0 0 (wg_st (wg_st (wg_st u63 4 (u63 3 0) k) 5 (u63 3 0) g) 3 0 ((u63 3 0) + 1)) _ _ _ ⟨(by omega), (by first | exact fun j h1 h2 h3 h4 => (hq63a j h4).trans (hKo j h1 h2 h3 h4) | exact fun j h1 h2 h3 h4 => (wg_st_o _ _ _ _ h1).trans ((wg_st_o _ _ _ _ h3).trans ((wg_st_o _ _ _ _ h2).trans ((hq63a j h4).trans (hKo j h1 h2 h3 h4))))), (by first | (show u63 3 0 + 1 = _; rw [wg_cq_t (f := (fun k => wg_bt n (I 0 k) (wg_ln n) (wg_ln (I 0 k)))) (e := g) (k := k) h68]; omega) | (rw [wg_cq_f (f := (fun k => wg_bt n (I 0 k) (wg_ln n) (wg_ln (I 0 k)))) (e := g) (k := k) h68, hq63a 3 (by decide)]; exact hKc)), (by first | (rw [hq63a 4 (by decide), hq63a 5 (by decide)]; exact wg_RS_f (f := (fun k => wg_bt n (I 0 k) (wg_ln n) (wg_ln (I 0 k)))) hKR h68) | exact wg_RS_t (f := (fun k => wg_bt n (I 0 k) (wg_ln n) (wg_ln (I 0 k)))) (A' := wg_st u63 4 (u63 3 0) k 4) (B' := wg_st u63 5 (u63 3 0) g 5) hKR (by omega) h68 (fun x h => by rw [← hKc, ← hu3] at h; rw [← hu4]; exact wg_st_n _ _ _ _ h) (fun x h => by rw [← hKc, ← hu3] at h; rw [← hu5]; exact wg_st_n _ _ _ _ h) (by rw [← hKc, ← hu3]; exact wg_st_s _ _ _ _) (by rw [← hKc, ← hu3]; exact wg_st_s _ _ _ _)), hP, hS, lv_sub hl [1, 2, 3, 4, 0] rfl⟩ (by omega)
        · refine lv_bipush (v := (-2)) hx hb d_M_search_25 (by decide +kernel) ?_
          exact W.iret (v := (-2)) hx hb hr (fun tt hth hW => ⟨⟨_, I, rfl, (Or.inr (Or.inl ⟨h4, by first | exact fun q => hok10 q.1 | exact fun q => wg_dno1 h17 q.2 | exact fun q => wg_dno2 h22 q.2, rfl, rfl⟩)), wg_h hth hP⟩, hS.F hth⟩) hS.2.2 d_M_search_27
    · skip
      refine lv_if_eq (tgt := 25) hx hb d_M_search_13 (by decide) (fun _ => ?_) (fun h => absurd h (by decide +kernel))
      refine lv_bipush (v := (-2)) hx hb d_M_search_25 (by decide +kernel) ?_
      exact W.iret (v := (-2)) hx hb hr (fun tt hth hW => ⟨⟨_, I, rfl, (Or.inr (Or.inl ⟨h4, by first | exact fun q => hok10 q.1 | exact fun q => wg_dno1 h17 q.2 | exact fun q => wg_dno2 h22 q.2, rfl, rfl⟩)), wg_h hth hP⟩, hS.F hth⟩) hS.2.2 d_M_search_27
  · rw [wg_z0 (by omega)] at h4
    refine lv_iconst (v := (-1)) hx hb d_M_search_7 (by decide +kernel) ?_
    exact W.iret (v := (-1)) hx hb hr (fun tt hth hW => ⟨⟨_, I, rfl, (Or.inl ⟨h4, rfl, rfl⟩), wg_h hth hP⟩, hS.F hth⟩) hS.2.2 d_M_search_8
set_option maxHeartbeats 4000000 in
set_option maxRecDepth 100000 in
theorem c_M_add (l : Launch) (D : va_G) (cJ cI : ClassId) (h0 : Nat) (ad : Nat → Nat) (sz : Nat) (I : wg_S) (n : Nat) (hn64 : n < 2 ^ 64) (hI : wg_MI I) : Met l y_M_add (wg_ws y_M_add b_M_add 3 (some .int)) ({ frames := 2, cells := 0, slots := 0, locals := 44 }) (va_Pc [.ref h0, .long (lN n)] (wg_Pc D cJ cI (wg_WM cJ cI h0 ad I) sz)) (va_Qi (fun (r : Int32) (u : wg_S) => wg_AddR (I 2 0) (I 1 0) (I 0) n r ∧ wg_MI u ∧ ((¬ r = 0 ∧ u = I) ∨ (r = 0 ∧ u 1 0 = I 1 0 + 1 ∧ u 0 (I 1 0) = n ∧ (∀ k, k < I 1 0 → u 0 k = I 0 k) ∧ (∀ j, 1 < j → u j = I j) ∧ u 0 = wg_st I 0 (I 1 0) n 0))) (fun (u : wg_S) t => va_P D wg_cl (wg_WM cJ cI h0 ad u) t.heap) (va_A (wg_WM cJ cI h0 ad I) sz)) 0 0 (va_A (wg_WM cJ cI h0 ad I) sz) := by
  refine wg_head (Wd := (fun I => wg_WM cJ cI h0 ad I)) (I := I) (fun A => va_Qi (fun (r : Int32) (u : wg_S) => wg_AddR (I 2 0) (I 1 0) (I 0) n r ∧ wg_MI u ∧ ((¬ r = 0 ∧ u = I) ∨ (r = 0 ∧ u 1 0 = I 1 0 + 1 ∧ u 0 (I 1 0) = n ∧ (∀ k, k < I 1 0 → u 0 k = I 0 k) ∧ (∀ j, 1 < j → u j = I j) ∧ u 0 = wg_st I 0 (I 1 0) n 0))) (fun (u : wg_S) t => va_P D wg_cl (wg_WM cJ cI h0 ad u) t.heap) A) R_M (by decide) rfl (Nat.le_of_ble_eq_true rfl) (fun I J => wg_same_M I J) ?_
  intro p e s m below meth c A ls hx hb hr hlk hml hown hnm hts hA hK hD hP hS hl hsz
  clear hsz
  have hl : lv_has ls 3 [(0, .ref h0), (1, .long (lN n))] := hl
  have hP : va_P D wg_cl (wg_WM cJ cI h0 ad I) s.heap := hP
  skip
  have hI' := hI
  obtain ⟨hn, hse, hfd, hnd, hw, hOW, hOL⟩ := hI'
  refine lv_aload_n hx hb d_M_add_0 rfl (lv_at hl 0 rfl) ?_
  refine wg_gM hx hb hts hown hK hP 2 (by decide) (v := .int (nI (I 2 0))) kf_M_40 rfl d_M_add_1 ?_
  refine lv_if_eq (tgt := 9) hx hb d_M_add_4 (by decide) (fun h4 => ?_) (fun h4 => ?_)
  · rw [wg_z0 (by omega)] at h4
    refine lv_lload_n hx hb d_M_add_9 rfl (lv_at hl 1 rfl) ?_
    refine wg_csi (As := [.long (lN n)]) (rest := []) hx hb hml hown hts hK hP hS hA (c_M_isWord l D cJ cI _ n (by omega)) kc_M_44 ⟨rfl, rfl⟩ ⟨Nat.le_of_ble_eq_true rfl, Nat.le_of_ble_eq_true rfl⟩ rfl hl.1 rfl (Nat.le_of_ble_eq_true rfl) d_M_add_10 ⟨Nat.zero_le _, Nat.zero_le _⟩ (fun r H locs q10 hP hS => ?_)
    rcases q10 with ⟨rfl, hok10⟩ | ⟨rfl, hok10⟩
    · skip
      have hlt10 := hok10.1
      refine lv_if_ne (tgt := 19) hx hb d_M_add_13 (by decide) (fun _ => ?_) (fun h => absurd h (by decide +kernel))
      refine lv_aload_n hx hb d_M_add_19 rfl (lv_at hl 0 rfl) ?_
      refine wg_gM hx hb hts hown hK hP 1 (by decide) (v := .int (nI (I 1 0))) kf_M_32 rfl d_M_add_20 ?_
      refine lv_bipush (v := (nI 48)) hx hb d_M_add_23 (by decide +kernel) ?_
      refine lv_icmp_ne (tgt := 31) hx hb d_M_add_25 (by decide) (fun h25 => ?_) (fun h25 => ?_)
      · rw [nI_eq (by omega) (by omega)] at h25
        refine lv_aload_n hx hb d_M_add_31 rfl (lv_at hl 0 rfl) ?_
        refine wg_gM hx hb hts hown hK hP 1 (by decide) (v := .int (nI (I 1 0))) kf_M_32 rfl d_M_add_32 ?_
        refine lv_if_le (tgt := 57) hx hb d_M_add_35 (by decide) (fun h35 => ?_) (fun h35 => ?_)
        · rw [wg_le0 (by omega)] at h35
          refine lv_aload_n hx hb d_M_add_57 rfl (lv_at hl 0 rfl) ?_
          refine wg_gM hx hb hts hown hK hP 0 (by decide) (v := .ref (ad 0)) kf_M_7 rfl d_M_add_58 ?_
          refine lv_aload_n hx hb d_M_add_61 rfl (lv_at hl 0 rfl) ?_
          refine wg_gM hx hb hts hown hK hP 1 (by decide) (v := .int (nI (I 1 0))) kf_M_32 rfl d_M_add_62 ?_
          refine lv_lload_n hx hb d_M_add_65 rfl (lv_at hl 1 rfl) ?_
          refine wg_sM0 (j := (I 1 0)) (x := n) hx hb hK hP hD hS (by omega) d_M_add_66 (fun H locs hP hS => ?_)
          refine lv_aload_n hx hb d_M_add_67 rfl (lv_at hl 0 rfl) ?_
          refine lv_aload_n hx hb d_M_add_68 rfl (lv_at hl 0 rfl) ?_
          refine wg_gM hx hb hts hown hK hP 1 (by decide) (v := .int (nI (I 1 0))) kf_M_32 rfl d_M_add_69 ?_
          refine lv_iconst (v := (nI 1)) hx hb d_M_add_72 (by decide +kernel) ?_
          refine t_iadd (v := nI ((I 1 0) + 1)) hx hb d_M_add_73 (nI_add _ _) ?_
          refine wg_pM1 (v := ((I 1 0) + 1)) hx hb hts hown hK hP hD hS kf_M_32 d_M_add_74 (fun H locs hP hS => ?_)
          refine lv_iconst (v := (nI 0)) hx hb d_M_add_77 (by decide +kernel) ?_
          exact W.iret (v := (nI 0)) hx hb hr (fun tt hth hW => ⟨⟨_, (wg_st (wg_st I 0 (I 1 0) n) 1 0 ((I 1 0) + 1)), rfl, ⟨Or.inr (Or.inr (Or.inr (Or.inr ⟨h4, hok10, by omega, by first | exact Or.inl (by omega) | exact Or.inr (by omega), nI_0⟩))), wg_MI_add hI (by omega) hlt10, Or.inr ⟨nI_0, rfl, wg_st_s I 0 (I 1 0) n, fun k hk => wg_st_n I 0 (I 1 0) n (by omega), fun j h => (wg_st_o _ _ _ _ (by omega)).trans (wg_st_o _ _ _ _ (by omega)), rfl⟩⟩, wg_h hth hP⟩, hS.F hth⟩) hS.2.2 d_M_add_78
        · rw [wg_le0 (by omega)] at h35
          refine lv_lload_n hx hb d_M_add_38 rfl (lv_at hl 1 rfl) ?_
          refine lv_aload_n hx hb d_M_add_39 rfl (lv_at hl 0 rfl) ?_
          refine wg_gM hx hb hts hown hK hP 0 (by decide) (v := .ref (ad 0)) kf_M_7 rfl d_M_add_40 ?_
          refine lv_aload_n hx hb d_M_add_43 rfl (lv_at hl 0 rfl) ?_
          refine wg_gM hx hb hts hown hK hP 1 (by decide) (v := .int (nI (I 1 0))) kf_M_32 rfl d_M_add_44 ?_
          refine lv_iconst (v := (nI 1)) hx hb d_M_add_47 (by decide +kernel) ?_
          refine t_isub (v := nI ((I 1 0) - 1)) hx hb d_M_add_48 (pk_sub (by omega)) ?_
          refine wg_lld (f := I 0) (j := ((I 1 0) - 1)) hx hb hK hP 1 rfl (by omega) (by decide) d_M_add_49 ?_
          have hB49 := hw ((I 1 0) - 1) (by omega)
          refine W.lcmp hx hb d_M_add_50 ?_
          refine lv_if_gt (tgt := 57) hx hb d_M_add_51 (by decide) (fun h51 => ?_) (fun h51 => ?_)
          · rw [lg_cmp_gt] at h51
            rw [pk_lLT (by omega) (by omega)] at h51
            refine lv_aload_n hx hb d_M_add_57 rfl (lv_at hl 0 rfl) ?_
            refine wg_gM hx hb hts hown hK hP 0 (by decide) (v := .ref (ad 0)) kf_M_7 rfl d_M_add_58 ?_
            refine lv_aload_n hx hb d_M_add_61 rfl (lv_at hl 0 rfl) ?_
            refine wg_gM hx hb hts hown hK hP 1 (by decide) (v := .int (nI (I 1 0))) kf_M_32 rfl d_M_add_62 ?_
            refine lv_lload_n hx hb d_M_add_65 rfl (lv_at hl 1 rfl) ?_
            refine wg_sM0 (j := (I 1 0)) (x := n) hx hb hK hP hD hS (by omega) d_M_add_66 (fun H locs hP hS => ?_)
            refine lv_aload_n hx hb d_M_add_67 rfl (lv_at hl 0 rfl) ?_
            refine lv_aload_n hx hb d_M_add_68 rfl (lv_at hl 0 rfl) ?_
            refine wg_gM hx hb hts hown hK hP 1 (by decide) (v := .int (nI (I 1 0))) kf_M_32 rfl d_M_add_69 ?_
            refine lv_iconst (v := (nI 1)) hx hb d_M_add_72 (by decide +kernel) ?_
            refine t_iadd (v := nI ((I 1 0) + 1)) hx hb d_M_add_73 (nI_add _ _) ?_
            refine wg_pM1 (v := ((I 1 0) + 1)) hx hb hts hown hK hP hD hS kf_M_32 d_M_add_74 (fun H locs hP hS => ?_)
            refine lv_iconst (v := (nI 0)) hx hb d_M_add_77 (by decide +kernel) ?_
            exact W.iret (v := (nI 0)) hx hb hr (fun tt hth hW => ⟨⟨_, (wg_st (wg_st I 0 (I 1 0) n) 1 0 ((I 1 0) + 1)), rfl, ⟨Or.inr (Or.inr (Or.inr (Or.inr ⟨h4, hok10, by omega, by first | exact Or.inl (by omega) | exact Or.inr (by omega), nI_0⟩))), wg_MI_add hI (by omega) hlt10, Or.inr ⟨nI_0, rfl, wg_st_s I 0 (I 1 0) n, fun k hk => wg_st_n I 0 (I 1 0) n (by omega), fun j h => (wg_st_o _ _ _ _ (by omega)).trans (wg_st_o _ _ _ _ (by omega)), rfl⟩⟩, wg_h hth hP⟩, hS.F hth⟩) hS.2.2 d_M_add_78
          · rw [lg_cmp_gt] at h51
            rw [pk_lLT (by omega) (by omega)] at h51
            refine lv_bipush (v := (-4)) hx hb d_M_add_54 (by decide +kernel) ?_
            exact W.iret (v := (-4)) hx hb hr (fun tt hth hW => ⟨⟨_, I, rfl, ⟨Or.inr (Or.inr (Or.inr (Or.inl ⟨h4, hok10, by omega, by omega, by omega, rfl⟩))), hI, Or.inl ⟨by decide +kernel, rfl⟩⟩, wg_h hth hP⟩, hS.F hth⟩) hS.2.2 d_M_add_56
      · rw [nI_eq (by omega) (by omega)] at h25
        refine lv_bipush (v := (-3)) hx hb d_M_add_28 (by decide +kernel) ?_
        exact W.iret (v := (-3)) hx hb hr (fun tt hth hW => ⟨⟨_, I, rfl, ⟨Or.inr (Or.inr (Or.inl ⟨h4, hok10, by omega, rfl⟩)), hI, Or.inl ⟨by decide +kernel, rfl⟩⟩, wg_h hth hP⟩, hS.F hth⟩) hS.2.2 d_M_add_30
    · skip
      refine lv_if_ne (tgt := 19) hx hb d_M_add_13 (by decide) (fun h => absurd h (by decide +kernel)) (fun _ => ?_)
      refine lv_bipush (v := (-2)) hx hb d_M_add_16 (by decide +kernel) ?_
      exact W.iret (v := (-2)) hx hb hr (fun tt hth hW => ⟨⟨_, I, rfl, ⟨Or.inr (Or.inl ⟨h4, hok10, rfl⟩), hI, Or.inl ⟨by decide +kernel, rfl⟩⟩, wg_h hth hP⟩, hS.F hth⟩) hS.2.2 d_M_add_18
  · rw [wg_z0 (by omega)] at h4
    refine lv_iconst (v := (-1)) hx hb d_M_add_7 (by decide +kernel) ?_
    exact W.iret (v := (-1)) hx hb hr (fun tt hth hW => ⟨⟨_, I, rfl, ⟨Or.inl ⟨h4, rfl⟩, hI, Or.inl ⟨by decide +kernel, rfl⟩⟩, wg_h hth hP⟩, hS.F hth⟩) hS.2.2 d_M_add_8
end
section
set_option maxHeartbeats 4000000 in
set_option maxRecDepth 100000 in
theorem c_X_init (l : Launch) (D : va_G) (cJ cI : ClassId) (h0 sz : Nat) : Met l y_X_init (wg_ws y_X_init b_X_init 1 none) ({ frames := 1, cells := 10, slots := 2235, locals := 20 }) (va_Pc [.ref h0] (wg_Pc D cJ cI [(h0, .inr (0, wg_BX))] sz)) (va_Qv (fun (_ : Nat → Nat) => True) (fun (u : Nat → Nat) t => va_P D wg_cl (wg_WX cJ cI h0 u wg_cX) t.heap ∧ va_D (va_A [(h0, .inr (0, wg_BX))] sz) (wg_WX cJ cI h0 u wg_cX)) (va_A [(h0, .inr (0, wg_BX))] sz)) 10 2235 (va_A [(h0, .inr (0, wg_BX))] sz) := by
  refine wg_head (Wd := fun _ => [(h0, .inr (0, wg_BX))]) (I := wg_Z) (fun A => va_Qv (fun (_ : Nat → Nat) => True) (fun (u : Nat → Nat) t => va_P D wg_cl (wg_WX cJ cI h0 u wg_cX) t.heap ∧ va_D A (wg_WX cJ cI h0 u wg_cX)) A) R_X (by decide) rfl (Nat.le_of_ble_eq_true rfl) (fun _ _ => rfl) ?_
  intro p e s m below meth c A ls hx hb hr hlk hml hown hnm hts hA hK hD hP hS hl hsz
  clear hsz
  have hl : lv_has ls 1 [(0, .ref h0)] := hl
  have hD := hD wg_Z
  have hP : va_P D wg_cl [(h0, .inr (0, [.null, .null, .null, .int (nI 0), .int (nI 0), .null, .null, .null, .int (nI 0), .null, .null, .int (nI 0), .null, .null]))] s.heap := hP
  have hD : va_D A [(h0, .inr (0, [.null, .null, .null, .int (nI 0), .int (nI 0), .null, .null, .null, .int (nI 0), .null, .null, .int (nI 0), .null, .null]))] := hD
  refine lv_aload_n hx hb d_X_init_0 rfl (lv_at hl 0 rfl) ?_
  refine W.objInit hx hb hown (hts _ ko_X) (hts _ ko_inst) (hts _ ko_code) rfl (by rw [hml]; exact hl.1) rfl d_X_init_1 (Nat.le_of_ble_eq_true rfl) (Nat.le_of_ble_eq_true rfl) ?_
  refine W.eq (g2 := F0 m 4 ls []) rfl ?_
  refine lv_aload_n hx hb d_X_init_4 rfl (lv_at hl 0 rfl) ?_
  refine lv_bipush (v := nI 48) hx hb d_X_init_5 (by decide +kernel) ?_
  refine wg_newj hx hb hts ka_j hK hP hD hS hA (by decide) (Nat.le_of_ble_eq_true rfl) (Nat.le_of_ble_eq_true rfl) d_X_init_7 (fun q7 H hP hD hS => ?_)
  have hP : va_P D wg_cl [(h0, .inr (0, [.null, .null, .null, .int (nI 0), .int (nI 0), .null, .null, .null, .int (nI 0), .null, .null, .int (nI 0), .null, .null])), (q7, wg_aj cJ 48 (fun _ => 0))] H := hP
  have hD : va_D A [(h0, .inr (0, [.null, .null, .null, .int (nI 0), .int (nI 0), .null, .null, .null, .int (nI 0), .null, .null, .int (nI 0), .null, .null])), (q7, wg_aj cJ 48 (fun _ => 0))] := hD
  refine W.widen (k := 1) (n := 48) (by decide) (by decide) ?_
  refine va_putF (D := D) (ci := 0) (v := .ref q7) (ty := .array .long) (C := R_X) (T := F_X) (N := 14) hx hb hts wg_inX t_X t_X_ok n_X hown hK hP hD hS 0 rfl rfl 0 (by decide) (hts _ kf_X_9) (fun _ h9 => h9) rfl hnm rfl (by decide +kernel) rfl rfl (Nat.le_of_ble_eq_true rfl) d_X_init_9 (fun H locs hP hD hS => ?_)
  have hP : va_P D wg_cl [(h0, .inr (0, [.ref q7, .null, .null, .int (nI 0), .int (nI 0), .null, .null, .null, .int (nI 0), .null, .null, .int (nI 0), .null, .null])), (q7, wg_aj cJ 48 (fun _ => 0))] H := hP
  have hD : va_D A [(h0, .inr (0, [.ref q7, .null, .null, .int (nI 0), .int (nI 0), .null, .null, .null, .int (nI 0), .null, .null, .int (nI 0), .null, .null])), (q7, wg_aj cJ 48 (fun _ => 0))] := hD
  refine lv_aload_n hx hb d_X_init_12 rfl (lv_at hl 0 rfl) ?_
  refine lv_bipush (v := nI 48) hx hb d_X_init_13 (by decide +kernel) ?_
  refine wg_newi hx hb hts ka_i hK hP hD hS hA (by decide) (Nat.le_of_ble_eq_true rfl) (Nat.le_of_ble_eq_true rfl) d_X_init_15 (fun q15 H hP hD hS => ?_)
  have hP : va_P D wg_cl [(h0, .inr (0, [.ref q7, .null, .null, .int (nI 0), .int (nI 0), .null, .null, .null, .int (nI 0), .null, .null, .int (nI 0), .null, .null])), (q7, wg_aj cJ 48 (fun _ => 0)), (q15, wg_ai cI 48 (fun _ => 0))] H := hP
  have hD : va_D A [(h0, .inr (0, [.ref q7, .null, .null, .int (nI 0), .int (nI 0), .null, .null, .null, .int (nI 0), .null, .null, .int (nI 0), .null, .null])), (q7, wg_aj cJ 48 (fun _ => 0)), (q15, wg_ai cI 48 (fun _ => 0))] := hD
  refine W.widen (k := 2) (n := 96) (by decide) (by decide) ?_
  refine va_putF (D := D) (ci := 0) (v := .ref q15) (ty := .array .int) (C := R_X) (T := F_X) (N := 14) hx hb hts wg_inX t_X t_X_ok n_X hown hK hP hD hS 0 rfl rfl 1 (by decide) (hts _ kf_X_13) (fun _ h9 => h9) rfl hnm rfl (by decide +kernel) rfl rfl (Nat.le_of_ble_eq_true rfl) d_X_init_17 (fun H locs hP hD hS => ?_)
  have hP : va_P D wg_cl [(h0, .inr (0, [.ref q7, .ref q15, .null, .int (nI 0), .int (nI 0), .null, .null, .null, .int (nI 0), .null, .null, .int (nI 0), .null, .null])), (q7, wg_aj cJ 48 (fun _ => 0)), (q15, wg_ai cI 48 (fun _ => 0))] H := hP
  have hD : va_D A [(h0, .inr (0, [.ref q7, .ref q15, .null, .int (nI 0), .int (nI 0), .null, .null, .null, .int (nI 0), .null, .null, .int (nI 0), .null, .null])), (q7, wg_aj cJ 48 (fun _ => 0)), (q15, wg_ai cI 48 (fun _ => 0))] := hD
  refine lv_aload_n hx hb d_X_init_20 rfl (lv_at hl 0 rfl) ?_
  refine lv_bipush (v := nI 48) hx hb d_X_init_21 (by decide +kernel) ?_
  refine wg_newi hx hb hts ka_i hK hP hD hS hA (by decide) (Nat.le_of_ble_eq_true rfl) (Nat.le_of_ble_eq_true rfl) d_X_init_23 (fun q23 H hP hD hS => ?_)
  have hP : va_P D wg_cl [(h0, .inr (0, [.ref q7, .ref q15, .null, .int (nI 0), .int (nI 0), .null, .null, .null, .int (nI 0), .null, .null, .int (nI 0), .null, .null])), (q7, wg_aj cJ 48 (fun _ => 0)), (q15, wg_ai cI 48 (fun _ => 0)), (q23, wg_ai cI 48 (fun _ => 0))] H := hP
  have hD : va_D A [(h0, .inr (0, [.ref q7, .ref q15, .null, .int (nI 0), .int (nI 0), .null, .null, .null, .int (nI 0), .null, .null, .int (nI 0), .null, .null])), (q7, wg_aj cJ 48 (fun _ => 0)), (q15, wg_ai cI 48 (fun _ => 0)), (q23, wg_ai cI 48 (fun _ => 0))] := hD
  refine W.widen (k := 3) (n := 144) (by decide) (by decide) ?_
  refine va_putF (D := D) (ci := 0) (v := .ref q23) (ty := .array .int) (C := R_X) (T := F_X) (N := 14) hx hb hts wg_inX t_X t_X_ok n_X hown hK hP hD hS 0 rfl rfl 2 (by decide) (hts _ kf_X_17) (fun _ h9 => h9) rfl hnm rfl (by decide +kernel) rfl rfl (Nat.le_of_ble_eq_true rfl) d_X_init_25 (fun H locs hP hD hS => ?_)
  have hP : va_P D wg_cl [(h0, .inr (0, [.ref q7, .ref q15, .ref q23, .int (nI 0), .int (nI 0), .null, .null, .null, .int (nI 0), .null, .null, .int (nI 0), .null, .null])), (q7, wg_aj cJ 48 (fun _ => 0)), (q15, wg_ai cI 48 (fun _ => 0)), (q23, wg_ai cI 48 (fun _ => 0))] H := hP
  have hD : va_D A [(h0, .inr (0, [.ref q7, .ref q15, .ref q23, .int (nI 0), .int (nI 0), .null, .null, .null, .int (nI 0), .null, .null, .int (nI 0), .null, .null])), (q7, wg_aj cJ 48 (fun _ => 0)), (q15, wg_ai cI 48 (fun _ => 0)), (q23, wg_ai cI 48 (fun _ => 0))] := hD
  refine lv_aload_n hx hb d_X_init_28 rfl (lv_at hl 0 rfl) ?_
  refine lv_sipush (v := nI 624) hx hb d_X_init_29 (by decide +kernel) ?_
  refine wg_newi hx hb hts ka_i hK hP hD hS hA (by decide) (Nat.le_of_ble_eq_true rfl) (Nat.le_of_ble_eq_true rfl) d_X_init_32 (fun q32 H hP hD hS => ?_)
  have hP : va_P D wg_cl [(h0, .inr (0, [.ref q7, .ref q15, .ref q23, .int (nI 0), .int (nI 0), .null, .null, .null, .int (nI 0), .null, .null, .int (nI 0), .null, .null])), (q7, wg_aj cJ 48 (fun _ => 0)), (q15, wg_ai cI 48 (fun _ => 0)), (q23, wg_ai cI 48 (fun _ => 0)), (q32, wg_ai cI 624 (fun _ => 0))] H := hP
  have hD : va_D A [(h0, .inr (0, [.ref q7, .ref q15, .ref q23, .int (nI 0), .int (nI 0), .null, .null, .null, .int (nI 0), .null, .null, .int (nI 0), .null, .null])), (q7, wg_aj cJ 48 (fun _ => 0)), (q15, wg_ai cI 48 (fun _ => 0)), (q23, wg_ai cI 48 (fun _ => 0)), (q32, wg_ai cI 624 (fun _ => 0))] := hD
  refine W.widen (k := 4) (n := 768) (by decide) (by decide) ?_
  refine va_putF (D := D) (ci := 0) (v := .ref q32) (ty := .array .int) (C := R_X) (T := F_X) (N := 14) hx hb hts wg_inX t_X t_X_ok n_X hown hK hP hD hS 0 rfl rfl 5 (by decide) (hts _ kf_X_20) (fun _ h9 => h9) rfl hnm rfl (by decide +kernel) rfl rfl (Nat.le_of_ble_eq_true rfl) d_X_init_34 (fun H locs hP hD hS => ?_)
  have hP : va_P D wg_cl [(h0, .inr (0, [.ref q7, .ref q15, .ref q23, .int (nI 0), .int (nI 0), .ref q32, .null, .null, .int (nI 0), .null, .null, .int (nI 0), .null, .null])), (q7, wg_aj cJ 48 (fun _ => 0)), (q15, wg_ai cI 48 (fun _ => 0)), (q23, wg_ai cI 48 (fun _ => 0)), (q32, wg_ai cI 624 (fun _ => 0))] H := hP
  have hD : va_D A [(h0, .inr (0, [.ref q7, .ref q15, .ref q23, .int (nI 0), .int (nI 0), .ref q32, .null, .null, .int (nI 0), .null, .null, .int (nI 0), .null, .null])), (q7, wg_aj cJ 48 (fun _ => 0)), (q15, wg_ai cI 48 (fun _ => 0)), (q23, wg_ai cI 48 (fun _ => 0)), (q32, wg_ai cI 624 (fun _ => 0))] := hD
  refine lv_aload_n hx hb d_X_init_37 rfl (lv_at hl 0 rfl) ?_
  refine lv_sipush (v := nI 577) hx hb d_X_init_38 (by decide +kernel) ?_
  refine wg_newi hx hb hts ka_i hK hP hD hS hA (by decide) (Nat.le_of_ble_eq_true rfl) (Nat.le_of_ble_eq_true rfl) d_X_init_41 (fun q41 H hP hD hS => ?_)
  have hP : va_P D wg_cl [(h0, .inr (0, [.ref q7, .ref q15, .ref q23, .int (nI 0), .int (nI 0), .ref q32, .null, .null, .int (nI 0), .null, .null, .int (nI 0), .null, .null])), (q7, wg_aj cJ 48 (fun _ => 0)), (q15, wg_ai cI 48 (fun _ => 0)), (q23, wg_ai cI 48 (fun _ => 0)), (q32, wg_ai cI 624 (fun _ => 0)), (q41, wg_ai cI 577 (fun _ => 0))] H := hP
  have hD : va_D A [(h0, .inr (0, [.ref q7, .ref q15, .ref q23, .int (nI 0), .int (nI 0), .ref q32, .null, .null, .int (nI 0), .null, .null, .int (nI 0), .null, .null])), (q7, wg_aj cJ 48 (fun _ => 0)), (q15, wg_ai cI 48 (fun _ => 0)), (q23, wg_ai cI 48 (fun _ => 0)), (q32, wg_ai cI 624 (fun _ => 0)), (q41, wg_ai cI 577 (fun _ => 0))] := hD
  refine W.widen (k := 5) (n := 1345) (by decide) (by decide) ?_
  refine va_putF (D := D) (ci := 0) (v := .ref q41) (ty := .array .int) (C := R_X) (T := F_X) (N := 14) hx hb hts wg_inX t_X t_X_ok n_X hown hK hP hD hS 0 rfl rfl 6 (by decide) (hts _ kf_X_23) (fun _ h9 => h9) rfl hnm rfl (by decide +kernel) rfl rfl (Nat.le_of_ble_eq_true rfl) d_X_init_43 (fun H locs hP hD hS => ?_)
  have hP : va_P D wg_cl [(h0, .inr (0, [.ref q7, .ref q15, .ref q23, .int (nI 0), .int (nI 0), .ref q32, .ref q41, .null, .int (nI 0), .null, .null, .int (nI 0), .null, .null])), (q7, wg_aj cJ 48 (fun _ => 0)), (q15, wg_ai cI 48 (fun _ => 0)), (q23, wg_ai cI 48 (fun _ => 0)), (q32, wg_ai cI 624 (fun _ => 0)), (q41, wg_ai cI 577 (fun _ => 0))] H := hP
  have hD : va_D A [(h0, .inr (0, [.ref q7, .ref q15, .ref q23, .int (nI 0), .int (nI 0), .ref q32, .ref q41, .null, .int (nI 0), .null, .null, .int (nI 0), .null, .null])), (q7, wg_aj cJ 48 (fun _ => 0)), (q15, wg_ai cI 48 (fun _ => 0)), (q23, wg_ai cI 48 (fun _ => 0)), (q32, wg_ai cI 624 (fun _ => 0)), (q41, wg_ai cI 577 (fun _ => 0))] := hD
  refine lv_aload_n hx hb d_X_init_46 rfl (lv_at hl 0 rfl) ?_
  refine lv_sipush (v := nI 577) hx hb d_X_init_47 (by decide +kernel) ?_
  refine wg_newi hx hb hts ka_i hK hP hD hS hA (by decide) (Nat.le_of_ble_eq_true rfl) (Nat.le_of_ble_eq_true rfl) d_X_init_50 (fun q50 H hP hD hS => ?_)
  have hP : va_P D wg_cl [(h0, .inr (0, [.ref q7, .ref q15, .ref q23, .int (nI 0), .int (nI 0), .ref q32, .ref q41, .null, .int (nI 0), .null, .null, .int (nI 0), .null, .null])), (q7, wg_aj cJ 48 (fun _ => 0)), (q15, wg_ai cI 48 (fun _ => 0)), (q23, wg_ai cI 48 (fun _ => 0)), (q32, wg_ai cI 624 (fun _ => 0)), (q41, wg_ai cI 577 (fun _ => 0)), (q50, wg_ai cI 577 (fun _ => 0))] H := hP
  have hD : va_D A [(h0, .inr (0, [.ref q7, .ref q15, .ref q23, .int (nI 0), .int (nI 0), .ref q32, .ref q41, .null, .int (nI 0), .null, .null, .int (nI 0), .null, .null])), (q7, wg_aj cJ 48 (fun _ => 0)), (q15, wg_ai cI 48 (fun _ => 0)), (q23, wg_ai cI 48 (fun _ => 0)), (q32, wg_ai cI 624 (fun _ => 0)), (q41, wg_ai cI 577 (fun _ => 0)), (q50, wg_ai cI 577 (fun _ => 0))] := hD
  refine W.widen (k := 6) (n := 1922) (by decide) (by decide) ?_
  refine va_putF (D := D) (ci := 0) (v := .ref q50) (ty := .array .int) (C := R_X) (T := F_X) (N := 14) hx hb hts wg_inX t_X t_X_ok n_X hown hK hP hD hS 0 rfl rfl 7 (by decide) (hts _ kf_X_26) (fun _ h9 => h9) rfl hnm rfl (by decide +kernel) rfl rfl (Nat.le_of_ble_eq_true rfl) d_X_init_52 (fun H locs hP hD hS => ?_)
  have hP : va_P D wg_cl [(h0, .inr (0, [.ref q7, .ref q15, .ref q23, .int (nI 0), .int (nI 0), .ref q32, .ref q41, .ref q50, .int (nI 0), .null, .null, .int (nI 0), .null, .null])), (q7, wg_aj cJ 48 (fun _ => 0)), (q15, wg_ai cI 48 (fun _ => 0)), (q23, wg_ai cI 48 (fun _ => 0)), (q32, wg_ai cI 624 (fun _ => 0)), (q41, wg_ai cI 577 (fun _ => 0)), (q50, wg_ai cI 577 (fun _ => 0))] H := hP
  have hD : va_D A [(h0, .inr (0, [.ref q7, .ref q15, .ref q23, .int (nI 0), .int (nI 0), .ref q32, .ref q41, .ref q50, .int (nI 0), .null, .null, .int (nI 0), .null, .null])), (q7, wg_aj cJ 48 (fun _ => 0)), (q15, wg_ai cI 48 (fun _ => 0)), (q23, wg_ai cI 48 (fun _ => 0)), (q32, wg_ai cI 624 (fun _ => 0)), (q41, wg_ai cI 577 (fun _ => 0)), (q50, wg_ai cI 577 (fun _ => 0))] := hD
  refine lv_aload_n hx hb d_X_init_55 rfl (lv_at hl 0 rfl) ?_
  refine lv_bipush (v := nI 48) hx hb d_X_init_56 (by decide +kernel) ?_
  refine wg_newi hx hb hts ka_i hK hP hD hS hA (by decide) (Nat.le_of_ble_eq_true rfl) (Nat.le_of_ble_eq_true rfl) d_X_init_58 (fun q58 H hP hD hS => ?_)
  have hP : va_P D wg_cl [(h0, .inr (0, [.ref q7, .ref q15, .ref q23, .int (nI 0), .int (nI 0), .ref q32, .ref q41, .ref q50, .int (nI 0), .null, .null, .int (nI 0), .null, .null])), (q7, wg_aj cJ 48 (fun _ => 0)), (q15, wg_ai cI 48 (fun _ => 0)), (q23, wg_ai cI 48 (fun _ => 0)), (q32, wg_ai cI 624 (fun _ => 0)), (q41, wg_ai cI 577 (fun _ => 0)), (q50, wg_ai cI 577 (fun _ => 0)), (q58, wg_ai cI 48 (fun _ => 0))] H := hP
  have hD : va_D A [(h0, .inr (0, [.ref q7, .ref q15, .ref q23, .int (nI 0), .int (nI 0), .ref q32, .ref q41, .ref q50, .int (nI 0), .null, .null, .int (nI 0), .null, .null])), (q7, wg_aj cJ 48 (fun _ => 0)), (q15, wg_ai cI 48 (fun _ => 0)), (q23, wg_ai cI 48 (fun _ => 0)), (q32, wg_ai cI 624 (fun _ => 0)), (q41, wg_ai cI 577 (fun _ => 0)), (q50, wg_ai cI 577 (fun _ => 0)), (q58, wg_ai cI 48 (fun _ => 0))] := hD
  refine W.widen (k := 7) (n := 1970) (by decide) (by decide) ?_
  refine va_putF (D := D) (ci := 0) (v := .ref q58) (ty := .array .int) (C := R_X) (T := F_X) (N := 14) hx hb hts wg_inX t_X t_X_ok n_X hown hK hP hD hS 0 rfl rfl 9 (by decide) (hts _ kf_X_29) (fun _ h9 => h9) rfl hnm rfl (by decide +kernel) rfl rfl (Nat.le_of_ble_eq_true rfl) d_X_init_60 (fun H locs hP hD hS => ?_)
  have hP : va_P D wg_cl [(h0, .inr (0, [.ref q7, .ref q15, .ref q23, .int (nI 0), .int (nI 0), .ref q32, .ref q41, .ref q50, .int (nI 0), .ref q58, .null, .int (nI 0), .null, .null])), (q7, wg_aj cJ 48 (fun _ => 0)), (q15, wg_ai cI 48 (fun _ => 0)), (q23, wg_ai cI 48 (fun _ => 0)), (q32, wg_ai cI 624 (fun _ => 0)), (q41, wg_ai cI 577 (fun _ => 0)), (q50, wg_ai cI 577 (fun _ => 0)), (q58, wg_ai cI 48 (fun _ => 0))] H := hP
  have hD : va_D A [(h0, .inr (0, [.ref q7, .ref q15, .ref q23, .int (nI 0), .int (nI 0), .ref q32, .ref q41, .ref q50, .int (nI 0), .ref q58, .null, .int (nI 0), .null, .null])), (q7, wg_aj cJ 48 (fun _ => 0)), (q15, wg_ai cI 48 (fun _ => 0)), (q23, wg_ai cI 48 (fun _ => 0)), (q32, wg_ai cI 624 (fun _ => 0)), (q41, wg_ai cI 577 (fun _ => 0)), (q50, wg_ai cI 577 (fun _ => 0)), (q58, wg_ai cI 48 (fun _ => 0))] := hD
  refine lv_aload_n hx hb d_X_init_63 rfl (lv_at hl 0 rfl) ?_
  refine lv_bipush (v := nI 48) hx hb d_X_init_64 (by decide +kernel) ?_
  refine wg_newi hx hb hts ka_i hK hP hD hS hA (by decide) (Nat.le_of_ble_eq_true rfl) (Nat.le_of_ble_eq_true rfl) d_X_init_66 (fun q66 H hP hD hS => ?_)
  have hP : va_P D wg_cl [(h0, .inr (0, [.ref q7, .ref q15, .ref q23, .int (nI 0), .int (nI 0), .ref q32, .ref q41, .ref q50, .int (nI 0), .ref q58, .null, .int (nI 0), .null, .null])), (q7, wg_aj cJ 48 (fun _ => 0)), (q15, wg_ai cI 48 (fun _ => 0)), (q23, wg_ai cI 48 (fun _ => 0)), (q32, wg_ai cI 624 (fun _ => 0)), (q41, wg_ai cI 577 (fun _ => 0)), (q50, wg_ai cI 577 (fun _ => 0)), (q58, wg_ai cI 48 (fun _ => 0)), (q66, wg_ai cI 48 (fun _ => 0))] H := hP
  have hD : va_D A [(h0, .inr (0, [.ref q7, .ref q15, .ref q23, .int (nI 0), .int (nI 0), .ref q32, .ref q41, .ref q50, .int (nI 0), .ref q58, .null, .int (nI 0), .null, .null])), (q7, wg_aj cJ 48 (fun _ => 0)), (q15, wg_ai cI 48 (fun _ => 0)), (q23, wg_ai cI 48 (fun _ => 0)), (q32, wg_ai cI 624 (fun _ => 0)), (q41, wg_ai cI 577 (fun _ => 0)), (q50, wg_ai cI 577 (fun _ => 0)), (q58, wg_ai cI 48 (fun _ => 0)), (q66, wg_ai cI 48 (fun _ => 0))] := hD
  refine W.widen (k := 8) (n := 2018) (by decide) (by decide) ?_
  refine va_putF (D := D) (ci := 0) (v := .ref q66) (ty := .array .int) (C := R_X) (T := F_X) (N := 14) hx hb hts wg_inX t_X t_X_ok n_X hown hK hP hD hS 0 rfl rfl 10 (by decide) (hts _ kf_X_32) (fun _ h9 => h9) rfl hnm rfl (by decide +kernel) rfl rfl (Nat.le_of_ble_eq_true rfl) d_X_init_68 (fun H locs hP hD hS => ?_)
  have hP : va_P D wg_cl [(h0, .inr (0, [.ref q7, .ref q15, .ref q23, .int (nI 0), .int (nI 0), .ref q32, .ref q41, .ref q50, .int (nI 0), .ref q58, .ref q66, .int (nI 0), .null, .null])), (q7, wg_aj cJ 48 (fun _ => 0)), (q15, wg_ai cI 48 (fun _ => 0)), (q23, wg_ai cI 48 (fun _ => 0)), (q32, wg_ai cI 624 (fun _ => 0)), (q41, wg_ai cI 577 (fun _ => 0)), (q50, wg_ai cI 577 (fun _ => 0)), (q58, wg_ai cI 48 (fun _ => 0)), (q66, wg_ai cI 48 (fun _ => 0))] H := hP
  have hD : va_D A [(h0, .inr (0, [.ref q7, .ref q15, .ref q23, .int (nI 0), .int (nI 0), .ref q32, .ref q41, .ref q50, .int (nI 0), .ref q58, .ref q66, .int (nI 0), .null, .null])), (q7, wg_aj cJ 48 (fun _ => 0)), (q15, wg_ai cI 48 (fun _ => 0)), (q23, wg_ai cI 48 (fun _ => 0)), (q32, wg_ai cI 624 (fun _ => 0)), (q41, wg_ai cI 577 (fun _ => 0)), (q50, wg_ai cI 577 (fun _ => 0)), (q58, wg_ai cI 48 (fun _ => 0)), (q66, wg_ai cI 48 (fun _ => 0))] := hD
  refine lv_aload_n hx hb d_X_init_71 rfl (lv_at hl 0 rfl) ?_
  refine lv_sipush (v := nI 169) hx hb d_X_init_72 (by decide +kernel) ?_
  refine wg_newi hx hb hts ka_i hK hP hD hS hA (by decide) (Nat.le_of_ble_eq_true rfl) (Nat.le_of_ble_eq_true rfl) d_X_init_75 (fun q75 H hP hD hS => ?_)
  have hP : va_P D wg_cl [(h0, .inr (0, [.ref q7, .ref q15, .ref q23, .int (nI 0), .int (nI 0), .ref q32, .ref q41, .ref q50, .int (nI 0), .ref q58, .ref q66, .int (nI 0), .null, .null])), (q7, wg_aj cJ 48 (fun _ => 0)), (q15, wg_ai cI 48 (fun _ => 0)), (q23, wg_ai cI 48 (fun _ => 0)), (q32, wg_ai cI 624 (fun _ => 0)), (q41, wg_ai cI 577 (fun _ => 0)), (q50, wg_ai cI 577 (fun _ => 0)), (q58, wg_ai cI 48 (fun _ => 0)), (q66, wg_ai cI 48 (fun _ => 0)), (q75, wg_ai cI 169 (fun _ => 0))] H := hP
  have hD : va_D A [(h0, .inr (0, [.ref q7, .ref q15, .ref q23, .int (nI 0), .int (nI 0), .ref q32, .ref q41, .ref q50, .int (nI 0), .ref q58, .ref q66, .int (nI 0), .null, .null])), (q7, wg_aj cJ 48 (fun _ => 0)), (q15, wg_ai cI 48 (fun _ => 0)), (q23, wg_ai cI 48 (fun _ => 0)), (q32, wg_ai cI 624 (fun _ => 0)), (q41, wg_ai cI 577 (fun _ => 0)), (q50, wg_ai cI 577 (fun _ => 0)), (q58, wg_ai cI 48 (fun _ => 0)), (q66, wg_ai cI 48 (fun _ => 0)), (q75, wg_ai cI 169 (fun _ => 0))] := hD
  refine W.widen (k := 9) (n := 2187) (by decide) (by decide) ?_
  refine va_putF (D := D) (ci := 0) (v := .ref q75) (ty := .array .int) (C := R_X) (T := F_X) (N := 14) hx hb hts wg_inX t_X t_X_ok n_X hown hK hP hD hS 0 rfl rfl 12 (by decide) (hts _ kf_X_35) (fun _ h9 => h9) rfl hnm rfl (by decide +kernel) rfl rfl (Nat.le_of_ble_eq_true rfl) d_X_init_77 (fun H locs hP hD hS => ?_)
  have hP : va_P D wg_cl [(h0, .inr (0, [.ref q7, .ref q15, .ref q23, .int (nI 0), .int (nI 0), .ref q32, .ref q41, .ref q50, .int (nI 0), .ref q58, .ref q66, .int (nI 0), .ref q75, .null])), (q7, wg_aj cJ 48 (fun _ => 0)), (q15, wg_ai cI 48 (fun _ => 0)), (q23, wg_ai cI 48 (fun _ => 0)), (q32, wg_ai cI 624 (fun _ => 0)), (q41, wg_ai cI 577 (fun _ => 0)), (q50, wg_ai cI 577 (fun _ => 0)), (q58, wg_ai cI 48 (fun _ => 0)), (q66, wg_ai cI 48 (fun _ => 0)), (q75, wg_ai cI 169 (fun _ => 0))] H := hP
  have hD : va_D A [(h0, .inr (0, [.ref q7, .ref q15, .ref q23, .int (nI 0), .int (nI 0), .ref q32, .ref q41, .ref q50, .int (nI 0), .ref q58, .ref q66, .int (nI 0), .ref q75, .null])), (q7, wg_aj cJ 48 (fun _ => 0)), (q15, wg_ai cI 48 (fun _ => 0)), (q23, wg_ai cI 48 (fun _ => 0)), (q32, wg_ai cI 624 (fun _ => 0)), (q41, wg_ai cI 577 (fun _ => 0)), (q50, wg_ai cI 577 (fun _ => 0)), (q58, wg_ai cI 48 (fun _ => 0)), (q66, wg_ai cI 48 (fun _ => 0)), (q75, wg_ai cI 169 (fun _ => 0))] := hD
  refine lv_aload_n hx hb d_X_init_80 rfl (lv_at hl 0 rfl) ?_
  refine lv_bipush (v := nI 48) hx hb d_X_init_81 (by decide +kernel) ?_
  refine wg_newi hx hb hts ka_i hK hP hD hS hA (by decide) (Nat.le_of_ble_eq_true rfl) (Nat.le_of_ble_eq_true rfl) d_X_init_83 (fun q83 H hP hD hS => ?_)
  have hP : va_P D wg_cl [(h0, .inr (0, [.ref q7, .ref q15, .ref q23, .int (nI 0), .int (nI 0), .ref q32, .ref q41, .ref q50, .int (nI 0), .ref q58, .ref q66, .int (nI 0), .ref q75, .null])), (q7, wg_aj cJ 48 (fun _ => 0)), (q15, wg_ai cI 48 (fun _ => 0)), (q23, wg_ai cI 48 (fun _ => 0)), (q32, wg_ai cI 624 (fun _ => 0)), (q41, wg_ai cI 577 (fun _ => 0)), (q50, wg_ai cI 577 (fun _ => 0)), (q58, wg_ai cI 48 (fun _ => 0)), (q66, wg_ai cI 48 (fun _ => 0)), (q75, wg_ai cI 169 (fun _ => 0)), (q83, wg_ai cI 48 (fun _ => 0))] H := hP
  have hD : va_D A [(h0, .inr (0, [.ref q7, .ref q15, .ref q23, .int (nI 0), .int (nI 0), .ref q32, .ref q41, .ref q50, .int (nI 0), .ref q58, .ref q66, .int (nI 0), .ref q75, .null])), (q7, wg_aj cJ 48 (fun _ => 0)), (q15, wg_ai cI 48 (fun _ => 0)), (q23, wg_ai cI 48 (fun _ => 0)), (q32, wg_ai cI 624 (fun _ => 0)), (q41, wg_ai cI 577 (fun _ => 0)), (q50, wg_ai cI 577 (fun _ => 0)), (q58, wg_ai cI 48 (fun _ => 0)), (q66, wg_ai cI 48 (fun _ => 0)), (q75, wg_ai cI 169 (fun _ => 0)), (q83, wg_ai cI 48 (fun _ => 0))] := hD
  refine W.widen (k := 10) (n := 2235) (by decide) (by decide) ?_
  refine va_putF (D := D) (ci := 0) (v := .ref q83) (ty := .array .int) (C := R_X) (T := F_X) (N := 14) hx hb hts wg_inX t_X t_X_ok n_X hown hK hP hD hS 0 rfl rfl 13 (by decide) (hts _ kf_X_38) (fun _ h9 => h9) rfl hnm rfl (by decide +kernel) rfl rfl (Nat.le_of_ble_eq_true rfl) d_X_init_85 (fun H locs hP hD hS => ?_)
  have hP : va_P D wg_cl [(h0, .inr (0, [.ref q7, .ref q15, .ref q23, .int (nI 0), .int (nI 0), .ref q32, .ref q41, .ref q50, .int (nI 0), .ref q58, .ref q66, .int (nI 0), .ref q75, .ref q83])), (q7, wg_aj cJ 48 (fun _ => 0)), (q15, wg_ai cI 48 (fun _ => 0)), (q23, wg_ai cI 48 (fun _ => 0)), (q32, wg_ai cI 624 (fun _ => 0)), (q41, wg_ai cI 577 (fun _ => 0)), (q50, wg_ai cI 577 (fun _ => 0)), (q58, wg_ai cI 48 (fun _ => 0)), (q66, wg_ai cI 48 (fun _ => 0)), (q75, wg_ai cI 169 (fun _ => 0)), (q83, wg_ai cI 48 (fun _ => 0))] H := hP
  have hD : va_D A [(h0, .inr (0, [.ref q7, .ref q15, .ref q23, .int (nI 0), .int (nI 0), .ref q32, .ref q41, .ref q50, .int (nI 0), .ref q58, .ref q66, .int (nI 0), .ref q75, .ref q83])), (q7, wg_aj cJ 48 (fun _ => 0)), (q15, wg_ai cI 48 (fun _ => 0)), (q23, wg_ai cI 48 (fun _ => 0)), (q32, wg_ai cI 624 (fun _ => 0)), (q41, wg_ai cI 577 (fun _ => 0)), (q50, wg_ai cI 577 (fun _ => 0)), (q58, wg_ai cI 48 (fun _ => 0)), (q66, wg_ai cI 48 (fun _ => 0)), (q75, wg_ai cI 169 (fun _ => 0)), (q83, wg_ai cI 48 (fun _ => 0))] := hD
  refine lv_aload_n hx hb d_X_init_88 rfl (lv_at hl 0 rfl) ?_
  obtain ⟨ad, had⟩ : ∃ ad : Nat → Nat, ad = fun k => match k with | 0 => q7 | 1 => q15 | 2 => q23 | 5 => q32 | 6 => q41 | 7 => q50 | 9 => q58 | 10 => q66 | 12 => q75 | 13 => q83 | _ => 0 := ⟨_, rfl⟩
  have ea0 : q7 = ad 0 := (congrFun had 0).symm
  have ea1 : q15 = ad 1 := (congrFun had 1).symm
  have ea2 : q23 = ad 2 := (congrFun had 2).symm
  have ea5 : q32 = ad 5 := (congrFun had 5).symm
  have ea6 : q41 = ad 6 := (congrFun had 6).symm
  have ea7 : q50 = ad 7 := (congrFun had 7).symm
  have ea9 : q58 = ad 9 := (congrFun had 9).symm
  have ea10 : q66 = ad 10 := (congrFun had 10).symm
  have ea12 : q75 = ad 12 := (congrFun had 12).symm
  have ea13 : q83 = ad 13 := (congrFun had 13).symm
  clear had
  subst ea0 ea1 ea2 ea5 ea6 ea7 ea9 ea10 ea12 ea13
  have hP : va_P D wg_cl (wg_WX cJ cI h0 ad wg_Z) H := hP
  have hD : ∀ J, va_D A (wg_WX cJ cI h0 ad J) := fun J => wg_same_D (w1 := wg_WX cJ cI h0 ad wg_Z) rfl hD
  refine wg_cvv (As := []) (rest := []) hx hb hml hown hts hK hP (hD _) hS hA rfl rfl rfl (c_X_clear l D cJ cI h0 ad _ wg_Z) kc_X_41 ⟨rfl, rfl⟩ ⟨Nat.le_of_ble_eq_true rfl, Nat.le_of_ble_eq_true rfl⟩ rfl hl.1 rfl (Nat.le_of_ble_eq_true rfl) d_X_init_89 ⟨Nat.le_of_ble_eq_true rfl, Nat.le_of_ble_eq_true rfl⟩ (fun u t H locs ht hq hB _ _ hS => ?_)
  obtain rfl := hq
  have hP : va_P D wg_cl (wg_WX cJ cI h0 ad wg_cX) H := by rw [← ht]; exact hB
  clear hB ht t
  exact W.vret hx hb hr (fun t ht hW => ⟨⟨ad, rfl, trivial, wg_h ht hP, hD _⟩, hS.F ht⟩) hS.2.2 d_X_init_92
set_option maxHeartbeats 4000000 in
set_option maxRecDepth 100000 in
theorem c_M_init (l : Launch) (D : va_G) (cJ cI : ClassId) (h0 sz : Nat) : Met l y_M_init (wg_ws y_M_init b_M_init 1 none) ({ frames := 1, cells := 7, slots := 2187, locals := 12 }) (va_Pc [.ref h0] (wg_Pc D cJ cI [(h0, .inr (1, wg_BM))] sz)) (va_Qv (fun (_ : Nat → Nat) => True) (fun (u : Nat → Nat) t => va_P D wg_cl (wg_WM cJ cI h0 u wg_cM) t.heap ∧ va_D (va_A [(h0, .inr (1, wg_BM))] sz) (wg_WM cJ cI h0 u wg_cM)) (va_A [(h0, .inr (1, wg_BM))] sz)) 7 2187 (va_A [(h0, .inr (1, wg_BM))] sz) := by
  refine wg_head (Wd := fun _ => [(h0, .inr (1, wg_BM))]) (I := wg_Z) (fun A => va_Qv (fun (_ : Nat → Nat) => True) (fun (u : Nat → Nat) t => va_P D wg_cl (wg_WM cJ cI h0 u wg_cM) t.heap ∧ va_D A (wg_WM cJ cI h0 u wg_cM)) A) R_M (by decide) rfl (Nat.le_of_ble_eq_true rfl) (fun _ _ => rfl) ?_
  intro p e s m below meth c A ls hx hb hr hlk hml hown hnm hts hA hK hD hP hS hl hsz
  clear hsz
  have hl : lv_has ls 1 [(0, .ref h0)] := hl
  have hD := hD wg_Z
  have hP : va_P D wg_cl [(h0, .inr (1, [.null, .int (nI 0), .int (nI 0), .int (nI 0), .null, .null, .null, .null, .null, .int (nI 0), .null]))] s.heap := hP
  have hD : va_D A [(h0, .inr (1, [.null, .int (nI 0), .int (nI 0), .int (nI 0), .null, .null, .null, .null, .null, .int (nI 0), .null]))] := hD
  refine lv_aload_n hx hb d_M_init_0 rfl (lv_at hl 0 rfl) ?_
  refine W.objInit hx hb hown (hts _ ko_M) (hts _ ko_inst) (hts _ ko_code) rfl (by rw [hml]; exact hl.1) rfl d_M_init_1 (Nat.le_of_ble_eq_true rfl) (Nat.le_of_ble_eq_true rfl) ?_
  refine W.eq (g2 := F0 m 4 ls []) rfl ?_
  refine lv_aload_n hx hb d_M_init_4 rfl (lv_at hl 0 rfl) ?_
  refine lv_bipush (v := nI 48) hx hb d_M_init_5 (by decide +kernel) ?_
  refine wg_newj hx hb hts ka_j hK hP hD hS hA (by decide) (Nat.le_of_ble_eq_true rfl) (Nat.le_of_ble_eq_true rfl) d_M_init_7 (fun q7 H hP hD hS => ?_)
  have hP : va_P D wg_cl [(h0, .inr (1, [.null, .int (nI 0), .int (nI 0), .int (nI 0), .null, .null, .null, .null, .null, .int (nI 0), .null])), (q7, wg_aj cJ 48 (fun _ => 0))] H := hP
  have hD : va_D A [(h0, .inr (1, [.null, .int (nI 0), .int (nI 0), .int (nI 0), .null, .null, .null, .null, .null, .int (nI 0), .null])), (q7, wg_aj cJ 48 (fun _ => 0))] := hD
  refine W.widen (k := 1) (n := 48) (by decide) (by decide) ?_
  refine va_putF (D := D) (ci := 1) (v := .ref q7) (ty := .array .long) (C := R_M) (T := F_M) (N := 11) hx hb hts wg_inM t_M t_M_ok n_M hown hK hP hD hS 0 rfl rfl 0 (by decide) (hts _ kf_M_7) (fun _ h9 => h9) rfl hnm rfl (by decide +kernel) rfl rfl (Nat.le_of_ble_eq_true rfl) d_M_init_9 (fun H locs hP hD hS => ?_)
  have hP : va_P D wg_cl [(h0, .inr (1, [.ref q7, .int (nI 0), .int (nI 0), .int (nI 0), .null, .null, .null, .null, .null, .int (nI 0), .null])), (q7, wg_aj cJ 48 (fun _ => 0))] H := hP
  have hD : va_D A [(h0, .inr (1, [.ref q7, .int (nI 0), .int (nI 0), .int (nI 0), .null, .null, .null, .null, .null, .int (nI 0), .null])), (q7, wg_aj cJ 48 (fun _ => 0))] := hD
  refine lv_aload_n hx hb d_M_init_12 rfl (lv_at hl 0 rfl) ?_
  refine lv_bipush (v := nI 48) hx hb d_M_init_13 (by decide +kernel) ?_
  refine wg_newi hx hb hts ka_i hK hP hD hS hA (by decide) (Nat.le_of_ble_eq_true rfl) (Nat.le_of_ble_eq_true rfl) d_M_init_15 (fun q15 H hP hD hS => ?_)
  have hP : va_P D wg_cl [(h0, .inr (1, [.ref q7, .int (nI 0), .int (nI 0), .int (nI 0), .null, .null, .null, .null, .null, .int (nI 0), .null])), (q7, wg_aj cJ 48 (fun _ => 0)), (q15, wg_ai cI 48 (fun _ => 0))] H := hP
  have hD : va_D A [(h0, .inr (1, [.ref q7, .int (nI 0), .int (nI 0), .int (nI 0), .null, .null, .null, .null, .null, .int (nI 0), .null])), (q7, wg_aj cJ 48 (fun _ => 0)), (q15, wg_ai cI 48 (fun _ => 0))] := hD
  refine W.widen (k := 2) (n := 96) (by decide) (by decide) ?_
  refine va_putF (D := D) (ci := 1) (v := .ref q15) (ty := .array .int) (C := R_M) (T := F_M) (N := 11) hx hb hts wg_inM t_M t_M_ok n_M hown hK hP hD hS 0 rfl rfl 4 (by decide) (hts _ kf_M_13) (fun _ h9 => h9) rfl hnm rfl (by decide +kernel) rfl rfl (Nat.le_of_ble_eq_true rfl) d_M_init_17 (fun H locs hP hD hS => ?_)
  have hP : va_P D wg_cl [(h0, .inr (1, [.ref q7, .int (nI 0), .int (nI 0), .int (nI 0), .ref q15, .null, .null, .null, .null, .int (nI 0), .null])), (q7, wg_aj cJ 48 (fun _ => 0)), (q15, wg_ai cI 48 (fun _ => 0))] H := hP
  have hD : va_D A [(h0, .inr (1, [.ref q7, .int (nI 0), .int (nI 0), .int (nI 0), .ref q15, .null, .null, .null, .null, .int (nI 0), .null])), (q7, wg_aj cJ 48 (fun _ => 0)), (q15, wg_ai cI 48 (fun _ => 0))] := hD
  refine lv_aload_n hx hb d_M_init_20 rfl (lv_at hl 0 rfl) ?_
  refine lv_bipush (v := nI 48) hx hb d_M_init_21 (by decide +kernel) ?_
  refine wg_newi hx hb hts ka_i hK hP hD hS hA (by decide) (Nat.le_of_ble_eq_true rfl) (Nat.le_of_ble_eq_true rfl) d_M_init_23 (fun q23 H hP hD hS => ?_)
  have hP : va_P D wg_cl [(h0, .inr (1, [.ref q7, .int (nI 0), .int (nI 0), .int (nI 0), .ref q15, .null, .null, .null, .null, .int (nI 0), .null])), (q7, wg_aj cJ 48 (fun _ => 0)), (q15, wg_ai cI 48 (fun _ => 0)), (q23, wg_ai cI 48 (fun _ => 0))] H := hP
  have hD : va_D A [(h0, .inr (1, [.ref q7, .int (nI 0), .int (nI 0), .int (nI 0), .ref q15, .null, .null, .null, .null, .int (nI 0), .null])), (q7, wg_aj cJ 48 (fun _ => 0)), (q15, wg_ai cI 48 (fun _ => 0)), (q23, wg_ai cI 48 (fun _ => 0))] := hD
  refine W.widen (k := 3) (n := 144) (by decide) (by decide) ?_
  refine va_putF (D := D) (ci := 1) (v := .ref q23) (ty := .array .int) (C := R_M) (T := F_M) (N := 11) hx hb hts wg_inM t_M t_M_ok n_M hown hK hP hD hS 0 rfl rfl 5 (by decide) (hts _ kf_M_17) (fun _ h9 => h9) rfl hnm rfl (by decide +kernel) rfl rfl (Nat.le_of_ble_eq_true rfl) d_M_init_25 (fun H locs hP hD hS => ?_)
  have hP : va_P D wg_cl [(h0, .inr (1, [.ref q7, .int (nI 0), .int (nI 0), .int (nI 0), .ref q15, .ref q23, .null, .null, .null, .int (nI 0), .null])), (q7, wg_aj cJ 48 (fun _ => 0)), (q15, wg_ai cI 48 (fun _ => 0)), (q23, wg_ai cI 48 (fun _ => 0))] H := hP
  have hD : va_D A [(h0, .inr (1, [.ref q7, .int (nI 0), .int (nI 0), .int (nI 0), .ref q15, .ref q23, .null, .null, .null, .int (nI 0), .null])), (q7, wg_aj cJ 48 (fun _ => 0)), (q15, wg_ai cI 48 (fun _ => 0)), (q23, wg_ai cI 48 (fun _ => 0))] := hD
  refine lv_aload_n hx hb d_M_init_28 rfl (lv_at hl 0 rfl) ?_
  refine lv_sipush (v := nI 624) hx hb d_M_init_29 (by decide +kernel) ?_
  refine wg_newi hx hb hts ka_i hK hP hD hS hA (by decide) (Nat.le_of_ble_eq_true rfl) (Nat.le_of_ble_eq_true rfl) d_M_init_32 (fun q32 H hP hD hS => ?_)
  have hP : va_P D wg_cl [(h0, .inr (1, [.ref q7, .int (nI 0), .int (nI 0), .int (nI 0), .ref q15, .ref q23, .null, .null, .null, .int (nI 0), .null])), (q7, wg_aj cJ 48 (fun _ => 0)), (q15, wg_ai cI 48 (fun _ => 0)), (q23, wg_ai cI 48 (fun _ => 0)), (q32, wg_ai cI 624 (fun _ => 0))] H := hP
  have hD : va_D A [(h0, .inr (1, [.ref q7, .int (nI 0), .int (nI 0), .int (nI 0), .ref q15, .ref q23, .null, .null, .null, .int (nI 0), .null])), (q7, wg_aj cJ 48 (fun _ => 0)), (q15, wg_ai cI 48 (fun _ => 0)), (q23, wg_ai cI 48 (fun _ => 0)), (q32, wg_ai cI 624 (fun _ => 0))] := hD
  refine W.widen (k := 4) (n := 768) (by decide) (by decide) ?_
  refine va_putF (D := D) (ci := 1) (v := .ref q32) (ty := .array .int) (C := R_M) (T := F_M) (N := 11) hx hb hts wg_inM t_M t_M_ok n_M hown hK hP hD hS 0 rfl rfl 6 (by decide) (hts _ kf_M_20) (fun _ h9 => h9) rfl hnm rfl (by decide +kernel) rfl rfl (Nat.le_of_ble_eq_true rfl) d_M_init_34 (fun H locs hP hD hS => ?_)
  have hP : va_P D wg_cl [(h0, .inr (1, [.ref q7, .int (nI 0), .int (nI 0), .int (nI 0), .ref q15, .ref q23, .ref q32, .null, .null, .int (nI 0), .null])), (q7, wg_aj cJ 48 (fun _ => 0)), (q15, wg_ai cI 48 (fun _ => 0)), (q23, wg_ai cI 48 (fun _ => 0)), (q32, wg_ai cI 624 (fun _ => 0))] H := hP
  have hD : va_D A [(h0, .inr (1, [.ref q7, .int (nI 0), .int (nI 0), .int (nI 0), .ref q15, .ref q23, .ref q32, .null, .null, .int (nI 0), .null])), (q7, wg_aj cJ 48 (fun _ => 0)), (q15, wg_ai cI 48 (fun _ => 0)), (q23, wg_ai cI 48 (fun _ => 0)), (q32, wg_ai cI 624 (fun _ => 0))] := hD
  refine lv_aload_n hx hb d_M_init_37 rfl (lv_at hl 0 rfl) ?_
  refine lv_sipush (v := nI 625) hx hb d_M_init_38 (by decide +kernel) ?_
  refine wg_newi hx hb hts ka_i hK hP hD hS hA (by decide) (Nat.le_of_ble_eq_true rfl) (Nat.le_of_ble_eq_true rfl) d_M_init_41 (fun q41 H hP hD hS => ?_)
  have hP : va_P D wg_cl [(h0, .inr (1, [.ref q7, .int (nI 0), .int (nI 0), .int (nI 0), .ref q15, .ref q23, .ref q32, .null, .null, .int (nI 0), .null])), (q7, wg_aj cJ 48 (fun _ => 0)), (q15, wg_ai cI 48 (fun _ => 0)), (q23, wg_ai cI 48 (fun _ => 0)), (q32, wg_ai cI 624 (fun _ => 0)), (q41, wg_ai cI 625 (fun _ => 0))] H := hP
  have hD : va_D A [(h0, .inr (1, [.ref q7, .int (nI 0), .int (nI 0), .int (nI 0), .ref q15, .ref q23, .ref q32, .null, .null, .int (nI 0), .null])), (q7, wg_aj cJ 48 (fun _ => 0)), (q15, wg_ai cI 48 (fun _ => 0)), (q23, wg_ai cI 48 (fun _ => 0)), (q32, wg_ai cI 624 (fun _ => 0)), (q41, wg_ai cI 625 (fun _ => 0))] := hD
  refine W.widen (k := 5) (n := 1393) (by decide) (by decide) ?_
  refine va_putF (D := D) (ci := 1) (v := .ref q41) (ty := .array .int) (C := R_M) (T := F_M) (N := 11) hx hb hts wg_inM t_M t_M_ok n_M hown hK hP hD hS 0 rfl rfl 7 (by decide) (hts _ kf_M_23) (fun _ h9 => h9) rfl hnm rfl (by decide +kernel) rfl rfl (Nat.le_of_ble_eq_true rfl) d_M_init_43 (fun H locs hP hD hS => ?_)
  have hP : va_P D wg_cl [(h0, .inr (1, [.ref q7, .int (nI 0), .int (nI 0), .int (nI 0), .ref q15, .ref q23, .ref q32, .ref q41, .null, .int (nI 0), .null])), (q7, wg_aj cJ 48 (fun _ => 0)), (q15, wg_ai cI 48 (fun _ => 0)), (q23, wg_ai cI 48 (fun _ => 0)), (q32, wg_ai cI 624 (fun _ => 0)), (q41, wg_ai cI 625 (fun _ => 0))] H := hP
  have hD : va_D A [(h0, .inr (1, [.ref q7, .int (nI 0), .int (nI 0), .int (nI 0), .ref q15, .ref q23, .ref q32, .ref q41, .null, .int (nI 0), .null])), (q7, wg_aj cJ 48 (fun _ => 0)), (q15, wg_ai cI 48 (fun _ => 0)), (q23, wg_ai cI 48 (fun _ => 0)), (q32, wg_ai cI 624 (fun _ => 0)), (q41, wg_ai cI 625 (fun _ => 0))] := hD
  refine lv_aload_n hx hb d_M_init_46 rfl (lv_at hl 0 rfl) ?_
  refine lv_sipush (v := nI 625) hx hb d_M_init_47 (by decide +kernel) ?_
  refine wg_newi hx hb hts ka_i hK hP hD hS hA (by decide) (Nat.le_of_ble_eq_true rfl) (Nat.le_of_ble_eq_true rfl) d_M_init_50 (fun q50 H hP hD hS => ?_)
  have hP : va_P D wg_cl [(h0, .inr (1, [.ref q7, .int (nI 0), .int (nI 0), .int (nI 0), .ref q15, .ref q23, .ref q32, .ref q41, .null, .int (nI 0), .null])), (q7, wg_aj cJ 48 (fun _ => 0)), (q15, wg_ai cI 48 (fun _ => 0)), (q23, wg_ai cI 48 (fun _ => 0)), (q32, wg_ai cI 624 (fun _ => 0)), (q41, wg_ai cI 625 (fun _ => 0)), (q50, wg_ai cI 625 (fun _ => 0))] H := hP
  have hD : va_D A [(h0, .inr (1, [.ref q7, .int (nI 0), .int (nI 0), .int (nI 0), .ref q15, .ref q23, .ref q32, .ref q41, .null, .int (nI 0), .null])), (q7, wg_aj cJ 48 (fun _ => 0)), (q15, wg_ai cI 48 (fun _ => 0)), (q23, wg_ai cI 48 (fun _ => 0)), (q32, wg_ai cI 624 (fun _ => 0)), (q41, wg_ai cI 625 (fun _ => 0)), (q50, wg_ai cI 625 (fun _ => 0))] := hD
  refine W.widen (k := 6) (n := 2018) (by decide) (by decide) ?_
  refine va_putF (D := D) (ci := 1) (v := .ref q50) (ty := .array .int) (C := R_M) (T := F_M) (N := 11) hx hb hts wg_inM t_M t_M_ok n_M hown hK hP hD hS 0 rfl rfl 8 (by decide) (hts _ kf_M_26) (fun _ h9 => h9) rfl hnm rfl (by decide +kernel) rfl rfl (Nat.le_of_ble_eq_true rfl) d_M_init_52 (fun H locs hP hD hS => ?_)
  have hP : va_P D wg_cl [(h0, .inr (1, [.ref q7, .int (nI 0), .int (nI 0), .int (nI 0), .ref q15, .ref q23, .ref q32, .ref q41, .ref q50, .int (nI 0), .null])), (q7, wg_aj cJ 48 (fun _ => 0)), (q15, wg_ai cI 48 (fun _ => 0)), (q23, wg_ai cI 48 (fun _ => 0)), (q32, wg_ai cI 624 (fun _ => 0)), (q41, wg_ai cI 625 (fun _ => 0)), (q50, wg_ai cI 625 (fun _ => 0))] H := hP
  have hD : va_D A [(h0, .inr (1, [.ref q7, .int (nI 0), .int (nI 0), .int (nI 0), .ref q15, .ref q23, .ref q32, .ref q41, .ref q50, .int (nI 0), .null])), (q7, wg_aj cJ 48 (fun _ => 0)), (q15, wg_ai cI 48 (fun _ => 0)), (q23, wg_ai cI 48 (fun _ => 0)), (q32, wg_ai cI 624 (fun _ => 0)), (q41, wg_ai cI 625 (fun _ => 0)), (q50, wg_ai cI 625 (fun _ => 0))] := hD
  refine lv_aload_n hx hb d_M_init_55 rfl (lv_at hl 0 rfl) ?_
  refine lv_sipush (v := nI 169) hx hb d_M_init_56 (by decide +kernel) ?_
  refine wg_newi hx hb hts ka_i hK hP hD hS hA (by decide) (Nat.le_of_ble_eq_true rfl) (Nat.le_of_ble_eq_true rfl) d_M_init_59 (fun q59 H hP hD hS => ?_)
  have hP : va_P D wg_cl [(h0, .inr (1, [.ref q7, .int (nI 0), .int (nI 0), .int (nI 0), .ref q15, .ref q23, .ref q32, .ref q41, .ref q50, .int (nI 0), .null])), (q7, wg_aj cJ 48 (fun _ => 0)), (q15, wg_ai cI 48 (fun _ => 0)), (q23, wg_ai cI 48 (fun _ => 0)), (q32, wg_ai cI 624 (fun _ => 0)), (q41, wg_ai cI 625 (fun _ => 0)), (q50, wg_ai cI 625 (fun _ => 0)), (q59, wg_ai cI 169 (fun _ => 0))] H := hP
  have hD : va_D A [(h0, .inr (1, [.ref q7, .int (nI 0), .int (nI 0), .int (nI 0), .ref q15, .ref q23, .ref q32, .ref q41, .ref q50, .int (nI 0), .null])), (q7, wg_aj cJ 48 (fun _ => 0)), (q15, wg_ai cI 48 (fun _ => 0)), (q23, wg_ai cI 48 (fun _ => 0)), (q32, wg_ai cI 624 (fun _ => 0)), (q41, wg_ai cI 625 (fun _ => 0)), (q50, wg_ai cI 625 (fun _ => 0)), (q59, wg_ai cI 169 (fun _ => 0))] := hD
  refine W.widen (k := 7) (n := 2187) (by decide) (by decide) ?_
  refine va_putF (D := D) (ci := 1) (v := .ref q59) (ty := .array .int) (C := R_M) (T := F_M) (N := 11) hx hb hts wg_inM t_M t_M_ok n_M hown hK hP hD hS 0 rfl rfl 10 (by decide) (hts _ kf_M_29) (fun _ h9 => h9) rfl hnm rfl (by decide +kernel) rfl rfl (Nat.le_of_ble_eq_true rfl) d_M_init_61 (fun H locs hP hD hS => ?_)
  have hP : va_P D wg_cl [(h0, .inr (1, [.ref q7, .int (nI 0), .int (nI 0), .int (nI 0), .ref q15, .ref q23, .ref q32, .ref q41, .ref q50, .int (nI 0), .ref q59])), (q7, wg_aj cJ 48 (fun _ => 0)), (q15, wg_ai cI 48 (fun _ => 0)), (q23, wg_ai cI 48 (fun _ => 0)), (q32, wg_ai cI 624 (fun _ => 0)), (q41, wg_ai cI 625 (fun _ => 0)), (q50, wg_ai cI 625 (fun _ => 0)), (q59, wg_ai cI 169 (fun _ => 0))] H := hP
  have hD : va_D A [(h0, .inr (1, [.ref q7, .int (nI 0), .int (nI 0), .int (nI 0), .ref q15, .ref q23, .ref q32, .ref q41, .ref q50, .int (nI 0), .ref q59])), (q7, wg_aj cJ 48 (fun _ => 0)), (q15, wg_ai cI 48 (fun _ => 0)), (q23, wg_ai cI 48 (fun _ => 0)), (q32, wg_ai cI 624 (fun _ => 0)), (q41, wg_ai cI 625 (fun _ => 0)), (q50, wg_ai cI 625 (fun _ => 0)), (q59, wg_ai cI 169 (fun _ => 0))] := hD
  refine lv_aload_n hx hb d_M_init_64 rfl (lv_at hl 0 rfl) ?_
  refine lv_iconst (v := nI 0) hx hb d_M_init_65 (by decide +kernel) ?_
  obtain ⟨ad, had⟩ : ∃ ad : Nat → Nat, ad = fun k => match k with | 0 => q7 | 4 => q15 | 5 => q23 | 6 => q32 | 7 => q41 | 8 => q50 | 10 => q59 | _ => 0 := ⟨_, rfl⟩
  have ea0 : q7 = ad 0 := (congrFun had 0).symm
  have ea4 : q15 = ad 4 := (congrFun had 4).symm
  have ea5 : q23 = ad 5 := (congrFun had 5).symm
  have ea6 : q32 = ad 6 := (congrFun had 6).symm
  have ea7 : q41 = ad 7 := (congrFun had 7).symm
  have ea8 : q50 = ad 8 := (congrFun had 8).symm
  have ea10 : q59 = ad 10 := (congrFun had 10).symm
  clear had
  subst ea0 ea4 ea5 ea6 ea7 ea8 ea10
  have hP : va_P D wg_cl (wg_WM cJ cI h0 ad wg_Z) H := hP
  have hD : ∀ J, va_D A (wg_WM cJ cI h0 ad J) := fun J => wg_same_D (w1 := wg_WM cJ cI h0 ad wg_Z) rfl hD
  refine wg_pM1 (v := 0) hx hb hts hown hK hP hD hS kf_M_32 d_M_init_66 (fun H locs hP hS => ?_)
  exact W.vret hx hb hr (fun t ht hW => ⟨⟨ad, rfl, trivial, wg_h ht hP, hD _⟩, hS.F ht⟩) hS.2.2 d_M_init_69
end
section
/-! Rows for the law: two objects beside each other. -/
section LAWB
variable {p : Program} {l : Launch} {e : Env} {R : Room} {s : State} {m : MethodId} {args : Array Value} {below : List Frame} {meth : Method} {c : Code} {H : Heap} {locs : List Loc} {cells slots : Nat} {Q : State → Prop}
variable {cc : ByteArray} {pc : Nat} {ls : Array Slot} {rest : List Value} {D : va_G} {A : Nat → Prop} {a : Nat} {cJ cI : ClassId} {ws : va_W} {H0 : Heap}
theorem wg_loopL (Inv : Nat → wg_S → wg_S → Heap → List Loc → Array Slot → Prop) (mu : Nat → Nat)
    (step : ∀ (x : Nat) (I J : wg_S) (H : Heap) (locs : List Loc) (ls : Array Slot), Inv x I J H locs ls → (∀ (x' : Nat) (I' J' : wg_S) (H' : Heap) (locs' : List Loc) (ls' : Array Slot), Inv x' I' J' H' locs' ls' → mu x' < mu x → W p l e R s m args below meth c H' locs' cells slots Q (F0 m pc ls' rest)) → W p l e R s m args below meth c H locs cells slots Q (F0 m pc ls rest))
    (x : Nat) (I J : wg_S) (H : Heap) (locs : List Loc) (ls : Array Slot) (h : Inv x I J H locs ls) : W p l e R s m args below meth c H locs cells slots Q (F0 m pc ls rest) := by
  have key : ∀ (n x : Nat) (I J : wg_S) (H : Heap) (locs : List Loc) (ls : Array Slot), mu x < n → Inv x I J H locs ls → W p l e R s m args below meth c H locs cells slots Q (F0 m pc ls rest) := by
    intro n
    induction n with
    | zero => intro x I J H locs ls h; omega
    | succ n ih => intro x I J H locs ls h hI; exact step x I J H locs ls hI (fun x' I' J' H' locs' ls' hI' hm => ih x' I' J' H' locs' ls' (by omega) hI')
  exact key _ x I J H locs ls (Nat.lt_succ_self _) h
theorem wg_sld {b L : Nat} {xs : Nat → Int32} (hx : p.tables.exec = Jvm.exec) (hb : c.code = cc) (hX : va_X b L xs s H0) (hbl : b < H0.size) (hbA : ¬ A b) (hS : va_S A H0 H locs) {j : Nat} (hj : j < L) (hL : L < 2 ^ 31) (hdg : decode cc pc = .ok (.iaload, 1))
    (kk : W p l e R s m args below meth c H locs cells slots Q (F0 m (pc + 1) ls (.int (xs j) :: rest))) : W p l e R s m args below meth c H locs cells slots Q (F0 m pc ls (.int (nI j) :: .ref b :: rest)) := by
  refine va_sld hx hb hX hbl hbA hS (vp_in_nI hj hL) hdg ?_
  rw [nI_clamp (Nat.lt_trans hj hL)]
  exact kk
theorem wg_keep2 {w1 w2 : va_W} {H1 : Heap} (hP : va_P D wg_cl w2 H) (hdis : ∀ (i j : Nat) (p q : Nat × va_E), w1[i]? = some p → w2[j]? = some q → p.1 ≠ q.1) (hk : ∀ q : Nat, q < H.size → ¬ va_A w1 H.size q → H1[q]? = H[q]?) : va_P D wg_cl w2 H1 := hP.kept (fun k q hq => hk q.1 (hP k q hq).lt (by
  rintro (⟨i, e, h⟩ | h)
  · exact hdis i k _ q h hq rfl
  · exact absurd (hP k q hq).lt (Nat.not_lt.mpr h)))
theorem wg_dis {w1 w2 : va_W} (hD : va_D A (w1 ++ w2)) : ∀ (i j : Nat) (p q : Nat × va_E), w1[i]? = some p → w2[j]? = some q → p.1 ≠ q.1 := by
  intro i j p q h1 h2 e
  have hi : i < w1.length := (List.getElem?_eq_some_iff.mp h1).1
  have := hD.1 i (w1.length + j) p q (by rw [List.getElem?_append_left hi]; exact h1) (by rw [List.getElem?_append_right (by omega)]; rw [show w1.length + j - w1.length = j by omega]; exact h2) e
  omega
theorem wg_dis_same {w1 w2 v1 v2 : va_W} (h1 : wg_same w1 v1) (h2 : wg_same w2 v2) (h : ∀ (i j : Nat) (p q : Nat × va_E), w1[i]? = some p → w2[j]? = some q → p.1 ≠ q.1) : ∀ (i j : Nat) (p q : Nat × va_E), v1[i]? = some p → v2[j]? = some q → p.1 ≠ q.1 := by
  intro i j p q hp hq
  obtain ⟨p', a1, e1⟩ := wg_same_at h1 hp
  obtain ⟨q', a2, e2⟩ := wg_same_at h2 hq
  rw [← e1, ← e2]
  exact h i j p' q' a1 a2
theorem wg_dis_sym {w1 w2 : va_W} (h : ∀ (i j : Nat) (p q : Nat × va_E), w1[i]? = some p → w2[j]? = some q → p.1 ≠ q.1) : ∀ (i j : Nat) (p q : Nat × va_E), w2[i]? = some p → w1[j]? = some q → p.1 ≠ q.1 := fun i j p q hp hq e => h j i q p hq hp e.symm
theorem wg_D1 {w1 w2 : va_W} (hD : va_D A (w1 ++ w2)) : va_D A w1 := by
  refine ⟨fun i j p q hp hq e => ?_, fun k q hk => ?_⟩
  · have hi : i < w1.length := (List.getElem?_eq_some_iff.mp hp).1
    have hj : j < w1.length := (List.getElem?_eq_some_iff.mp hq).1
    exact hD.1 i j p q (by rw [List.getElem?_append_left hi]; exact hp) (by rw [List.getElem?_append_left hj]; exact hq) e
  · have hi : k < w1.length := (List.getElem?_eq_some_iff.mp hk).1
    exact hD.2 k q (by rw [List.getElem?_append_left hi]; exact hk)
theorem wg_D2 {w1 w2 : va_W} (hD : va_D A (w1 ++ w2)) : va_D A w2 := by
  have g : ∀ (k : Nat) (q : Nat × va_E), w2[k]? = some q → (w1 ++ w2)[w1.length + k]? = some q := fun k q hk => by
    rw [List.getElem?_append_right (by omega), show w1.length + k - w1.length = k by omega]; exact hk
  refine ⟨fun i j p q hp hq e => ?_, fun k q hk => hD.2 _ q (g k q hk)⟩
  have := hD.1 _ _ p q (g i p hp) (g j q hq) e
  omega
theorem wg_P1 {w1 w2 : va_W} (hP : va_P D wg_cl (w1 ++ w2) H) : va_P D wg_cl w1 H := fun k q hk => hP k q (by
  have hi : k < w1.length := (List.getElem?_eq_some_iff.mp hk).1
  rw [List.getElem?_append_left hi]; exact hk)
theorem wg_P2 {w1 w2 : va_W} (hP : va_P D wg_cl (w1 ++ w2) H) : va_P D wg_cl w2 H := fun k q hk => hP (w1.length + k) q (by
  rw [List.getElem?_append_right (by omega), show w1.length + k - w1.length = k by omega]; exact hk)
end LAWB
/-- the tables' numbers of the two classes and of the arrays -/
theorem wg_K0 {args : Array Value} {s : State} (hts : ∀ w ∈ wg_tbl, w.before args s = true) (hiX : Cond.instantiable R_X 14 ∈ wg_tbl) (hiM : Cond.instantiable R_M 11 ∈ wg_tbl) (hj : Cond.arrayClass .long ∈ wg_tbl) (hi : Cond.arrayClass .int ∈ wg_tbl) : ∃ (D : va_G) (cJ cI : ClassId), va_K D wg_cl (wg_ty cJ cI) s := by
  obtain ⟨cX, iX, hX⟩ := u_known (C := R_X) (T := F_X) (N := 14) hts wg_inX (hts _ hiX)
  obtain ⟨cM, iM, hM⟩ := u_known (C := R_M) (T := F_M) (N := 11) hts wg_inM (hts _ hiM)
  obtain ⟨cJ, kJ, compJ, hJ1, hJ2, hJ3⟩ := Cond.arrayClass_spec (hts _ hj)
  obtain ⟨cI, kI, compI, hI1, hI2, hI3⟩ := Cond.arrayClass_spec (hts _ hi)
  refine ⟨(fun k => if k = 0 then cX else cM, fun k => if k = 0 then iX else iM), cJ, cI, fun k q hq => ?_, fun k q hq => ?_⟩
  · rcases k with _ | _ | k
    · cases hq; exact hX
    · cases hq; exact hM
    · cases hq
  · rcases k with _ | _ | k
    · cases hq; exact ⟨fun n z => ⟨fun k h => (by cases h), kJ, hJ2, compJ, hJ3⟩, hJ1⟩
    · cases hq; exact ⟨fun n z => ⟨fun k h => (by cases h), kI, hI2, compI, hI3⟩, hI1⟩
    · cases hq
-- the two objects' states go together
def wg_rel (I J : wg_S) : Prop := I 3 0 = J 1 0 ∧ I 4 0 = J 2 0 ∧ (∀ k, k < I 3 0 → I 0 k = J 0 k) ∧ I 11 0 = J 3 0 ∧ (∀ i, i < I 11 0 → I 9 i = J 4 i ∧ I 10 i = J 5 i)
theorem wg_rel_fr {I J u v : wg_S} (h : wg_rel I J) (hu : ∀ j, j = 0 ∨ j = 3 ∨ j = 4 ∨ j = 9 ∨ j = 10 ∨ j = 11 → u j = I j) (hv : ∀ j, j < 6 → v j = J j) : wg_rel u v := by
  unfold wg_rel
  rw [hu 0 (by omega), hu 3 (by omega), hu 4 (by omega), hu 9 (by omega), hu 10 (by omega), hu 11 (by omega), hv 0 (by omega), hv 1 (by omega), hv 2 (by omega), hv 3 (by omega), hv 4 (by omega), hv 5 (by omega)]
  exact h
theorem wg_rel_add {I J u v : wg_S} {n : Nat} {r r' : Int32} (h : wg_rel I J) (hF : wg_XF I)
    (hx : wg_AddR (I 4 0) (I 3 0) (I 0) n r ∧ wg_XI u ∧ ((¬ r = 0 ∧ u = I) ∨ (r = 0 ∧ wg_XF u ∧ u 3 0 = I 3 0 + 1 ∧ u 0 (I 3 0) = n ∧ (∀ k, k < I 3 0 → u 0 k = I 0 k) ∧ (∀ j, 3 < j → u j = I j) ∧ u 0 = wg_st I 0 (I 3 0) n 0)))
    (hm : wg_AddR (J 2 0) (J 1 0) (J 0) n r' ∧ wg_MI v ∧ ((¬ r' = 0 ∧ v = J) ∨ (r' = 0 ∧ v 1 0 = J 1 0 + 1 ∧ v 0 (J 1 0) = n ∧ (∀ k, k < J 1 0 → v 0 k = J 0 k) ∧ (∀ j, 1 < j → v j = J j) ∧ v 0 = wg_st J 0 (J 1 0) n 0))) : r = r' ∧ wg_XI u ∧ wg_MI v ∧ wg_rel u v ∧ wg_XF u := by
  have h' := h
  obtain ⟨a, b, c, f, g⟩ := h
  obtain ⟨x1, x2, x4⟩ := hx
  obtain ⟨m1, m2, m4⟩ := hm
  rw [← a, ← b] at m1
  have e : r = r' := wg_AddR_one c x1 m1
  subst e
  refine ⟨rfl, x2, m2, ?_⟩
  rcases x4 with ⟨y0, rfl⟩ | ⟨y0, yF, y1, y2, y3, y4, _⟩ <;> rcases m4 with ⟨z0, rfl⟩ | ⟨z0, z1, z2, z3, z4, _⟩
  · exact ⟨h', hF⟩
  · exact absurd z0 y0
  · exact absurd y0 z0
  · refine ⟨⟨by omega, ?_, fun k hk => ?_, ?_, ?_⟩, yF⟩
    · rw [y4 4 (by omega), z4 2 (by omega)]; exact b
    · by_cases q : k = I 3 0
      · rw [q, y2, a, z2]
      · rw [y3 k (by omega), z3 k (by omega)]; exact c k (by omega)
    · rw [y4 11 (by omega), z4 3 (by omega)]; exact f
    · rw [y4 11 (by omega), y4 9 (by omega), y4 10 (by omega), z4 4 (by omega), z4 5 (by omega)]; exact g
theorem wg_rel_seal {I J u v : wg_S} {r r' : Int32} (h : wg_rel I J) (hI : wg_XI I) (hJ : wg_MI J) (hF : wg_XF I)
    (hx : (¬ I 4 0 = 0 ∧ r = nI 0 ∧ u = I) ∨ (I 4 0 = 0 ∧ r = nI 1 ∧ u 4 0 = 1 ∧ wg_XI u ∧ (∀ j, j < 4 ∨ 8 < j → u j = I j)))
    (hm : (¬ J 2 0 = 0 ∧ r' = nI 0 ∧ v = J) ∨ (J 2 0 = 0 ∧ r' = nI 1 ∧ v 2 0 = 1 ∧ wg_MI v ∧ (∀ j, ¬ j = 2 → (j < 6 ∨ j = 10) → v j = J j))) : r = r' ∧ wg_XI u ∧ wg_MI v ∧ wg_rel u v ∧ wg_XF u := by
  have h' := h
  obtain ⟨a, b, c, f, g⟩ := h
  rcases hx with ⟨x1, rfl, rfl⟩ | ⟨x1, rfl, x3, x4, x5⟩ <;> rcases hm with ⟨m1, rfl, rfl⟩ | ⟨m1, rfl, m3, m4, m5⟩
  · exact ⟨rfl, hI, hJ, h', hF⟩
  · omega
  · omega
  · refine ⟨rfl, x4, m4, ⟨?_, by omega, ?_, ?_, ?_⟩, wg_XF_fr hF (fun j hj => x5 j (by omega))⟩
    · rw [x5 3 (by omega), m5 1 (by decide) (by decide)]; exact a
    · rw [x5 3 (by omega), x5 0 (by omega), m5 0 (by decide) (by decide)]; exact c
    · rw [x5 11 (by omega), m5 3 (by decide) (by decide)]; exact f
    · rw [x5 11 (by omega), x5 9 (by omega), x5 10 (by omega), m5 4 (by decide) (by decide), m5 5 (by decide) (by decide)]; exact g
theorem wg_rel_cl (I J : wg_S) : wg_rel (wg_st (wg_st (wg_st (wg_st I 3 0 0) 4 0 0) 8 0 0) 11 0 0) (wg_st (wg_st (wg_st (wg_st J 2 0 0) 1 0 0) 3 0 0) 9 0 0) := ⟨rfl, rfl, fun k hk => (by have hk : k < 0 := hk; omega), rfl, fun k hk => (by have hk : k < 0 := hk; omega)⟩
theorem wg_XF_cl (I : wg_S) : wg_XF (wg_st (wg_st (wg_st (wg_st I 3 0 0) 4 0 0) 8 0 0) 11 0 0) := ⟨fun k hk => (by have hk : k < 0 := hk; omega), fun hk => (by have hk : (0 : Nat) < 0 := hk; omega), fun k _ hk => (by have hk : k < 0 := hk; omega)⟩
theorem wg_XF_0 : wg_XF wg_cX := wg_XF_cl wg_Z
theorem wg_rel_word {I J : wg_S} {k : Int32} {r r' : Int64} (h : wg_rel I J) (h31 : I 3 0 < 2 ^ 31)
    (hx : (∃ j, j < I 3 0 ∧ k = nI j ∧ r = lN (I 0 j)) ∨ ((∀ j, j < I 3 0 → ¬ k = nI j) ∧ r = -1)) (hm : (∃ j, j < J 1 0 ∧ k = nI j ∧ r' = lN (J 0 j)) ∨ ((∀ j, j < J 1 0 → ¬ k = nI j) ∧ r' = -1)) : r = r' := by
  obtain ⟨a, b, c, _, _⟩ := h
  rcases hx with ⟨j, h1, rfl, rfl⟩ | ⟨h1, rfl⟩ <;> rcases hm with ⟨i, m1, m2, rfl⟩ | ⟨m1, rfl⟩
  · rw [nI_eq (by omega) (by omega)] at m2
    rw [← m2, c j h1]
  · exact absurd rfl (m1 j (by omega))
  · exact absurd m2 (h1 i (by omega))
  · rfl
theorem wg_rel_res {f g : Nat → Nat} {n n' : Nat} {k : Int32} {r r' : Int32} (hn : n = n') (h31 : n < 2 ^ 31) (hfg : ∀ i, i < n → f i = g i)
    (hx : (∃ j, j < n ∧ k = nI j ∧ r = nI (f j)) ∨ ((∀ j, j < n → ¬ k = nI j) ∧ r = -1)) (hm : (∃ j, j < n' ∧ k = nI j ∧ r' = nI (g j)) ∨ ((∀ j, j < n' → ¬ k = nI j) ∧ r' = -1)) : r = r' := by
  rcases hx with ⟨j, h1, rfl, rfl⟩ | ⟨h1, rfl⟩ <;> rcases hm with ⟨i, m1, m2, rfl⟩ | ⟨m1, rfl⟩
  · rw [nI_eq (by omega) (by omega)] at m2
    rw [← m2, hfg j h1]
  · exact absurd rfl (m1 j (by omega))
  · exact absurd m2 (h1 i (by omega))
  · rfl
theorem wg_dist_eq {I J : wg_S} {n j : Nat} (h : wg_rel I J) (hF : wg_XF I) (hn : wg_ok n) (hj : j < I 3 0) : wg_bt (I 0 j) n (wg_len (I 0 j)) (wg_len n) = wg_bt n (J 0 j) (wg_ln n) (wg_ln (J 0 j)) := by
  obtain ⟨a, b, c, _, _⟩ := h
  rw [← c j hj, wg_len_ln hn, wg_len_ln (hF.1 j hj).1, wg_bt_sym]
theorem wg_rel_dist {I J u v : wg_S} {n : Nat} {k r r' : Int32} (h : wg_rel I J) (hI : wg_XI I) (hJ : wg_MI J) (hF : wg_XF I)
    (hx : (¬ (wg_ok n ∧ ∃ j, j < I 3 0 ∧ k = nI j) ∧ r = -1 ∧ u = I) ∨ (wg_ok n ∧ ∃ j, j < I 3 0 ∧ k = nI j ∧ r = nI (wg_bt (I 0 j) n (wg_len (I 0 j)) (wg_len n)) ∧ wg_XI u ∧ (∀ x, ¬ x = 12 → u x = I x)))
    (hm : (¬ (wg_ok n ∧ ∃ j, j < J 1 0 ∧ k = nI j) ∧ r' = -1 ∧ v = J) ∨ (wg_ok n ∧ ∃ j, j < J 1 0 ∧ k = nI j ∧ r' = nI (wg_bt n (J 0 j) (wg_ln n) (wg_ln (J 0 j))) ∧ wg_MI v ∧ (∀ x, ¬ x = 10 → v x = J x))) : r = r' ∧ wg_XI u ∧ wg_MI v ∧ wg_rel u v ∧ wg_XF u := by
  have h48 := hI.1
  have ha := h.1
  rcases hx with ⟨x1, rfl, rfl⟩ | ⟨x0, j, x1, rfl, rfl, x4, x5⟩ <;> rcases hm with ⟨m1, rfl, rfl⟩ | ⟨m0, i, m1, m2, rfl, m4, m5⟩
  · exact ⟨rfl, hI, hJ, h, hF⟩
  · exact absurd ⟨m0, i, by omega, m2⟩ x1
  · exact absurd ⟨x0, j, by omega, rfl⟩ m1
  · rw [nI_eq (by omega) (by omega)] at m2
    subst m2
    exact ⟨by rw [wg_dist_eq h hF x0 x1], x4, m4, wg_rel_fr h (fun j hj => x5 j (by omega)) (fun j hj => m5 j (by omega)), wg_XF_fr hF (fun j hj => x5 j (by omega))⟩
theorem wg_rel_search {I J u v : wg_S} {n : Nat} {d r r' : Int32} (h : wg_rel I J) (hI : wg_XI I) (hJ : wg_MI J) (hF : wg_XF I)
    (hx : (I 4 0 = 0 ∧ r = -1 ∧ u = I) ∨ (¬ I 4 0 = 0 ∧ ¬ (wg_ok n ∧ ∃ dn, dn ≤ 3 ∧ d = nI dn) ∧ r = -2 ∧ u = I) ∨ (¬ I 4 0 = 0 ∧ wg_ok n ∧ ∃ dn, dn ≤ 3 ∧ d = nI dn ∧ r = nI (u 11 0) ∧ u 11 0 = wg_ct (fun k => wg_bt (I 0 k) n (wg_len (I 0 k)) (wg_len n)) (dn + 1) (I 3 0) ∧ wg_RS (fun k => wg_bt (I 0 k) n (wg_len (I 0 k)) (wg_len n)) (I 3 0) (u 9) (u 10) (dn + 1) 0 ∧ wg_XI u ∧ (∀ j, j < 9 → u j = I j)))
    (hm : (J 2 0 = 0 ∧ r' = -1 ∧ v = J) ∨ (¬ J 2 0 = 0 ∧ ¬ (wg_ok n ∧ ∃ dn, dn ≤ 3 ∧ d = nI dn) ∧ r' = -2 ∧ v = J) ∨ (¬ J 2 0 = 0 ∧ wg_ok n ∧ ∃ dn, dn ≤ 3 ∧ d = nI dn ∧ r' = nI (v 3 0) ∧ v 3 0 = wg_ct (fun k => wg_bt n (J 0 k) (wg_ln n) (wg_ln (J 0 k))) (dn + 1) (J 1 0) ∧ wg_RS (fun k => wg_bt n (J 0 k) (wg_ln n) (wg_ln (J 0 k))) (J 1 0) (v 4) (v 5) (dn + 1) 0 ∧ wg_MI v ∧ (∀ j, ¬ j = 3 → ¬ j = 4 → ¬ j = 5 → ¬ j = 10 → v j = J j))) : r = r' ∧ wg_XI u ∧ wg_MI v ∧ wg_rel u v ∧ wg_XF u := by
  have h' := h
  obtain ⟨a, b, c, f, g⟩ := h
  rcases hx with ⟨x1, rfl, rfl⟩ | ⟨x1, x2, rfl, rfl⟩ | ⟨x1, x2, dn, x3, rfl, rfl, x5, x6, x7, x8⟩ <;> rcases hm with ⟨m1, rfl, rfl⟩ | ⟨m1, m2, rfl, rfl⟩ | ⟨m1, m2, en, m3, m4, rfl, m5, m6, m7, m8⟩
  · exact ⟨rfl, hI, hJ, h', hF⟩
  · omega
  · omega
  · omega
  · exact ⟨rfl, hI, hJ, h', hF⟩
  · exact absurd ⟨m2, en, m3, m4⟩ x2
  · omega
  · exact absurd ⟨x2, dn, x3, rfl⟩ m2
  · rw [nI_eq (by omega) (by omega)] at m4
    subst m4
    have hd : ∀ k, k < I 3 0 → (fun k => wg_bt (I 0 k) n (wg_len (I 0 k)) (wg_len n)) k = (fun k => wg_bt n (J 0 k) (wg_ln n) (wg_ln (J 0 k))) k := fun k hk => wg_dist_eq h' hF x2 hk
    rw [← a] at m5 m6
    have hct : u 11 0 = v 3 0 := by rw [x5, m5]; exact wg_ct_ext _ hd
    refine ⟨by rw [hct], x7, m7, ⟨?_, ?_, ?_, hct, ?_⟩, wg_XF_fr hF (fun j hj => x8 j (by omega))⟩
    · rw [x8 3 (by omega), m8 1 (by decide) (by decide) (by decide) (by decide)]; exact a
    · rw [x8 4 (by omega), m8 2 (by decide) (by decide) (by decide) (by decide)]; exact b
    · rw [x8 3 (by omega), x8 0 (by omega), m8 0 (by decide) (by decide) (by decide) (by decide)]; exact c
    · rw [x5]
      exact wg_RS_same hd x6 m6
theorem wg_XI_0 : wg_XI wg_cX := by
  refine ⟨?_, ?_, ?_, ?_, fun _ => rfl, ?_, ?_, ?_, ?_, ?_, ?_, ?_, ?_, ?_⟩
  · show (0 : Nat) ≤ 48; omega
  · show (0 : Nat) ≤ 1; omega
  · show (0 : Nat) ≤ 577; omega
  · show (0 : Nat) ≤ 48; omega
  · intro k _; show (0 : Nat) < 2 ^ 60; omega
  · intro k _; show (0 : Nat) ≤ 12; omega
  · intro k _; show (0 : Nat) ≤ 13; omega
  · intro k _ q; have q : k < 0 := q; omega
  · intro k _; show (0 : Nat) < 48; omega
  · intro k _; show (0 : Nat) ≤ 12; omega
  · intro k _; show (0 : Nat) ≤ 24; omega
  · intro k _; show (0 : Nat) ≤ 24; omega
  · intro k _; show (0 : Nat) < 577; omega
theorem wg_MI_0 : wg_MI wg_cM := by
  refine ⟨?_, ?_, ?_, ?_, ?_, ?_, ?_⟩
  · show (0 : Nat) ≤ 48; omega
  · show (0 : Nat) ≤ 1; omega
  · show (0 : Nat) ≤ 48; omega
  · show (0 : Nat) ≤ 625; omega
  · intro k _; show (0 : Nat) < 2 ^ 60; omega
  · intro k _; show (0 : Nat) < 48; omega
  · intro k _; show (0 : Nat) ≤ 12; omega
theorem wg_rel_0 : wg_rel wg_cX wg_cM := ⟨rfl, rfl, fun k hk => (by have hk : k < 0 := hk; omega), rfl, fun k hk => (by have hk : k < 0 := hk; omega)⟩
theorem wg_dis3 {D : va_G} {H : Heap} {w1 wc w2 : va_W} (hP1 : va_P D wg_cl w1 H) (hdis : ∀ (i j : Nat) (p q : Nat × va_E), w1[i]? = some p → wc[j]? = some q → p.1 ≠ q.1) (hD2 : va_D (va_A wc H.size) w2) : ∀ (i j : Nat) (p q : Nat × va_E), w1[i]? = some p → w2[j]? = some q → p.1 ≠ q.1 := by
  intro i j p q hp hq e
  rcases hD2.2 j q hq with ⟨k, e', h⟩ | h
  · exact hdis i k p _ hp h e
  · have := (hP1 i p hp).lt
    omega
theorem wg_iinc4 (i : Nat) : nI i + Int32.ofInt 4 = nI (i + 4) := by rw [show Int32.ofInt 4 = nI 4 by decide +kernel, nI_add]
def wg_fr (I J : wg_S) : Prop := I 3 0 = 0 ∧ I 4 0 = 0 ∧ I 8 0 = 0 ∧ I 11 0 = 0 ∧ J 1 0 = 0 ∧ J 2 0 = 0 ∧ J 3 0 = 0
theorem wg_fr_0 : wg_fr wg_cX wg_cM := ⟨rfl, rfl, rfl, rfl, rfl, rfl, rfl⟩
end
section
/-! THE CLAIM OUT OF ONE WALK OF THE LAW'S BODY. Your part is whole_start (and what it stands on); all else here is the same for every law, but numbers. -/
def lw_P (b : Addr) (xs : List Int32) (args : Array Value) (s : State) : Prop := args = #[.ref b] ∧ s.IntsAt b xs ∧ xs.length ≤ 2048 ∧ (Jvm.Cond.and given_1 narrow_1).before args s = true
def lw_Q (_ : Array Value) (s : State) (o : Outcome) (t : State) : Prop := o = .returned (some (.int 1)) ∧ Framed s o t [] 19 4447
def lw_Z (below : List Frame) (a : Array Value) (s : State) : State → Prop := fun t => ∃ o, t.status = .running ∧ Ended t below o ∧ lw_Q a s o t
/-- the law's own end, with 1 on the stack, nothing written that was there before, its room as the claim has it -/
theorem lw_ret {p : Program} {l : Launch} {e : Env} {s : State} {m : MethodId} {below : List Frame} {meth : Method} {c : Code} {b : Nat} (hx : p.tables.exec = Jvm.exec) (hb : c.code = code) (hr : meth.sig.returnType = ret) (hlocks : meth.locks = false) {pc : Nat} {H : Heap} {ls : Array Slot} (hdg : decode code pc = .ok (.ireturn, 1)) : W p l e room_1 s m #[Value.ref b] below meth c H [] 19 4447 (lw_Z below #[Value.ref b] s) (F0 m pc ls [.int 1]) := by
  intro T hT X
  obtain ⟨fs, hret, hrun, hended, hW, hframe⟩ := X.leave (v := some (.int 1)) (hlocks := hlocks) (fun h => by rw [hr] at h; cases h)
  have hmeth' : T.vm.method? m = some meth := X.method'
  refine ⟨T.setFrames fs, ?_, .returned (some (.int 1)), hrun, hended, rfl, ⟨_, rfl⟩, hW, hframe⟩
  jvm_step X.here [X.here.top, hx, hb, hdg, hmeth', hr, ret, narrow_b1]
  (try refine ⟨rfl, ?_⟩); (try refine ⟨rfl, ?_⟩)
  first | (intro acts; rw [hret _ acts rfl rfl rfl]) | rw [hret _ _ rfl rfl rfl]
  exact Steps.refl _
/-- what holds at the law's entry: the machine, the code, the tables' words (any of lw_tbl by 'hts w (by decide +kernel)'), the script of L ints xs at the cell b, what the Statement gives of the start (any of its parts by flat_of_before) -/
def lw_At (p : Program) (s : State) (m : MethodId) (meth : Method) (c : Code) (b L : Nat) (xs : Nat → Int32) : Prop :=
  p.tables.exec = Jvm.exec ∧ c.code = code ∧ meth.sig.returnType = ret ∧ c.maxLocals = 4 ∧ s.vm.findClass R_law = some m.cls ∧ (∀ w ∈ lw_tbl, w.before #[Value.ref b] s = true) ∧ va_X b L xs s s.heap ∧ b < s.heap.size ∧ meth.locks = false ∧ (Jvm.Cond.and given_1 narrow_1).before #[Value.ref b] s = true
set_option maxHeartbeats 40000000 in
set_option maxRecDepth 100000 in
/-- YOUR PART: from the entry, for every script of at most 2048 ints, the law comes to its end with true -/
theorem whole_start {p : Program} {e : Env} {s : State} {m : MethodId} {below : List Frame} {meth : Method} {c : Code} (l : Launch) {b L : Nat} {xs : Nat → Int32} (hL : L ≤ 2048) (C0 : lw_At p s m meth c b L xs) : W p l e room_1 s m #[Value.ref b] below meth c s.heap [] 0 0 (lw_Z below #[Value.ref b] s) (entryFrame m ([Value.ref b] : List Value).toArray 4) := by
  obtain ⟨hx, hb, hr, hml, hown, hts, hX, hbl, hlk, -⟩ := C0
  have hts : ∀ w ∈ wg_tbl, w.before #[Value.ref b] s = true := fun w h => hts w (List.mem_filter.mp h).1
  obtain ⟨D, cJ, cI, hK⟩ := wg_K0 hts ki_X ki_M ka_j ka_i
  rw [lg_entry_eq]
  have hl := lv_entry ([Value.ref b]) (n := 4) (Nat.le_of_ble_eq_true rfl)
  generalize (lg_sl ([Value.ref b]) ++ List.replicate (4 - (lg_sl ([Value.ref b])).length) Slot.unset).toArray = ls at hl ⊢
  have hl : lv_has ls 4 [(0, .ref b)] := hl
  obtain ⟨A, hAd⟩ : ∃ A : Nat → Prop, A = fun q => s.heap.size ≤ q := ⟨_, rfl⟩
  have hA : ∀ q, s.heap.size ≤ q → A q := fun q h => by rw [hAd]; exact h
  have hA' : ∀ q, A q → s.heap.size ≤ q := fun q h => by rw [hAd] at h; exact h
  have hbA : ¬ A b := fun q => by have := hA' b q; omega
  clear hAd
  have hS : va_S A s.heap s.heap [] := va_S.rf
  have hP : va_P D wg_cl [] s.heap := fun k q h => by cases h
  have hD : va_D A [] := ⟨fun i j p q h => (by cases h), fun k q h => (by cases h)⟩
  refine va_new (ci := 0) (fs := wg_BX) (C := R_X) (T := F_X) (N := 14) hx hb hts wg_inX t_X t_X_ok hown (hts _ kn_L_7) (hts _ ki_X) (hts _ kz_X) hK hP hD hS hA rfl (fun j hj => by rcases (show j = 0 ∨ j = 1 ∨ j = 2 ∨ j = 3 ∨ j = 4 ∨ j = 5 ∨ j = 6 ∨ j = 7 ∨ j = 8 ∨ j = 9 ∨ j = 10 ∨ j = 11 ∨ j = 12 ∨ j = 13 by omega) with rfl | rfl | rfl | rfl | rfl | rfl | rfl | rfl | rfl | rfl | rfl | rfl | rfl | rfl <;> rfl) (Nat.le_of_ble_eq_true rfl) (Nat.le_of_ble_eq_true rfl) d_L_law_0 (fun hX0 H hP hD hS => ?_)
  have hP : va_P D wg_cl [(hX0, .inr (0, wg_BX))] H := hP
  have hD : va_D A [(hX0, .inr (0, wg_BX))] := hD
  refine W.widen (k := 1) (n := 14) (by decide) (by decide) ?_
  refine lv_dup hx hb d_L_law_3 rfl ?_
  have hPc := hP
  have hDc := hD
  have hF := wg_free hD hS hA
  refine va_callv (va_runI (As := []) (rest := [.ref hX0]) ⟨hx, hb, hml, hown, hts⟩ (c_X_init l D cJ cI hX0 H.size) ⟨callB_of 0 hts (wg_GI kd_X_init) rfl rfl rfl (hts _ kz_X) (hts _ km_L_9) (by decide +kernel) ⟨Nat.le_of_ble_eq_true rfl, Nat.le_of_ble_eq_true rfl⟩, rfl, hts _ kj_X_init⟩ ⟨wg_blind, wg_pre hK hPc hDc⟩ rfl rfl hl.1 rfl (lv_room (Nat.le_of_ble_eq_true rfl)) d_L_law_4 ⟨Nat.le_of_ble_eq_true rfl, Nat.le_of_ble_eq_true rfl⟩) hS (fun q _ h => hF q h) hF (fun ad t H1 locs ht hvm _ hB hz hk hS => ?_)
  obtain ⟨hPx, hDx⟩ := hB
  rw [ht] at hPx
  have hDx : va_D A (wg_WX cJ cI hX0 ad wg_cX) := hDx.weaken (fun _ _ _ h => hF _ h)
  clear hP hD hPc hDc hF hk hz hvm ht t
  refine W.widen (k := 11) (n := 2249) (by decide) (by decide) ?_
  refine lv_astore_n (lv' := [(1, .ref hX0), (0, .ref b)]) hx hb d_L_law_7 rfl hl (by decide) rfl (fun ls hl => ?_)
  refine va_new (ci := 1) (fs := wg_BM) (C := R_M) (T := F_M) (N := 11) hx hb hts wg_inM t_M t_M_ok hown (hts _ kn_L_10) (hts _ ki_M) (hts _ kz_M) hK hPx hDx hS hA rfl (fun j hj => by rcases (show j = 0 ∨ j = 1 ∨ j = 2 ∨ j = 3 ∨ j = 4 ∨ j = 5 ∨ j = 6 ∨ j = 7 ∨ j = 8 ∨ j = 9 ∨ j = 10 by omega) with rfl | rfl | rfl | rfl | rfl | rfl | rfl | rfl | rfl | rfl | rfl <;> rfl) (Nat.le_of_ble_eq_true rfl) (Nat.le_of_ble_eq_true rfl) d_L_law_8 (fun hM0 H hP hD hS => ?_)
  refine W.widen (k := 12) (n := 2260) (by decide) (by decide) ?_
  refine lv_dup hx hb d_L_law_11 rfl ?_
  have hPx := wg_P1 hP
  have hPc := wg_P2 hP
  have hDc := wg_D2 hD
  have hds := wg_dis hD
  have hF := wg_free hDc hS hA
  refine va_callv (va_runI (As := []) (rest := [.ref hM0]) ⟨hx, hb, hml, hown, hts⟩ (c_M_init l D cJ cI hM0 H.size) ⟨callB_of 0 hts (wg_GI kd_M_init) rfl rfl rfl (hts _ kz_M) (hts _ km_L_12) (by decide +kernel) ⟨Nat.le_of_ble_eq_true rfl, Nat.le_of_ble_eq_true rfl⟩, rfl, hts _ kj_M_init⟩ ⟨wg_blind, wg_pre hK hPc hDc⟩ rfl rfl hl.1 rfl (lv_room (Nat.le_of_ble_eq_true rfl)) d_L_law_12 ⟨Nat.le_of_ble_eq_true rfl, Nat.le_of_ble_eq_true rfl⟩) hS (fun q _ h => hF q h) hF (fun am t H1 locs ht hvm _ hB hz hk hS => ?_)
  obtain ⟨hPm, hDm⟩ := hB
  rw [ht] at hPm
  have hd0 := wg_dis3 hPx hds hDm
  have hDm : va_D A (wg_WM cJ cI hM0 am wg_cM) := hDm.weaken (fun _ _ _ h => hF _ h)
  have hPx := wg_keep2 hPx (wg_dis_sym hds) hk
  have hDX : ∀ I, va_D A (wg_WX cJ cI hX0 ad I) := fun I => wg_same_D (wg_same_X _ I) hDx
  have hDM : ∀ J, va_D A (wg_WM cJ cI hM0 am J) := fun J => wg_same_D (wg_same_M _ J) hDm
  have hds : ∀ (I J : wg_S), ∀ (i j : Nat) (p q : Nat × va_E), (wg_WX cJ cI hX0 ad I)[i]? = some p → (wg_WM cJ cI hM0 am J)[j]? = some q → p.1 ≠ q.1 := fun I J => wg_dis_same (wg_same_X _ I) (wg_same_M _ J) hd0
  clear hP hD hPc hDc hF hk hz hvm ht t hd0 hDx hDm
  refine W.widen (k := 19) (n := 4447) (by decide) (by decide) ?_
  refine lv_astore_n (lv' := [(2, .ref hM0), (1, .ref hX0), (0, .ref b)]) hx hb d_L_law_15 rfl hl (by decide) rfl (fun ls hl => ?_)
  refine lv_iconst (v := nI 0) hx hb d_L_law_16 (by decide +kernel) ?_
  refine lv_istore_n (lv' := [(3, .int (nI 0)), (2, .ref hM0), (1, .ref hX0), (0, .ref b)]) hx hb d_L_law_17 rfl hl (by decide) rfl (fun ls hl => ?_)
  refine wg_loopL (fun i I J H locs ls => i ≤ L + 4 ∧ wg_XI I ∧ wg_MI J ∧ wg_rel I J ∧ wg_XF I ∧ va_P D wg_cl (wg_WX cJ cI hX0 ad I) H ∧ va_P D wg_cl (wg_WM cJ cI hM0 am J) H ∧ va_S A s.heap H locs ∧ lv_has ls 4 [(0, .ref b), (1, .ref hX0), (2, .ref hM0), (3, .int (nI i))]) (fun i => 4104 - i) (fun i I J H locs ls hI ih => ?_) 0 wg_cX wg_cM _ _ _ ⟨by omega, wg_XI_0, wg_MI_0, wg_rel_0, wg_XF_0, hPx, hPm, hS, lv_sub hl [3, 2, 1, 0] rfl⟩
  obtain ⟨hi, hXI, hMI, hrel, hXF, hPx, hPm, hS, hl⟩ := hI
  refine lv_iload_n hx hb d_L_law_18 rfl (lv_at hl 3 rfl) ?_
  refine lv_aload_n hx hb d_L_law_19 rfl (lv_at hl 0 rfl) ?_
  refine va_slen hx hb hX hbl hbA hS d_L_law_20 ?_
  refine lv_iconst (v := nI 4) hx hb d_L_law_21 (by decide +kernel) ?_
  refine lv_isub hx hb d_L_law_22 ?_
  refine lv_icmp_gt (tgt := 541) hx hb d_L_law_23 (by decide) (fun _ => ?_) (fun h23 => ?_)
  · refine lv_iconst (v := 1) hx hb d_L_law_541 (by decide +kernel) ?_
    refine va_forget (fun q hq => hA' _ (hS.2.2 q hq)) ?_
    exact lw_ret hx hb hr hlk d_L_law_542
  · have h23 : ¬ nI L - nI 4 < nI i := h23
    rw [wg_DltN (by omega) (by omega) (by omega)] at h23
    have hL31 : L < 2 ^ 31 := by omega
    refine lv_aload_n hx hb d_L_law_26 rfl (lv_at hl 0 rfl) ?_
    refine lv_iload_n hx hb d_L_law_27 rfl (lv_at hl 3 rfl) ?_
    refine wg_sld hx hb hX hbl hbA hS (show i < L by omega) hL31 d_L_law_28 ?_
    refine lv_bipush (v := nI 15) hx hb d_L_law_29 (by decide +kernel) ?_
    obtain ⟨op, hop, eop⟩ := pk_andE (xs i) (m := nI 15) 4 (by decide +kernel)
    refine t_iand (v := nI op) hx hb d_L_law_31 eop ?_
    rcases (show op = 0 ∨ op = 1 ∨ op = 2 ∨ op = 3 ∨ op = 4 ∨ op = 5 ∨ op = 6 ∨ op = 7 ∨ op = 8 ∨ op = 9 ∨ op = 10 ∨ op = 11 ∨ op = 12 ∨ op = 13 ∨ 14 ≤ op by omega) with rfl | rfl | rfl | rfl | rfl | rfl | rfl | rfl | rfl | rfl | rfl | rfl | rfl | rfl | hop2
    · refine lv_tableIn (off := 72) (tgt := 104) hx hb d_L_law_32 (by decide +kernel) (by decide +kernel) (by decide +kernel) (by decide) ?_
      refine lv_aload_n hx hb d_L_law_104 rfl (lv_at hl 1 rfl) ?_
      refine lv_aload_n hx hb d_L_law_105 rfl (lv_at hl 0 rfl) ?_
      refine lv_iload_n hx hb d_L_law_106 rfl (lv_at hl 3 rfl) ?_
      refine lv_iconst (v := nI 1) hx hb d_L_law_107 (by decide +kernel) ?_
      refine t_iadd (v := nI (i + 1)) hx hb d_L_law_108 (nI_add _ _) ?_
      refine wg_sld hx hb hX hbl hbA hS (show i + 1 < L by omega) hL31 d_L_law_109 ?_
      refine lv_i2l (v := (xs (i + 1)).toInt64) hx hb d_L_law_110 rfl ?_
      refine lv_bipush (v := nI 32) hx hb d_L_law_111 (by decide +kernel) ?_
      refine lv_lshl (v := (xs (i + 1)).toInt64 <<< ((nI 32).toInt64 &&& 63)) hx hb d_L_law_113 rfl ?_
      refine lv_aload_n hx hb d_L_law_114 rfl (lv_at hl 0 rfl) ?_
      refine lv_iload_n hx hb d_L_law_115 rfl (lv_at hl 3 rfl) ?_
      refine lv_iconst (v := nI 2) hx hb d_L_law_116 (by decide +kernel) ?_
      refine t_iadd (v := nI (i + 2)) hx hb d_L_law_117 (nI_add _ _) ?_
      refine wg_sld hx hb hX hbl hbA hS (show i + 2 < L by omega) hL31 d_L_law_118 ?_
      refine lv_i2l (v := (xs (i + 2)).toInt64) hx hb d_L_law_119 rfl ?_
      refine lv_ldc2 (v := 4294967295) hx hb hown (hts _ kl_L_13) d_L_law_120 ?_
      refine lv_land hx hb d_L_law_123 ?_
      obtain ⟨n, hn64, hz⟩ := wb_of (((xs (i + 1)).toInt64 <<< ((nI 32).toInt64 &&& 63)) ||| ((xs (i + 2)).toInt64 &&& 4294967295))
      refine t_lor (v := lN n) hx hb d_L_law_124 hz ?_
      refine wg_cvi (As := [.long (lN n)]) (rest := []) hx hb hml hown hts hK hPx (hDX _) hS hA rfl rfl rfl (c_X_add l D cJ cI hX0 ad _ I n hn64 hXI hXF) kc_L_15 ⟨rfl, rfl⟩ ⟨Nat.le_of_ble_eq_true rfl, Nat.le_of_ble_eq_true rfl⟩ rfl hl.1 rfl (Nat.le_of_ble_eq_true rfl) d_L_law_125 ⟨Nat.le_of_ble_eq_true rfl, Nat.le_of_ble_eq_true rfl⟩ (fun rx ux t H locs ht qx hB _ hk hS => ?_)
      have hPm := wg_keep2 hPm (hds _ _) hk
      have hPx : va_P D wg_cl (wg_WX cJ cI hX0 ad ux) H := by rw [← ht]; exact hB
      clear hB ht t hk
      refine lv_pop hx hb d_L_law_128 rfl ?_
      refine lv_aload_n hx hb d_L_law_129 rfl (lv_at hl 2 rfl) ?_
      refine lv_aload_n hx hb d_L_law_130 rfl (lv_at hl 0 rfl) ?_
      refine lv_iload_n hx hb d_L_law_131 rfl (lv_at hl 3 rfl) ?_
      refine lv_iconst (v := nI 1) hx hb d_L_law_132 (by decide +kernel) ?_
      refine t_iadd (v := nI (i + 1)) hx hb d_L_law_133 (nI_add _ _) ?_
      refine wg_sld hx hb hX hbl hbA hS (show i + 1 < L by omega) hL31 d_L_law_134 ?_
      refine lv_i2l (v := (xs (i + 1)).toInt64) hx hb d_L_law_135 rfl ?_
      refine lv_bipush (v := nI 32) hx hb d_L_law_136 (by decide +kernel) ?_
      refine lv_lshl (v := (xs (i + 1)).toInt64 <<< ((nI 32).toInt64 &&& 63)) hx hb d_L_law_138 rfl ?_
      refine lv_aload_n hx hb d_L_law_139 rfl (lv_at hl 0 rfl) ?_
      refine lv_iload_n hx hb d_L_law_140 rfl (lv_at hl 3 rfl) ?_
      refine lv_iconst (v := nI 2) hx hb d_L_law_141 (by decide +kernel) ?_
      refine t_iadd (v := nI (i + 2)) hx hb d_L_law_142 (nI_add _ _) ?_
      refine wg_sld hx hb hX hbl hbA hS (show i + 2 < L by omega) hL31 d_L_law_143 ?_
      refine lv_i2l (v := (xs (i + 2)).toInt64) hx hb d_L_law_144 rfl ?_
      refine lv_ldc2 (v := 4294967295) hx hb hown (hts _ kl_L_13) d_L_law_145 ?_
      refine lv_land hx hb d_L_law_148 ?_
      refine t_lor (v := lN n) hx hb d_L_law_149 hz ?_
      refine wg_cvi (As := [.long (lN n)]) (rest := []) hx hb hml hown hts hK hPm (hDM _) hS hA rfl rfl rfl (c_M_add l D cJ cI hM0 am _ J n hn64 hMI) kc_L_19 ⟨rfl, rfl⟩ ⟨Nat.le_of_ble_eq_true rfl, Nat.le_of_ble_eq_true rfl⟩ rfl hl.1 rfl (Nat.le_of_ble_eq_true rfl) d_L_law_150 ⟨Nat.le_of_ble_eq_true rfl, Nat.le_of_ble_eq_true rfl⟩ (fun rm um t H locs ht qm hB _ hk hS => ?_)
      have hPx := wg_keep2 hPx (wg_dis_sym (hds _ _)) hk
      have hPm : va_P D wg_cl (wg_WM cJ cI hM0 am um) H := by rw [← ht]; exact hB
      clear hB ht t hk
      refine lv_pop hx hb d_L_law_153 rfl ?_
      refine lv_goto (tgt := 535) hx hb d_L_law_154 (by decide) ?_
      obtain ⟨hEQ, hXI, hMI, hrel, hXF⟩ := wg_rel_add hrel hXF qx qm
      refine lv_iinc (v := nI (i + 4)) (k := 3) (lv' := [(3, .int (nI (i + 4))), (0, .ref b), (1, .ref hX0), (2, .ref hM0)]) hx hb d_L_law_535 hl rfl (wg_iinc4 i) (by decide) rfl (fun ls hl => ?_)
      refine lv_goto (tgt := 18) hx hb d_L_law_538 (by decide) ?_
      exact ih (i + 4) _ _ _ _ _ ⟨by omega, hXI, hMI, hrel, hXF, hPx, hPm, hS, lv_sub hl [1, 2, 3, 0] rfl⟩ (by omega)
    · refine lv_tableIn (off := 125) (tgt := 157) hx hb d_L_law_32 (by decide +kernel) (by decide +kernel) (by decide +kernel) (by decide) ?_
      refine lv_aload_n hx hb d_L_law_157 rfl (lv_at hl 1 rfl) ?_
      refine wg_cvi (As := []) (rest := []) hx hb hml hown hts hK hPx (hDX _) hS hA rfl rfl rfl (c_X_seal l D cJ cI hX0 ad _ I hXI) kc_L_20 ⟨rfl, rfl⟩ ⟨Nat.le_of_ble_eq_true rfl, Nat.le_of_ble_eq_true rfl⟩ rfl hl.1 rfl (Nat.le_of_ble_eq_true rfl) d_L_law_158 ⟨Nat.le_of_ble_eq_true rfl, Nat.le_of_ble_eq_true rfl⟩ (fun rx ux t H locs ht qx hB _ hk hS => ?_)
      have hPm := wg_keep2 hPm (hds _ _) hk
      have hPx : va_P D wg_cl (wg_WX cJ cI hX0 ad ux) H := by rw [← ht]; exact hB
      clear hB ht t hk
      refine lv_pop hx hb d_L_law_161 rfl ?_
      refine lv_aload_n hx hb d_L_law_162 rfl (lv_at hl 2 rfl) ?_
      refine wg_cvi (As := []) (rest := []) hx hb hml hown hts hK hPm (hDM _) hS hA rfl rfl rfl (c_M_seal l D cJ cI hM0 am _ J hMI) kc_L_24 ⟨rfl, rfl⟩ ⟨Nat.le_of_ble_eq_true rfl, Nat.le_of_ble_eq_true rfl⟩ rfl hl.1 rfl (Nat.le_of_ble_eq_true rfl) d_L_law_163 ⟨Nat.le_of_ble_eq_true rfl, Nat.le_of_ble_eq_true rfl⟩ (fun rm um t H locs ht qm hB _ hk hS => ?_)
      have hPx := wg_keep2 hPx (wg_dis_sym (hds _ _)) hk
      have hPm : va_P D wg_cl (wg_WM cJ cI hM0 am um) H := by rw [← ht]; exact hB
      clear hB ht t hk
      refine lv_pop hx hb d_L_law_166 rfl ?_
      refine lv_goto (tgt := 535) hx hb d_L_law_167 (by decide) ?_
      obtain ⟨hEQ, hXI, hMI, hrel, hXF⟩ := wg_rel_seal hrel hXI hMI hXF qx qm
      refine lv_iinc (v := nI (i + 4)) (k := 3) (lv' := [(3, .int (nI (i + 4))), (0, .ref b), (1, .ref hX0), (2, .ref hM0)]) hx hb d_L_law_535 hl rfl (wg_iinc4 i) (by decide) rfl (fun ls hl => ?_)
      refine lv_goto (tgt := 18) hx hb d_L_law_538 (by decide) ?_
      exact ih (i + 4) _ _ _ _ _ ⟨by omega, hXI, hMI, hrel, hXF, hPx, hPm, hS, lv_sub hl [1, 2, 3, 0] rfl⟩ (by omega)
    · refine lv_tableIn (off := 138) (tgt := 170) hx hb d_L_law_32 (by decide +kernel) (by decide +kernel) (by decide +kernel) (by decide) ?_
      refine lv_aload_n hx hb d_L_law_170 rfl (lv_at hl 1 rfl) ?_
      refine wg_cvv (As := []) (rest := []) hx hb hml hown hts hK hPx (hDX _) hS hA rfl rfl rfl (c_X_clear l D cJ cI hX0 ad _ I ) kc_L_25 ⟨rfl, rfl⟩ ⟨Nat.le_of_ble_eq_true rfl, Nat.le_of_ble_eq_true rfl⟩ rfl hl.1 rfl (Nat.le_of_ble_eq_true rfl) d_L_law_171 ⟨Nat.le_of_ble_eq_true rfl, Nat.le_of_ble_eq_true rfl⟩ (fun ux t H locs ht qx hB _ hk hS => ?_)
      have hPm := wg_keep2 hPm (hds _ _) hk
      have hPx : va_P D wg_cl (wg_WX cJ cI hX0 ad ux) H := by rw [← ht]; exact hB
      clear hB ht t hk
      refine lv_aload_n hx hb d_L_law_174 rfl (lv_at hl 2 rfl) ?_
      refine wg_cvv (As := []) (rest := []) hx hb hml hown hts hK hPm (hDM _) hS hA rfl rfl rfl (c_M_clear l D cJ cI hM0 am _ J ) kc_L_28 ⟨rfl, rfl⟩ ⟨Nat.le_of_ble_eq_true rfl, Nat.le_of_ble_eq_true rfl⟩ rfl hl.1 rfl (Nat.le_of_ble_eq_true rfl) d_L_law_175 ⟨Nat.le_of_ble_eq_true rfl, Nat.le_of_ble_eq_true rfl⟩ (fun um t H locs ht qm hB _ hk hS => ?_)
      have hPx := wg_keep2 hPx (wg_dis_sym (hds _ _)) hk
      have hPm : va_P D wg_cl (wg_WM cJ cI hM0 am um) H := by rw [← ht]; exact hB
      clear hB ht t hk
      refine lv_goto (tgt := 535) hx hb d_L_law_178 (by decide) ?_
      obtain rfl := qx
      obtain rfl := qm
      have hrel := wg_rel_cl I J
      have hXI := wg_XI_cl hXI
      have hMI := wg_MI_cl hMI
      have hXF := wg_XF_cl I
      refine lv_iinc (v := nI (i + 4)) (k := 3) (lv' := [(3, .int (nI (i + 4))), (0, .ref b), (1, .ref hX0), (2, .ref hM0)]) hx hb d_L_law_535 hl rfl (wg_iinc4 i) (by decide) rfl (fun ls hl => ?_)
      refine lv_goto (tgt := 18) hx hb d_L_law_538 (by decide) ?_
      exact ih (i + 4) _ _ _ _ _ ⟨by omega, hXI, hMI, hrel, hXF, hPx, hPm, hS, lv_sub hl [1, 2, 3, 0] rfl⟩ (by omega)
    · refine lv_tableIn (off := 149) (tgt := 181) hx hb d_L_law_32 (by decide +kernel) (by decide +kernel) (by decide +kernel) (by decide) ?_
      refine lv_aload_n hx hb d_L_law_181 rfl (lv_at hl 1 rfl) ?_
      refine wg_cvi (As := []) (rest := []) hx hb hml hown hts hK hPx (hDX _) hS hA rfl rfl rfl (c_X_size l D cJ cI hX0 ad _ I ) kc_L_29 ⟨rfl, rfl⟩ ⟨Nat.le_of_ble_eq_true rfl, Nat.le_of_ble_eq_true rfl⟩ rfl hl.1 rfl (Nat.le_of_ble_eq_true rfl) d_L_law_182 ⟨Nat.le_of_ble_eq_true rfl, Nat.le_of_ble_eq_true rfl⟩ (fun rx ux t H locs ht qx hB _ hk hS => ?_)
      have hPm := wg_keep2 hPm (hds _ _) hk
      have hPx : va_P D wg_cl (wg_WX cJ cI hX0 ad I) H := by rw [← ht]; exact hB
      clear hB ht t hk
      refine lv_pop hx hb d_L_law_185 rfl ?_
      refine lv_aload_n hx hb d_L_law_186 rfl (lv_at hl 2 rfl) ?_
      refine wg_cvi (As := []) (rest := []) hx hb hml hown hts hK hPm (hDM _) hS hA rfl rfl rfl (c_M_size l D cJ cI hM0 am _ J ) kc_L_33 ⟨rfl, rfl⟩ ⟨Nat.le_of_ble_eq_true rfl, Nat.le_of_ble_eq_true rfl⟩ rfl hl.1 rfl (Nat.le_of_ble_eq_true rfl) d_L_law_187 ⟨Nat.le_of_ble_eq_true rfl, Nat.le_of_ble_eq_true rfl⟩ (fun rm um t H locs ht qm hB _ hk hS => ?_)
      have hPx := wg_keep2 hPx (wg_dis_sym (hds _ _)) hk
      have hPm : va_P D wg_cl (wg_WM cJ cI hM0 am J) H := by rw [← ht]; exact hB
      clear hB ht t hk
      refine lv_pop hx hb d_L_law_190 rfl ?_
      refine lv_goto (tgt := 535) hx hb d_L_law_191 (by decide) ?_
      have hEQ : rx = rm := by rw [qx, qm, hrel.1]
      refine lv_iinc (v := nI (i + 4)) (k := 3) (lv' := [(3, .int (nI (i + 4))), (0, .ref b), (1, .ref hX0), (2, .ref hM0)]) hx hb d_L_law_535 hl rfl (wg_iinc4 i) (by decide) rfl (fun ls hl => ?_)
      refine lv_goto (tgt := 18) hx hb d_L_law_538 (by decide) ?_
      exact ih (i + 4) I J _ _ _ ⟨by omega, hXI, hMI, hrel, hXF, hPx, hPm, hS, lv_sub hl [1, 2, 3, 0] rfl⟩ (by omega)
    · refine lv_tableIn (off := 162) (tgt := 194) hx hb d_L_law_32 (by decide +kernel) (by decide +kernel) (by decide +kernel) (by decide) ?_
      refine lv_aload_n hx hb d_L_law_194 rfl (lv_at hl 1 rfl) ?_
      refine lv_aload_n hx hb d_L_law_195 rfl (lv_at hl 0 rfl) ?_
      refine lv_iload_n hx hb d_L_law_196 rfl (lv_at hl 3 rfl) ?_
      refine lv_iconst (v := nI 1) hx hb d_L_law_197 (by decide +kernel) ?_
      refine t_iadd (v := nI (i + 1)) hx hb d_L_law_198 (nI_add _ _) ?_
      refine wg_sld hx hb hX hbl hbA hS (show i + 1 < L by omega) hL31 d_L_law_199 ?_
      refine wg_cvl (As := [.int (xs (i + 1))]) (rest := []) hx hb hml hown hts hK hPx (hDX _) hS hA rfl rfl rfl (c_X_word l D cJ cI hX0 ad _ I (xs (i + 1)) hXI) kc_L_34 ⟨rfl, rfl⟩ ⟨Nat.le_of_ble_eq_true rfl, Nat.le_of_ble_eq_true rfl⟩ rfl hl.1 rfl (Nat.le_of_ble_eq_true rfl) d_L_law_200 ⟨Nat.le_of_ble_eq_true rfl, Nat.le_of_ble_eq_true rfl⟩ (fun rx ux t H locs ht qx hB _ hk hS => ?_)
      have hPm := wg_keep2 hPm (hds _ _) hk
      have hPx : va_P D wg_cl (wg_WX cJ cI hX0 ad I) H := by rw [← ht]; exact hB
      clear hB ht t hk
      refine lv_aload_n hx hb d_L_law_203 rfl (lv_at hl 2 rfl) ?_
      refine lv_aload_n hx hb d_L_law_204 rfl (lv_at hl 0 rfl) ?_
      refine lv_iload_n hx hb d_L_law_205 rfl (lv_at hl 3 rfl) ?_
      refine lv_iconst (v := nI 1) hx hb d_L_law_206 (by decide +kernel) ?_
      refine t_iadd (v := nI (i + 1)) hx hb d_L_law_207 (nI_add _ _) ?_
      refine wg_sld hx hb hX hbl hbA hS (show i + 1 < L by omega) hL31 d_L_law_208 ?_
      refine wg_cvl (As := [.int (xs (i + 1))]) (rest := [.long rx]) hx hb hml hown hts hK hPm (hDM _) hS hA rfl rfl rfl (c_M_word l D cJ cI hM0 am _ J (xs (i + 1)) hMI) kc_L_38 ⟨rfl, rfl⟩ ⟨Nat.le_of_ble_eq_true rfl, Nat.le_of_ble_eq_true rfl⟩ rfl hl.1 rfl (Nat.le_of_ble_eq_true rfl) d_L_law_209 ⟨Nat.le_of_ble_eq_true rfl, Nat.le_of_ble_eq_true rfl⟩ (fun rm um t H locs ht qm hB _ hk hS => ?_)
      have hPx := wg_keep2 hPx (wg_dis_sym (hds _ _)) hk
      have hPm : va_P D wg_cl (wg_WM cJ cI hM0 am J) H := by rw [← ht]; exact hB
      clear hB ht t hk
      refine W.lcmp hx hb d_L_law_212 ?_
      have hEQ : rx = rm := wg_rel_word hrel (by have := hXI.1; omega) qx qm
      refine lv_if_eq (tgt := 535) hx hb d_L_law_213 (by decide) (fun _ => ?_) (fun h => absurd ((lg_cmp_eq _ _).mpr hEQ) h)
      refine lv_iinc (v := nI (i + 4)) (k := 3) (lv' := [(3, .int (nI (i + 4))), (0, .ref b), (1, .ref hX0), (2, .ref hM0)]) hx hb d_L_law_535 hl rfl (wg_iinc4 i) (by decide) rfl (fun ls hl => ?_)
      refine lv_goto (tgt := 18) hx hb d_L_law_538 (by decide) ?_
      exact ih (i + 4) I J _ _ _ ⟨by omega, hXI, hMI, hrel, hXF, hPx, hPm, hS, lv_sub hl [1, 2, 3, 0] rfl⟩ (by omega)
    · refine lv_tableIn (off := 186) (tgt := 218) hx hb d_L_law_32 (by decide +kernel) (by decide +kernel) (by decide +kernel) (by decide) ?_
      refine lv_aload_n hx hb d_L_law_218 rfl (lv_at hl 1 rfl) ?_
      refine lv_aload_n hx hb d_L_law_219 rfl (lv_at hl 0 rfl) ?_
      refine lv_iload_n hx hb d_L_law_220 rfl (lv_at hl 3 rfl) ?_
      refine lv_iconst (v := nI 1) hx hb d_L_law_221 (by decide +kernel) ?_
      refine t_iadd (v := nI (i + 1)) hx hb d_L_law_222 (nI_add _ _) ?_
      refine wg_sld hx hb hX hbl hbA hS (show i + 1 < L by omega) hL31 d_L_law_223 ?_
      refine lv_i2l (v := (xs (i + 1)).toInt64) hx hb d_L_law_224 rfl ?_
      refine lv_bipush (v := nI 32) hx hb d_L_law_225 (by decide +kernel) ?_
      refine lv_lshl (v := (xs (i + 1)).toInt64 <<< ((nI 32).toInt64 &&& 63)) hx hb d_L_law_227 rfl ?_
      refine lv_aload_n hx hb d_L_law_228 rfl (lv_at hl 0 rfl) ?_
      refine lv_iload_n hx hb d_L_law_229 rfl (lv_at hl 3 rfl) ?_
      refine lv_iconst (v := nI 2) hx hb d_L_law_230 (by decide +kernel) ?_
      refine t_iadd (v := nI (i + 2)) hx hb d_L_law_231 (nI_add _ _) ?_
      refine wg_sld hx hb hX hbl hbA hS (show i + 2 < L by omega) hL31 d_L_law_232 ?_
      refine lv_i2l (v := (xs (i + 2)).toInt64) hx hb d_L_law_233 rfl ?_
      refine lv_ldc2 (v := 4294967295) hx hb hown (hts _ kl_L_13) d_L_law_234 ?_
      refine lv_land hx hb d_L_law_237 ?_
      obtain ⟨n, hn64, hz⟩ := wb_of (((xs (i + 1)).toInt64 <<< ((nI 32).toInt64 &&& 63)) ||| ((xs (i + 2)).toInt64 &&& 4294967295))
      refine t_lor (v := lN n) hx hb d_L_law_238 hz ?_
      refine wg_cvi (As := [.long (lN n)]) (rest := []) hx hb hml hown hts hK hPx (hDX _) hS hA rfl rfl rfl (c_X_find l D cJ cI hX0 ad _ I n hXI) kc_L_39 ⟨rfl, rfl⟩ ⟨Nat.le_of_ble_eq_true rfl, Nat.le_of_ble_eq_true rfl⟩ rfl hl.1 rfl (Nat.le_of_ble_eq_true rfl) d_L_law_239 ⟨Nat.le_of_ble_eq_true rfl, Nat.le_of_ble_eq_true rfl⟩ (fun rx ux t H locs ht qx hB _ hk hS => ?_)
      have hPm := wg_keep2 hPm (hds _ _) hk
      have hPx : va_P D wg_cl (wg_WX cJ cI hX0 ad I) H := by rw [← ht]; exact hB
      clear hB ht t hk
      refine lv_pop hx hb d_L_law_242 rfl ?_
      refine lv_aload_n hx hb d_L_law_243 rfl (lv_at hl 2 rfl) ?_
      refine lv_aload_n hx hb d_L_law_244 rfl (lv_at hl 0 rfl) ?_
      refine lv_iload_n hx hb d_L_law_245 rfl (lv_at hl 3 rfl) ?_
      refine lv_iconst (v := nI 1) hx hb d_L_law_246 (by decide +kernel) ?_
      refine t_iadd (v := nI (i + 1)) hx hb d_L_law_247 (nI_add _ _) ?_
      refine wg_sld hx hb hX hbl hbA hS (show i + 1 < L by omega) hL31 d_L_law_248 ?_
      refine lv_i2l (v := (xs (i + 1)).toInt64) hx hb d_L_law_249 rfl ?_
      refine lv_bipush (v := nI 32) hx hb d_L_law_250 (by decide +kernel) ?_
      refine lv_lshl (v := (xs (i + 1)).toInt64 <<< ((nI 32).toInt64 &&& 63)) hx hb d_L_law_252 rfl ?_
      refine lv_aload_n hx hb d_L_law_253 rfl (lv_at hl 0 rfl) ?_
      refine lv_iload_n hx hb d_L_law_254 rfl (lv_at hl 3 rfl) ?_
      refine lv_iconst (v := nI 2) hx hb d_L_law_255 (by decide +kernel) ?_
      refine t_iadd (v := nI (i + 2)) hx hb d_L_law_256 (nI_add _ _) ?_
      refine wg_sld hx hb hX hbl hbA hS (show i + 2 < L by omega) hL31 d_L_law_257 ?_
      refine lv_i2l (v := (xs (i + 2)).toInt64) hx hb d_L_law_258 rfl ?_
      refine lv_ldc2 (v := 4294967295) hx hb hown (hts _ kl_L_13) d_L_law_259 ?_
      refine lv_land hx hb d_L_law_262 ?_
      refine t_lor (v := lN n) hx hb d_L_law_263 hz ?_
      refine wg_cvi (As := [.long (lN n)]) (rest := []) hx hb hml hown hts hK hPm (hDM _) hS hA rfl rfl rfl (c_M_find l D cJ cI hM0 am _ J n hMI) kc_L_42 ⟨rfl, rfl⟩ ⟨Nat.le_of_ble_eq_true rfl, Nat.le_of_ble_eq_true rfl⟩ rfl hl.1 rfl (Nat.le_of_ble_eq_true rfl) d_L_law_264 ⟨Nat.le_of_ble_eq_true rfl, Nat.le_of_ble_eq_true rfl⟩ (fun rm um t H locs ht qm hB _ hk hS => ?_)
      have hPx := wg_keep2 hPx (wg_dis_sym (hds _ _)) hk
      have hPm : va_P D wg_cl (wg_WM cJ cI hM0 am J) H := by rw [← ht]; exact hB
      clear hB ht t hk
      refine lv_pop hx hb d_L_law_267 rfl ?_
      refine lv_goto (tgt := 535) hx hb d_L_law_268 (by decide) ?_
      refine lv_iinc (v := nI (i + 4)) (k := 3) (lv' := [(3, .int (nI (i + 4))), (0, .ref b), (1, .ref hX0), (2, .ref hM0)]) hx hb d_L_law_535 hl rfl (wg_iinc4 i) (by decide) rfl (fun ls hl => ?_)
      refine lv_goto (tgt := 18) hx hb d_L_law_538 (by decide) ?_
      exact ih (i + 4) I J _ _ _ ⟨by omega, hXI, hMI, hrel, hXF, hPx, hPm, hS, lv_sub hl [1, 2, 3, 0] rfl⟩ (by omega)
    · refine lv_tableIn (off := 239) (tgt := 271) hx hb d_L_law_32 (by decide +kernel) (by decide +kernel) (by decide +kernel) (by decide) ?_
      refine lv_aload_n hx hb d_L_law_271 rfl (lv_at hl 1 rfl) ?_
      refine wg_cvi (As := []) (rest := []) hx hb hml hown hts hK hPx (hDX _) hS hA rfl rfl rfl (c_X_nodes l D cJ cI hX0 ad _ I ) kc_L_43 ⟨rfl, rfl⟩ ⟨Nat.le_of_ble_eq_true rfl, Nat.le_of_ble_eq_true rfl⟩ rfl hl.1 rfl (Nat.le_of_ble_eq_true rfl) d_L_law_272 ⟨Nat.le_of_ble_eq_true rfl, Nat.le_of_ble_eq_true rfl⟩ (fun rx ux t H locs ht qx hB _ hk hS => ?_)
      have hPm := wg_keep2 hPm (hds _ _) hk
      have hPx : va_P D wg_cl (wg_WX cJ cI hX0 ad I) H := by rw [← ht]; exact hB
      clear hB ht t hk
      refine lv_pop hx hb d_L_law_275 rfl ?_
      refine lv_aload_n hx hb d_L_law_276 rfl (lv_at hl 2 rfl) ?_
      refine wg_cvi (As := []) (rest := []) hx hb hml hown hts hK hPm (hDM _) hS hA rfl rfl rfl (c_M_nodes l D cJ cI hM0 am _ J hMI) kc_L_46 ⟨rfl, rfl⟩ ⟨Nat.le_of_ble_eq_true rfl, Nat.le_of_ble_eq_true rfl⟩ rfl hl.1 rfl (Nat.le_of_ble_eq_true rfl) d_L_law_277 ⟨Nat.le_of_ble_eq_true rfl, Nat.le_of_ble_eq_true rfl⟩ (fun rm um t H locs ht qm hB _ hk hS => ?_)
      have hPx := wg_keep2 hPx (wg_dis_sym (hds _ _)) hk
      have hPm : va_P D wg_cl (wg_WM cJ cI hM0 am J) H := by rw [← ht]; exact hB
      clear hB ht t hk
      refine lv_pop hx hb d_L_law_280 rfl ?_
      refine lv_goto (tgt := 535) hx hb d_L_law_281 (by decide) ?_
      refine lv_iinc (v := nI (i + 4)) (k := 3) (lv' := [(3, .int (nI (i + 4))), (0, .ref b), (1, .ref hX0), (2, .ref hM0)]) hx hb d_L_law_535 hl rfl (wg_iinc4 i) (by decide) rfl (fun ls hl => ?_)
      refine lv_goto (tgt := 18) hx hb d_L_law_538 (by decide) ?_
      exact ih (i + 4) I J _ _ _ ⟨by omega, hXI, hMI, hrel, hXF, hPx, hPm, hS, lv_sub hl [1, 2, 3, 0] rfl⟩ (by omega)
    · refine lv_tableIn (off := 252) (tgt := 284) hx hb d_L_law_32 (by decide +kernel) (by decide +kernel) (by decide +kernel) (by decide) ?_
      refine lv_aload_n hx hb d_L_law_284 rfl (lv_at hl 1 rfl) ?_
      refine lv_aload_n hx hb d_L_law_285 rfl (lv_at hl 0 rfl) ?_
      refine lv_iload_n hx hb d_L_law_286 rfl (lv_at hl 3 rfl) ?_
      refine lv_iconst (v := nI 1) hx hb d_L_law_287 (by decide +kernel) ?_
      refine t_iadd (v := nI (i + 1)) hx hb d_L_law_288 (nI_add _ _) ?_
      refine wg_sld hx hb hX hbl hbA hS (show i + 1 < L by omega) hL31 d_L_law_289 ?_
      refine lv_aload_n hx hb d_L_law_290 rfl (lv_at hl 0 rfl) ?_
      refine lv_iload_n hx hb d_L_law_291 rfl (lv_at hl 3 rfl) ?_
      refine lv_iconst (v := nI 2) hx hb d_L_law_292 (by decide +kernel) ?_
      refine t_iadd (v := nI (i + 2)) hx hb d_L_law_293 (nI_add _ _) ?_
      refine wg_sld hx hb hX hbl hbA hS (show i + 2 < L by omega) hL31 d_L_law_294 ?_
      refine wg_cvi (As := [.int (xs (i + 1)), .int (xs (i + 2))]) (rest := []) hx hb hml hown hts hK hPx (hDX _) hS hA rfl rfl rfl (c_X_step l D cJ cI hX0 ad _ I (xs (i + 1)) (xs (i + 2)) hXI) kc_L_47 ⟨rfl, rfl⟩ ⟨Nat.le_of_ble_eq_true rfl, Nat.le_of_ble_eq_true rfl⟩ rfl hl.1 rfl (Nat.le_of_ble_eq_true rfl) d_L_law_295 ⟨Nat.le_of_ble_eq_true rfl, Nat.le_of_ble_eq_true rfl⟩ (fun rx ux t H locs ht qx hB _ hk hS => ?_)
      have hPm := wg_keep2 hPm (hds _ _) hk
      have hPx : va_P D wg_cl (wg_WX cJ cI hX0 ad I) H := by rw [← ht]; exact hB
      clear hB ht t hk
      refine lv_pop hx hb d_L_law_298 rfl ?_
      refine lv_aload_n hx hb d_L_law_299 rfl (lv_at hl 2 rfl) ?_
      refine lv_aload_n hx hb d_L_law_300 rfl (lv_at hl 0 rfl) ?_
      refine lv_iload_n hx hb d_L_law_301 rfl (lv_at hl 3 rfl) ?_
      refine lv_iconst (v := nI 1) hx hb d_L_law_302 (by decide +kernel) ?_
      refine t_iadd (v := nI (i + 1)) hx hb d_L_law_303 (nI_add _ _) ?_
      refine wg_sld hx hb hX hbl hbA hS (show i + 1 < L by omega) hL31 d_L_law_304 ?_
      refine lv_aload_n hx hb d_L_law_305 rfl (lv_at hl 0 rfl) ?_
      refine lv_iload_n hx hb d_L_law_306 rfl (lv_at hl 3 rfl) ?_
      refine lv_iconst (v := nI 2) hx hb d_L_law_307 (by decide +kernel) ?_
      refine t_iadd (v := nI (i + 2)) hx hb d_L_law_308 (nI_add _ _) ?_
      refine wg_sld hx hb hX hbl hbA hS (show i + 2 < L by omega) hL31 d_L_law_309 ?_
      refine wg_cvi (As := [.int (xs (i + 1)), .int (xs (i + 2))]) (rest := []) hx hb hml hown hts hK hPm (hDM _) hS hA rfl rfl rfl (c_M_step l D cJ cI hM0 am _ J (xs (i + 1)) (xs (i + 2)) hMI) kc_L_51 ⟨rfl, rfl⟩ ⟨Nat.le_of_ble_eq_true rfl, Nat.le_of_ble_eq_true rfl⟩ rfl hl.1 rfl (Nat.le_of_ble_eq_true rfl) d_L_law_310 ⟨Nat.le_of_ble_eq_true rfl, Nat.le_of_ble_eq_true rfl⟩ (fun rm um t H locs ht qm hB _ hk hS => ?_)
      have hPx := wg_keep2 hPx (wg_dis_sym (hds _ _)) hk
      have hPm : va_P D wg_cl (wg_WM cJ cI hM0 am J) H := by rw [← ht]; exact hB
      clear hB ht t hk
      refine lv_pop hx hb d_L_law_313 rfl ?_
      refine lv_goto (tgt := 535) hx hb d_L_law_314 (by decide) ?_
      refine lv_iinc (v := nI (i + 4)) (k := 3) (lv' := [(3, .int (nI (i + 4))), (0, .ref b), (1, .ref hX0), (2, .ref hM0)]) hx hb d_L_law_535 hl rfl (wg_iinc4 i) (by decide) rfl (fun ls hl => ?_)
      refine lv_goto (tgt := 18) hx hb d_L_law_538 (by decide) ?_
      exact ih (i + 4) I J _ _ _ ⟨by omega, hXI, hMI, hrel, hXF, hPx, hPm, hS, lv_sub hl [1, 2, 3, 0] rfl⟩ (by omega)
    · refine lv_tableIn (off := 285) (tgt := 317) hx hb d_L_law_32 (by decide +kernel) (by decide +kernel) (by decide +kernel) (by decide) ?_
      refine lv_aload_n hx hb d_L_law_317 rfl (lv_at hl 1 rfl) ?_
      refine lv_aload_n hx hb d_L_law_318 rfl (lv_at hl 0 rfl) ?_
      refine lv_iload_n hx hb d_L_law_319 rfl (lv_at hl 3 rfl) ?_
      refine lv_iconst (v := nI 1) hx hb d_L_law_320 (by decide +kernel) ?_
      refine t_iadd (v := nI (i + 1)) hx hb d_L_law_321 (nI_add _ _) ?_
      refine wg_sld hx hb hX hbl hbA hS (show i + 1 < L by omega) hL31 d_L_law_322 ?_
      refine wg_cvi (As := [.int (xs (i + 1))]) (rest := []) hx hb hml hown hts hK hPx (hDX _) hS hA rfl rfl rfl (c_X_ends l D cJ cI hX0 ad _ I (xs (i + 1)) hXI) kc_L_52 ⟨rfl, rfl⟩ ⟨Nat.le_of_ble_eq_true rfl, Nat.le_of_ble_eq_true rfl⟩ rfl hl.1 rfl (Nat.le_of_ble_eq_true rfl) d_L_law_323 ⟨Nat.le_of_ble_eq_true rfl, Nat.le_of_ble_eq_true rfl⟩ (fun rx ux t H locs ht qx hB _ hk hS => ?_)
      have hPm := wg_keep2 hPm (hds _ _) hk
      have hPx : va_P D wg_cl (wg_WX cJ cI hX0 ad I) H := by rw [← ht]; exact hB
      clear hB ht t hk
      refine lv_pop hx hb d_L_law_326 rfl ?_
      refine lv_aload_n hx hb d_L_law_327 rfl (lv_at hl 2 rfl) ?_
      refine lv_aload_n hx hb d_L_law_328 rfl (lv_at hl 0 rfl) ?_
      refine lv_iload_n hx hb d_L_law_329 rfl (lv_at hl 3 rfl) ?_
      refine lv_iconst (v := nI 1) hx hb d_L_law_330 (by decide +kernel) ?_
      refine t_iadd (v := nI (i + 1)) hx hb d_L_law_331 (nI_add _ _) ?_
      refine wg_sld hx hb hX hbl hbA hS (show i + 1 < L by omega) hL31 d_L_law_332 ?_
      refine wg_cvi (As := [.int (xs (i + 1))]) (rest := []) hx hb hml hown hts hK hPm (hDM _) hS hA rfl rfl rfl (c_M_ends l D cJ cI hM0 am _ J (xs (i + 1)) hMI) kc_L_56 ⟨rfl, rfl⟩ ⟨Nat.le_of_ble_eq_true rfl, Nat.le_of_ble_eq_true rfl⟩ rfl hl.1 rfl (Nat.le_of_ble_eq_true rfl) d_L_law_333 ⟨Nat.le_of_ble_eq_true rfl, Nat.le_of_ble_eq_true rfl⟩ (fun rm um t H locs ht qm hB _ hk hS => ?_)
      have hPx := wg_keep2 hPx (wg_dis_sym (hds _ _)) hk
      have hPm : va_P D wg_cl (wg_WM cJ cI hM0 am J) H := by rw [← ht]; exact hB
      clear hB ht t hk
      refine lv_pop hx hb d_L_law_336 rfl ?_
      refine lv_goto (tgt := 535) hx hb d_L_law_337 (by decide) ?_
      refine lv_iinc (v := nI (i + 4)) (k := 3) (lv' := [(3, .int (nI (i + 4))), (0, .ref b), (1, .ref hX0), (2, .ref hM0)]) hx hb d_L_law_535 hl rfl (wg_iinc4 i) (by decide) rfl (fun ls hl => ?_)
      refine lv_goto (tgt := 18) hx hb d_L_law_538 (by decide) ?_
      exact ih (i + 4) I J _ _ _ ⟨by omega, hXI, hMI, hrel, hXF, hPx, hPm, hS, lv_sub hl [1, 2, 3, 0] rfl⟩ (by omega)
    · refine lv_tableIn (off := 308) (tgt := 340) hx hb d_L_law_32 (by decide +kernel) (by decide +kernel) (by decide +kernel) (by decide) ?_
      refine lv_aload_n hx hb d_L_law_340 rfl (lv_at hl 1 rfl) ?_
      refine lv_aload_n hx hb d_L_law_341 rfl (lv_at hl 0 rfl) ?_
      refine lv_iload_n hx hb d_L_law_342 rfl (lv_at hl 3 rfl) ?_
      refine lv_iconst (v := nI 1) hx hb d_L_law_343 (by decide +kernel) ?_
      refine t_iadd (v := nI (i + 1)) hx hb d_L_law_344 (nI_add _ _) ?_
      refine wg_sld hx hb hX hbl hbA hS (show i + 1 < L by omega) hL31 d_L_law_345 ?_
      refine wg_cvi (As := [.int (xs (i + 1))]) (rest := []) hx hb hml hown hts hK hPx (hDX _) hS hA rfl rfl rfl (c_X_endings l D cJ cI hX0 ad _ I (xs (i + 1)) hXI) kc_L_57 ⟨rfl, rfl⟩ ⟨Nat.le_of_ble_eq_true rfl, Nat.le_of_ble_eq_true rfl⟩ rfl hl.1 rfl (Nat.le_of_ble_eq_true rfl) d_L_law_346 ⟨Nat.le_of_ble_eq_true rfl, Nat.le_of_ble_eq_true rfl⟩ (fun rx ux t H locs ht qx hB _ hk hS => ?_)
      have hPm := wg_keep2 hPm (hds _ _) hk
      have hPx : va_P D wg_cl (wg_WX cJ cI hX0 ad I) H := by rw [← ht]; exact hB
      clear hB ht t hk
      refine lv_pop hx hb d_L_law_349 rfl ?_
      refine lv_aload_n hx hb d_L_law_350 rfl (lv_at hl 2 rfl) ?_
      refine lv_aload_n hx hb d_L_law_351 rfl (lv_at hl 0 rfl) ?_
      refine lv_iload_n hx hb d_L_law_352 rfl (lv_at hl 3 rfl) ?_
      refine lv_iconst (v := nI 1) hx hb d_L_law_353 (by decide +kernel) ?_
      refine t_iadd (v := nI (i + 1)) hx hb d_L_law_354 (nI_add _ _) ?_
      refine wg_sld hx hb hX hbl hbA hS (show i + 1 < L by omega) hL31 d_L_law_355 ?_
      refine wg_cvi (As := [.int (xs (i + 1))]) (rest := []) hx hb hml hown hts hK hPm (hDM _) hS hA rfl rfl rfl (c_M_endings l D cJ cI hM0 am _ J (xs (i + 1)) hMI) kc_L_61 ⟨rfl, rfl⟩ ⟨Nat.le_of_ble_eq_true rfl, Nat.le_of_ble_eq_true rfl⟩ rfl hl.1 rfl (Nat.le_of_ble_eq_true rfl) d_L_law_356 ⟨Nat.le_of_ble_eq_true rfl, Nat.le_of_ble_eq_true rfl⟩ (fun rm um t H locs ht qm hB _ hk hS => ?_)
      have hPx := wg_keep2 hPx (wg_dis_sym (hds _ _)) hk
      have hPm : va_P D wg_cl (wg_WM cJ cI hM0 am J) H := by rw [← ht]; exact hB
      clear hB ht t hk
      refine lv_pop hx hb d_L_law_359 rfl ?_
      refine lv_goto (tgt := 535) hx hb d_L_law_360 (by decide) ?_
      refine lv_iinc (v := nI (i + 4)) (k := 3) (lv' := [(3, .int (nI (i + 4))), (0, .ref b), (1, .ref hX0), (2, .ref hM0)]) hx hb d_L_law_535 hl rfl (wg_iinc4 i) (by decide) rfl (fun ls hl => ?_)
      refine lv_goto (tgt := 18) hx hb d_L_law_538 (by decide) ?_
      exact ih (i + 4) I J _ _ _ ⟨by omega, hXI, hMI, hrel, hXF, hPx, hPm, hS, lv_sub hl [1, 2, 3, 0] rfl⟩ (by omega)
    · refine lv_tableIn (off := 331) (tgt := 363) hx hb d_L_law_32 (by decide +kernel) (by decide +kernel) (by decide +kernel) (by decide) ?_
      refine lv_aload_n hx hb d_L_law_363 rfl (lv_at hl 1 rfl) ?_
      refine lv_aload_n hx hb d_L_law_364 rfl (lv_at hl 0 rfl) ?_
      refine lv_iload_n hx hb d_L_law_365 rfl (lv_at hl 3 rfl) ?_
      refine lv_iconst (v := nI 1) hx hb d_L_law_366 (by decide +kernel) ?_
      refine t_iadd (v := nI (i + 1)) hx hb d_L_law_367 (nI_add _ _) ?_
      refine wg_sld hx hb hX hbl hbA hS (show i + 1 < L by omega) hL31 d_L_law_368 ?_
      refine lv_i2l (v := (xs (i + 1)).toInt64) hx hb d_L_law_369 rfl ?_
      refine lv_bipush (v := nI 32) hx hb d_L_law_370 (by decide +kernel) ?_
      refine lv_lshl (v := (xs (i + 1)).toInt64 <<< ((nI 32).toInt64 &&& 63)) hx hb d_L_law_372 rfl ?_
      refine lv_aload_n hx hb d_L_law_373 rfl (lv_at hl 0 rfl) ?_
      refine lv_iload_n hx hb d_L_law_374 rfl (lv_at hl 3 rfl) ?_
      refine lv_iconst (v := nI 2) hx hb d_L_law_375 (by decide +kernel) ?_
      refine t_iadd (v := nI (i + 2)) hx hb d_L_law_376 (nI_add _ _) ?_
      refine wg_sld hx hb hX hbl hbA hS (show i + 2 < L by omega) hL31 d_L_law_377 ?_
      refine lv_i2l (v := (xs (i + 2)).toInt64) hx hb d_L_law_378 rfl ?_
      refine lv_ldc2 (v := 4294967295) hx hb hown (hts _ kl_L_13) d_L_law_379 ?_
      refine lv_land hx hb d_L_law_382 ?_
      obtain ⟨n, hn64, hz⟩ := wb_of (((xs (i + 1)).toInt64 <<< ((nI 32).toInt64 &&& 63)) ||| ((xs (i + 2)).toInt64 &&& 4294967295))
      refine t_lor (v := lN n) hx hb d_L_law_383 hz ?_
      refine lv_aload_n hx hb d_L_law_384 rfl (lv_at hl 0 rfl) ?_
      refine lv_iload_n hx hb d_L_law_385 rfl (lv_at hl 3 rfl) ?_
      refine lv_iconst (v := nI 3) hx hb d_L_law_386 (by decide +kernel) ?_
      refine t_iadd (v := nI (i + 3)) hx hb d_L_law_387 (nI_add _ _) ?_
      refine wg_sld hx hb hX hbl hbA hS (show i + 3 < L by omega) hL31 d_L_law_388 ?_
      refine wg_cvi (As := [.long (lN n), .int (xs (i + 3))]) (rest := []) hx hb hml hown hts hK hPx (hDX _) hS hA rfl rfl rfl (c_X_distance l D cJ cI hX0 ad _ I n (xs (i + 3)) hn64 hXI hXF) kc_L_62 ⟨rfl, rfl⟩ ⟨Nat.le_of_ble_eq_true rfl, Nat.le_of_ble_eq_true rfl⟩ rfl hl.1 rfl (Nat.le_of_ble_eq_true rfl) d_L_law_389 ⟨Nat.le_of_ble_eq_true rfl, Nat.le_of_ble_eq_true rfl⟩ (fun rx ux t H locs ht qx hB _ hk hS => ?_)
      have hPm := wg_keep2 hPm (hds _ _) hk
      have hPx : va_P D wg_cl (wg_WX cJ cI hX0 ad ux) H := by rw [← ht]; exact hB
      clear hB ht t hk
      refine lv_pop hx hb d_L_law_392 rfl ?_
      refine lv_aload_n hx hb d_L_law_393 rfl (lv_at hl 2 rfl) ?_
      refine lv_aload_n hx hb d_L_law_394 rfl (lv_at hl 0 rfl) ?_
      refine lv_iload_n hx hb d_L_law_395 rfl (lv_at hl 3 rfl) ?_
      refine lv_iconst (v := nI 1) hx hb d_L_law_396 (by decide +kernel) ?_
      refine t_iadd (v := nI (i + 1)) hx hb d_L_law_397 (nI_add _ _) ?_
      refine wg_sld hx hb hX hbl hbA hS (show i + 1 < L by omega) hL31 d_L_law_398 ?_
      refine lv_i2l (v := (xs (i + 1)).toInt64) hx hb d_L_law_399 rfl ?_
      refine lv_bipush (v := nI 32) hx hb d_L_law_400 (by decide +kernel) ?_
      refine lv_lshl (v := (xs (i + 1)).toInt64 <<< ((nI 32).toInt64 &&& 63)) hx hb d_L_law_402 rfl ?_
      refine lv_aload_n hx hb d_L_law_403 rfl (lv_at hl 0 rfl) ?_
      refine lv_iload_n hx hb d_L_law_404 rfl (lv_at hl 3 rfl) ?_
      refine lv_iconst (v := nI 2) hx hb d_L_law_405 (by decide +kernel) ?_
      refine t_iadd (v := nI (i + 2)) hx hb d_L_law_406 (nI_add _ _) ?_
      refine wg_sld hx hb hX hbl hbA hS (show i + 2 < L by omega) hL31 d_L_law_407 ?_
      refine lv_i2l (v := (xs (i + 2)).toInt64) hx hb d_L_law_408 rfl ?_
      refine lv_ldc2 (v := 4294967295) hx hb hown (hts _ kl_L_13) d_L_law_409 ?_
      refine lv_land hx hb d_L_law_412 ?_
      refine t_lor (v := lN n) hx hb d_L_law_413 hz ?_
      refine lv_aload_n hx hb d_L_law_414 rfl (lv_at hl 0 rfl) ?_
      refine lv_iload_n hx hb d_L_law_415 rfl (lv_at hl 3 rfl) ?_
      refine lv_iconst (v := nI 3) hx hb d_L_law_416 (by decide +kernel) ?_
      refine t_iadd (v := nI (i + 3)) hx hb d_L_law_417 (nI_add _ _) ?_
      refine wg_sld hx hb hX hbl hbA hS (show i + 3 < L by omega) hL31 d_L_law_418 ?_
      refine wg_cvi (As := [.long (lN n), .int (xs (i + 3))]) (rest := []) hx hb hml hown hts hK hPm (hDM _) hS hA rfl rfl rfl (c_M_distance l D cJ cI hM0 am _ J n (xs (i + 3)) hn64 hMI) kc_L_66 ⟨rfl, rfl⟩ ⟨Nat.le_of_ble_eq_true rfl, Nat.le_of_ble_eq_true rfl⟩ rfl hl.1 rfl (Nat.le_of_ble_eq_true rfl) d_L_law_419 ⟨Nat.le_of_ble_eq_true rfl, Nat.le_of_ble_eq_true rfl⟩ (fun rm um t H locs ht qm hB _ hk hS => ?_)
      have hPx := wg_keep2 hPx (wg_dis_sym (hds _ _)) hk
      have hPm : va_P D wg_cl (wg_WM cJ cI hM0 am um) H := by rw [← ht]; exact hB
      clear hB ht t hk
      refine lv_pop hx hb d_L_law_422 rfl ?_
      refine lv_goto (tgt := 535) hx hb d_L_law_423 (by decide) ?_
      obtain ⟨hEQ, hXI, hMI, hrel, hXF⟩ := wg_rel_dist hrel hXI hMI hXF qx qm
      refine lv_iinc (v := nI (i + 4)) (k := 3) (lv' := [(3, .int (nI (i + 4))), (0, .ref b), (1, .ref hX0), (2, .ref hM0)]) hx hb d_L_law_535 hl rfl (wg_iinc4 i) (by decide) rfl (fun ls hl => ?_)
      refine lv_goto (tgt := 18) hx hb d_L_law_538 (by decide) ?_
      exact ih (i + 4) _ _ _ _ _ ⟨by omega, hXI, hMI, hrel, hXF, hPx, hPm, hS, lv_sub hl [1, 2, 3, 0] rfl⟩ (by omega)
    · refine lv_tableIn (off := 394) (tgt := 426) hx hb d_L_law_32 (by decide +kernel) (by decide +kernel) (by decide +kernel) (by decide) ?_
      refine lv_aload_n hx hb d_L_law_426 rfl (lv_at hl 1 rfl) ?_
      refine lv_aload_n hx hb d_L_law_427 rfl (lv_at hl 0 rfl) ?_
      refine lv_iload_n hx hb d_L_law_428 rfl (lv_at hl 3 rfl) ?_
      refine lv_iconst (v := nI 1) hx hb d_L_law_429 (by decide +kernel) ?_
      refine t_iadd (v := nI (i + 1)) hx hb d_L_law_430 (nI_add _ _) ?_
      refine wg_sld hx hb hX hbl hbA hS (show i + 1 < L by omega) hL31 d_L_law_431 ?_
      refine lv_i2l (v := (xs (i + 1)).toInt64) hx hb d_L_law_432 rfl ?_
      refine lv_bipush (v := nI 32) hx hb d_L_law_433 (by decide +kernel) ?_
      refine lv_lshl (v := (xs (i + 1)).toInt64 <<< ((nI 32).toInt64 &&& 63)) hx hb d_L_law_435 rfl ?_
      refine lv_aload_n hx hb d_L_law_436 rfl (lv_at hl 0 rfl) ?_
      refine lv_iload_n hx hb d_L_law_437 rfl (lv_at hl 3 rfl) ?_
      refine lv_iconst (v := nI 2) hx hb d_L_law_438 (by decide +kernel) ?_
      refine t_iadd (v := nI (i + 2)) hx hb d_L_law_439 (nI_add _ _) ?_
      refine wg_sld hx hb hX hbl hbA hS (show i + 2 < L by omega) hL31 d_L_law_440 ?_
      refine lv_i2l (v := (xs (i + 2)).toInt64) hx hb d_L_law_441 rfl ?_
      refine lv_ldc2 (v := 4294967295) hx hb hown (hts _ kl_L_13) d_L_law_442 ?_
      refine lv_land hx hb d_L_law_445 ?_
      obtain ⟨n, hn64, hz⟩ := wb_of (((xs (i + 1)).toInt64 <<< ((nI 32).toInt64 &&& 63)) ||| ((xs (i + 2)).toInt64 &&& 4294967295))
      refine t_lor (v := lN n) hx hb d_L_law_446 hz ?_
      refine lv_aload_n hx hb d_L_law_447 rfl (lv_at hl 0 rfl) ?_
      refine lv_iload_n hx hb d_L_law_448 rfl (lv_at hl 3 rfl) ?_
      refine lv_iconst (v := nI 3) hx hb d_L_law_449 (by decide +kernel) ?_
      refine t_iadd (v := nI (i + 3)) hx hb d_L_law_450 (nI_add _ _) ?_
      refine wg_sld hx hb hX hbl hbA hS (show i + 3 < L by omega) hL31 d_L_law_451 ?_
      refine wg_cvi (As := [.long (lN n), .int (xs (i + 3))]) (rest := []) hx hb hml hown hts hK hPx (hDX _) hS hA rfl rfl rfl (c_X_search l D cJ cI hX0 ad _ I n (xs (i + 3)) hn64 hXI hXF) kc_L_67 ⟨rfl, rfl⟩ ⟨Nat.le_of_ble_eq_true rfl, Nat.le_of_ble_eq_true rfl⟩ rfl hl.1 rfl (Nat.le_of_ble_eq_true rfl) d_L_law_452 ⟨Nat.le_of_ble_eq_true rfl, Nat.le_of_ble_eq_true rfl⟩ (fun rx ux t H locs ht qx hB _ hk hS => ?_)
      have hPm := wg_keep2 hPm (hds _ _) hk
      have hPx : va_P D wg_cl (wg_WX cJ cI hX0 ad ux) H := by rw [← ht]; exact hB
      clear hB ht t hk
      refine lv_pop hx hb d_L_law_455 rfl ?_
      refine lv_aload_n hx hb d_L_law_456 rfl (lv_at hl 2 rfl) ?_
      refine lv_aload_n hx hb d_L_law_457 rfl (lv_at hl 0 rfl) ?_
      refine lv_iload_n hx hb d_L_law_458 rfl (lv_at hl 3 rfl) ?_
      refine lv_iconst (v := nI 1) hx hb d_L_law_459 (by decide +kernel) ?_
      refine t_iadd (v := nI (i + 1)) hx hb d_L_law_460 (nI_add _ _) ?_
      refine wg_sld hx hb hX hbl hbA hS (show i + 1 < L by omega) hL31 d_L_law_461 ?_
      refine lv_i2l (v := (xs (i + 1)).toInt64) hx hb d_L_law_462 rfl ?_
      refine lv_bipush (v := nI 32) hx hb d_L_law_463 (by decide +kernel) ?_
      refine lv_lshl (v := (xs (i + 1)).toInt64 <<< ((nI 32).toInt64 &&& 63)) hx hb d_L_law_465 rfl ?_
      refine lv_aload_n hx hb d_L_law_466 rfl (lv_at hl 0 rfl) ?_
      refine lv_iload_n hx hb d_L_law_467 rfl (lv_at hl 3 rfl) ?_
      refine lv_iconst (v := nI 2) hx hb d_L_law_468 (by decide +kernel) ?_
      refine t_iadd (v := nI (i + 2)) hx hb d_L_law_469 (nI_add _ _) ?_
      refine wg_sld hx hb hX hbl hbA hS (show i + 2 < L by omega) hL31 d_L_law_470 ?_
      refine lv_i2l (v := (xs (i + 2)).toInt64) hx hb d_L_law_471 rfl ?_
      refine lv_ldc2 (v := 4294967295) hx hb hown (hts _ kl_L_13) d_L_law_472 ?_
      refine lv_land hx hb d_L_law_475 ?_
      refine t_lor (v := lN n) hx hb d_L_law_476 hz ?_
      refine lv_aload_n hx hb d_L_law_477 rfl (lv_at hl 0 rfl) ?_
      refine lv_iload_n hx hb d_L_law_478 rfl (lv_at hl 3 rfl) ?_
      refine lv_iconst (v := nI 3) hx hb d_L_law_479 (by decide +kernel) ?_
      refine t_iadd (v := nI (i + 3)) hx hb d_L_law_480 (nI_add _ _) ?_
      refine wg_sld hx hb hX hbl hbA hS (show i + 3 < L by omega) hL31 d_L_law_481 ?_
      refine wg_cvi (As := [.long (lN n), .int (xs (i + 3))]) (rest := []) hx hb hml hown hts hK hPm (hDM _) hS hA rfl rfl rfl (c_M_search l D cJ cI hM0 am _ J n (xs (i + 3)) hn64 hMI) kc_L_70 ⟨rfl, rfl⟩ ⟨Nat.le_of_ble_eq_true rfl, Nat.le_of_ble_eq_true rfl⟩ rfl hl.1 rfl (Nat.le_of_ble_eq_true rfl) d_L_law_482 ⟨Nat.le_of_ble_eq_true rfl, Nat.le_of_ble_eq_true rfl⟩ (fun rm um t H locs ht qm hB _ hk hS => ?_)
      have hPx := wg_keep2 hPx (wg_dis_sym (hds _ _)) hk
      have hPm : va_P D wg_cl (wg_WM cJ cI hM0 am um) H := by rw [← ht]; exact hB
      clear hB ht t hk
      refine lv_pop hx hb d_L_law_485 rfl ?_
      refine lv_goto (tgt := 535) hx hb d_L_law_486 (by decide) ?_
      obtain ⟨hEQ, hXI, hMI, hrel, hXF⟩ := wg_rel_search hrel hXI hMI hXF qx qm
      refine lv_iinc (v := nI (i + 4)) (k := 3) (lv' := [(3, .int (nI (i + 4))), (0, .ref b), (1, .ref hX0), (2, .ref hM0)]) hx hb d_L_law_535 hl rfl (wg_iinc4 i) (by decide) rfl (fun ls hl => ?_)
      refine lv_goto (tgt := 18) hx hb d_L_law_538 (by decide) ?_
      exact ih (i + 4) _ _ _ _ _ ⟨by omega, hXI, hMI, hrel, hXF, hPx, hPm, hS, lv_sub hl [1, 2, 3, 0] rfl⟩ (by omega)
    · refine lv_tableIn (off := 457) (tgt := 489) hx hb d_L_law_32 (by decide +kernel) (by decide +kernel) (by decide +kernel) (by decide) ?_
      refine lv_aload_n hx hb d_L_law_489 rfl (lv_at hl 1 rfl) ?_
      refine lv_aload_n hx hb d_L_law_490 rfl (lv_at hl 0 rfl) ?_
      refine lv_iload_n hx hb d_L_law_491 rfl (lv_at hl 3 rfl) ?_
      refine lv_iconst (v := nI 1) hx hb d_L_law_492 (by decide +kernel) ?_
      refine t_iadd (v := nI (i + 1)) hx hb d_L_law_493 (nI_add _ _) ?_
      refine wg_sld hx hb hX hbl hbA hS (show i + 1 < L by omega) hL31 d_L_law_494 ?_
      refine wg_cvi (As := [.int (xs (i + 1))]) (rest := []) hx hb hml hown hts hK hPx (hDX _) hS hA rfl rfl rfl (c_X_result l D cJ cI hX0 ad _ I (xs (i + 1)) hXI) kc_L_71 ⟨rfl, rfl⟩ ⟨Nat.le_of_ble_eq_true rfl, Nat.le_of_ble_eq_true rfl⟩ rfl hl.1 rfl (Nat.le_of_ble_eq_true rfl) d_L_law_495 ⟨Nat.le_of_ble_eq_true rfl, Nat.le_of_ble_eq_true rfl⟩ (fun rx ux t H locs ht qx hB _ hk hS => ?_)
      have hPm := wg_keep2 hPm (hds _ _) hk
      have hPx : va_P D wg_cl (wg_WX cJ cI hX0 ad I) H := by rw [← ht]; exact hB
      clear hB ht t hk
      refine lv_pop hx hb d_L_law_498 rfl ?_
      refine lv_aload_n hx hb d_L_law_499 rfl (lv_at hl 2 rfl) ?_
      refine lv_aload_n hx hb d_L_law_500 rfl (lv_at hl 0 rfl) ?_
      refine lv_iload_n hx hb d_L_law_501 rfl (lv_at hl 3 rfl) ?_
      refine lv_iconst (v := nI 1) hx hb d_L_law_502 (by decide +kernel) ?_
      refine t_iadd (v := nI (i + 1)) hx hb d_L_law_503 (nI_add _ _) ?_
      refine wg_sld hx hb hX hbl hbA hS (show i + 1 < L by omega) hL31 d_L_law_504 ?_
      refine wg_cvi (As := [.int (xs (i + 1))]) (rest := []) hx hb hml hown hts hK hPm (hDM _) hS hA rfl rfl rfl (c_M_result l D cJ cI hM0 am _ J (xs (i + 1)) hMI) kc_L_74 ⟨rfl, rfl⟩ ⟨Nat.le_of_ble_eq_true rfl, Nat.le_of_ble_eq_true rfl⟩ rfl hl.1 rfl (Nat.le_of_ble_eq_true rfl) d_L_law_505 ⟨Nat.le_of_ble_eq_true rfl, Nat.le_of_ble_eq_true rfl⟩ (fun rm um t H locs ht qm hB _ hk hS => ?_)
      have hPx := wg_keep2 hPx (wg_dis_sym (hds _ _)) hk
      have hPm : va_P D wg_cl (wg_WM cJ cI hM0 am J) H := by rw [← ht]; exact hB
      clear hB ht t hk
      refine lv_pop hx hb d_L_law_508 rfl ?_
      refine lv_goto (tgt := 535) hx hb d_L_law_509 (by decide) ?_
      have hEQ : rx = rm := wg_rel_res hrel.2.2.2.1 (by have := hXI.2.2.2.1; omega) (fun i hi => (hrel.2.2.2.2 i hi).1) qx qm
      refine lv_iinc (v := nI (i + 4)) (k := 3) (lv' := [(3, .int (nI (i + 4))), (0, .ref b), (1, .ref hX0), (2, .ref hM0)]) hx hb d_L_law_535 hl rfl (wg_iinc4 i) (by decide) rfl (fun ls hl => ?_)
      refine lv_goto (tgt := 18) hx hb d_L_law_538 (by decide) ?_
      exact ih (i + 4) I J _ _ _ ⟨by omega, hXI, hMI, hrel, hXF, hPx, hPm, hS, lv_sub hl [1, 2, 3, 0] rfl⟩ (by omega)
    · refine lv_tableIn (off := 480) (tgt := 512) hx hb d_L_law_32 (by decide +kernel) (by decide +kernel) (by decide +kernel) (by decide) ?_
      refine lv_aload_n hx hb d_L_law_512 rfl (lv_at hl 1 rfl) ?_
      refine lv_aload_n hx hb d_L_law_513 rfl (lv_at hl 0 rfl) ?_
      refine lv_iload_n hx hb d_L_law_514 rfl (lv_at hl 3 rfl) ?_
      refine lv_iconst (v := nI 1) hx hb d_L_law_515 (by decide +kernel) ?_
      refine t_iadd (v := nI (i + 1)) hx hb d_L_law_516 (nI_add _ _) ?_
      refine wg_sld hx hb hX hbl hbA hS (show i + 1 < L by omega) hL31 d_L_law_517 ?_
      refine wg_cvi (As := [.int (xs (i + 1))]) (rest := []) hx hb hml hown hts hK hPx (hDX _) hS hA rfl rfl rfl (c_X_far l D cJ cI hX0 ad _ I (xs (i + 1)) hXI) kc_L_75 ⟨rfl, rfl⟩ ⟨Nat.le_of_ble_eq_true rfl, Nat.le_of_ble_eq_true rfl⟩ rfl hl.1 rfl (Nat.le_of_ble_eq_true rfl) d_L_law_518 ⟨Nat.le_of_ble_eq_true rfl, Nat.le_of_ble_eq_true rfl⟩ (fun rx ux t H locs ht qx hB _ hk hS => ?_)
      have hPm := wg_keep2 hPm (hds _ _) hk
      have hPx : va_P D wg_cl (wg_WX cJ cI hX0 ad I) H := by rw [← ht]; exact hB
      clear hB ht t hk
      refine lv_pop hx hb d_L_law_521 rfl ?_
      refine lv_aload_n hx hb d_L_law_522 rfl (lv_at hl 2 rfl) ?_
      refine lv_aload_n hx hb d_L_law_523 rfl (lv_at hl 0 rfl) ?_
      refine lv_iload_n hx hb d_L_law_524 rfl (lv_at hl 3 rfl) ?_
      refine lv_iconst (v := nI 1) hx hb d_L_law_525 (by decide +kernel) ?_
      refine t_iadd (v := nI (i + 1)) hx hb d_L_law_526 (nI_add _ _) ?_
      refine wg_sld hx hb hX hbl hbA hS (show i + 1 < L by omega) hL31 d_L_law_527 ?_
      refine wg_cvi (As := [.int (xs (i + 1))]) (rest := []) hx hb hml hown hts hK hPm (hDM _) hS hA rfl rfl rfl (c_M_far l D cJ cI hM0 am _ J (xs (i + 1)) hMI) kc_L_78 ⟨rfl, rfl⟩ ⟨Nat.le_of_ble_eq_true rfl, Nat.le_of_ble_eq_true rfl⟩ rfl hl.1 rfl (Nat.le_of_ble_eq_true rfl) d_L_law_528 ⟨Nat.le_of_ble_eq_true rfl, Nat.le_of_ble_eq_true rfl⟩ (fun rm um t H locs ht qm hB _ hk hS => ?_)
      have hPx := wg_keep2 hPx (wg_dis_sym (hds _ _)) hk
      have hPm : va_P D wg_cl (wg_WM cJ cI hM0 am J) H := by rw [← ht]; exact hB
      clear hB ht t hk
      refine lv_pop hx hb d_L_law_531 rfl ?_
      refine lv_goto (tgt := 535) hx hb d_L_law_532 (by decide) ?_
      have hEQ : rx = rm := wg_rel_res hrel.2.2.2.1 (by have := hXI.2.2.2.1; omega) (fun i hi => (hrel.2.2.2.2 i hi).2) qx qm
      refine lv_iinc (v := nI (i + 4)) (k := 3) (lv' := [(3, .int (nI (i + 4))), (0, .ref b), (1, .ref hX0), (2, .ref hM0)]) hx hb d_L_law_535 hl rfl (wg_iinc4 i) (by decide) rfl (fun ls hl => ?_)
      refine lv_goto (tgt := 18) hx hb d_L_law_538 (by decide) ?_
      exact ih (i + 4) I J _ _ _ ⟨by omega, hXI, hMI, hrel, hXF, hPx, hPm, hS, lv_sub hl [1, 2, 3, 0] rfl⟩ (by omega)
    · refine lv_tableOut (tgt := 535) hx hb d_L_law_32 (Or.inr (by rw [nI_toInt (by omega)]; omega)) (by decide) ?_
      refine lv_iinc (v := nI (i + 4)) (k := 3) (lv' := [(3, .int (nI (i + 4))), (0, .ref b), (1, .ref hX0), (2, .ref hM0)]) hx hb d_L_law_535 hl rfl (wg_iinc4 i) (by decide) rfl (fun ls hl => ?_)
      refine lv_goto (tgt := 18) hx hb d_L_law_538 (by decide) ?_
      exact ih (i + 4) I J _ _ _ ⟨by omega, hXI, hMI, hrel, hXF, hPx, hPm, hS, lv_sub hl [1, 2, 3, 0] rfl⟩ (by omega)
end
section
set_option maxHeartbeats 4000000 in
theorem lw_walk (l : Launch) (b : Addr) (xs : List Int32) : MetFree l x (headSpec (Jvm.Cond.code x code maxLocals ret :: tables_1) room_1) (lw_P b xs) (fun _ _ _ _ _ => True) lw_Q := by
  refine MetFree.of_bodyS (code := code) (maxLocals := maxLocals) (ret := ret) (by decide) ?_ ?_
  · intro args s m h hn
    obtain ⟨meth, c, h1, h2, h3, h4, h5, h6, -, -⟩ := Cond.code_spec hn (atoms_spec (ws := Jvm.Cond.code x code maxLocals ret :: tables_1) h _ List.mem_cons_self)
    exact ⟨meth, c, h1, h2, h3, h4, h5, h6⟩
  · intro p e s m args below meth c s₁ B hml0 hP _
    obtain ⟨rfl, hx, hbd, hgv⟩ := hP
    obtain ⟨scr, harrAt, hlist, hof, hsmall⟩ := hx
    obtain ⟨hcb, hkn, -, -⟩ := State.arrayAt?_spec harrAt
    have hown : s.vm.findClass R_law = some m.cls := findClass_of_methodNamed B.named
    have hts0 : ∀ c ∈ (Jvm.Cond.code x code maxLocals ret :: tables_1), c.before #[Value.ref b] s = true := atoms_spec (ws := Jvm.Cond.code x code maxLocals ret :: tables_1) B.pre
    have hts : ∀ w ∈ lw_tbl, w.before #[Value.ref b] s = true := k2_hts_sels lw_privs (fun w hw => hts0 w (List.mem_cons_of_mem _ hw)) lw_privs_ok
    have hml : c.maxLocals = 4 := B.maxLocals_eq (hts0 _ List.mem_cons_self)
    have X₀ : Stand p l e room_1 s m #[Value.ref b] below meth c s₁ [] 0 0 := Stand.of_body B
    have hh0 : s₁.heap = s.heap := by rw [B.state]; rfl
    have hsz : scr.slots.size = xs.length := by rw [← Array.length_toList, hlist, List.length_map]
    have hval : ∀ j : Nat, j < xs.length → scr.slots[j]? = some (.int (xs.getD j 0)) := fun j hj => by
      rw [← Array.getElem?_toList, hlist]
      simp [hj]
    have hbl : b < s.heap.size := (Array.getElem?_eq_some_iff.mp hcb).1
    have hX : va_X b xs.length (fun j => xs.getD j 0) s s.heap := ⟨scr, hcb, hof, hkn, hsz, hval⟩
    have K : W p l e room_1 s m #[Value.ref b] below meth c s₁.heap [] 0 0 (lw_Z below #[Value.ref b] s) (entryFrame m ([Value.ref b] : List Value).toArray 4) := by
      rw [hh0]
      exact whole_start l hbd ⟨B.exec, B.bytes, B.returns, hml, hown, hts, hX, hbl, B.notSynchronized, hgv⟩
    obtain ⟨t, a1, o, b1, b2, b3⟩ := K s₁ rfl X₀
    exact ⟨t, o, a1, b1, b2, b3⟩
theorem lw_pre_spec {args : Array Value} {s : State} (h : (Jvm.Cond.and given_1 narrow_1).before args s = true) (hr : rest_1_c.before args s = true) : ∃ (b : Addr) (xs : List Int32), lw_P b xs args s := by
  have hs := flat_of_before _ h
  have hq := flat_of_before _ hr
  have hc : (Cond.count 1).before args s = true := hs _ (by decide +kernel)
  have harr : (Cond.arrayOf (.arg 0) .int).before args s = true := hs _ (by decide +kernel)
  have hle : (Cond.le (.length (.arg 0)) (.int 2048)).before args s = true := hs _ (by decide +kernel)
  have hlen : (Cond.isInt (.length (.arg 0))).before args s = true := hq _ (by decide +kernel)
  have hall : (Cond.all (.arg 0) (.isInt (.elem (.arg 0) (.index 0)))).before args s = true := hq _ (by decide +kernel)
  obtain ⟨b, xs, hb, hx⟩ := State.ints_of_pre rfl harr hlen hall
  have hsm : xs.length < 2 ^ 31 := hx.choose_spec.2.2.2
  have hev : (Term.length (.arg 0)).eval args s none [] s = some (.int xs.length.toInt32) := hx.length_eval hb
  have hv := Cond.le_ints hev (show (Term.int 2048).eval args s none [] s = some (.int 2048) from rfl)
  have hd : xs.length.toInt32 ≤ 2048 := by
    simpa [Cond.before, Cond.holds, hv] using hle
  have hN : xs.length ≤ 2048 := (Int32.ofNat_le_ofNat hsm (by decide)).mp (show Int32.ofNat xs.length ≤ Int32.ofNat 2048 from hd)
  exact ⟨b, xs, Cond.one_arg hc (show args[0]? = some (.ref b) from hb), hx, hN, h⟩
theorem lw_comes (l : Launch) : Comes l x (Jvm.Cond.code x code maxLocals ret :: tables_1) room_1 (fun tb e args s => Calls_1 tb e args s ∧ rest_1 tb e args s ∧ Pre_1 tb e args s)
    (fun _ _ args s o t => lw_Q args s o t) := by
  intro p e ha hc hk s m args below hf hfit hheap happ hpre
  obtain ⟨b, xs, hP⟩ := lw_pre_spec hpre.2.2 hpre.2.1
  obtain ⟨k, o, h1, h2, h3, hQ⟩ := lw_walk l b xs p e ha hc hk s m args below hf ((Spec.applies_iff_loose hf).mp happ).1 hP trivial
  exact ⟨k, o, h1, h2, h3, hQ⟩
theorem lw_frame {s t : State} {o : Outcome} {args : Array Value} (h : Framed s o t [] 19 4447) :
    Framed s o t (fieldLocs frame_1_writes args s ++ arrayLocs frame_1_arrays args s ++ staticLocs frame_1_statics s) 19 4447 := h
theorem lw_limb (L : Cond) (hL : ∀ (args : Array Value) (s t : State), L.after args s (.returned (some (.int 1))) t = true) :
    ArmFor flags0 classFile x code maxLocals ret World_1 tables_1 room_1 Calls_1 rest_1 Pre_1
      (fun tb e a s o t => postC L tb e a s o t ∧ Framed s o t (fieldLocs frame_1_writes a s ++ arrayLocs frame_1_arrays a s ++ staticLocs frame_1_statics s) 19 4447) := by
  intro l _ _ _ p e ha hc hk s m args below hf hfit hheap happ hpre
  obtain ⟨k, o, h1, h2, h3, rfl, hF⟩ := lw_comes l p e ha hc hk s m args below hf hfit hheap happ hpre
  exact ⟨k, _, h1, h2, h3, hL args s _, lw_frame hF⟩
theorem i_vc : Claimed_1_1 ∧ Claimed_1_2 := ⟨lw_limb limb_1_1 (fun args s t => by simp [limb_1_1, Cond.after, Cond.holds, Cond.value]), lw_limb limb_1_2 (fun args s t => Cond.after_iff.mpr (by
  first | (rw [show limb_1_2 = Cond.eq .result (.int 1) from rfl, Cond.eq_ints (x := 1) (y := 1) rfl rfl]; simp; done) | (simp [limb_1_2, Cond.value, Term.eval]; done)))⟩
end
