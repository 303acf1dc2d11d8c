section
-- ===== PART A: goes FIRST, ahead of the names: the tables' words, and 'selects' of the private methods out of them =====
/-- a private method of a class that the tables say can be made, by its rows of tables_1 -/
def lw_okq (q : MethodName × Nat) : Prop := (q.1.cls ≠ "java/lang/invoke/MethodHandle" ∧ q.1.cls ≠ "java/lang/invoke/VarHandle") ∧ Cond.instantiable q.1.cls q.2 ∈ tables_1 ∧ Cond.privateMethod q.1 ∈ tables_1 ∧ Cond.instanceMethod q.1 ∈ tables_1
theorem lw_p0 : lw_okq (⟨"MeasureRows$Groups", "insideOf", "(I)I"⟩, 2) := ⟨⟨by decide +kernel, by decide +kernel⟩, List.mem_of_getElem? (i := 22) (by decide +kernel), List.mem_of_getElem? (i := 88) (by decide +kernel), List.mem_of_getElem? (i := 89) (by decide +kernel)⟩
theorem lw_p1 : lw_okq (⟨"MeasureRows", "find", "(I)LMeasureRows$Row;"⟩, 9) := ⟨⟨by decide +kernel, by decide +kernel⟩, List.mem_of_getElem? (i := 14) (by decide +kernel), List.mem_of_getElem? (i := 96) (by decide +kernel), List.mem_of_getElem? (i := 97) (by decide +kernel)⟩
theorem lw_p2 : lw_okq (⟨"java/lang/Throwable", "fillInStackTrace", "(I)Ljava/lang/Throwable;"⟩, 6) := ⟨⟨by decide +kernel, by decide +kernel⟩, List.mem_of_getElem? (i := 187) (by decide +kernel), List.mem_of_getElem? (i := 185) (by decide +kernel), List.mem_of_getElem? (i := 186) (by decide +kernel)⟩
theorem lw_p3 : lw_okq (⟨"MeasureRows", "leastClash", "(IIIIII)I"⟩, 9) := ⟨⟨by decide +kernel, by decide +kernel⟩, List.mem_of_getElem? (i := 14) (by decide +kernel), List.mem_of_getElem? (i := 287) (by decide +kernel), List.mem_of_getElem? (i := 288) (by decide +kernel)⟩
theorem lw_p4 : lw_okq (⟨"MeasureRows", "gather", "([IIIII)I"⟩, 9) := ⟨⟨by decide +kernel, by decide +kernel⟩, List.mem_of_getElem? (i := 14) (by decide +kernel), List.mem_of_getElem? (i := 375) (by decide +kernel), List.mem_of_getElem? (i := 376) (by decide +kernel)⟩
theorem lw_p5 : lw_okq (⟨"MeasureRows", "isOfLand", "(LMeasureRows$Row;I)Z"⟩, 9) := ⟨⟨by decide +kernel, by decide +kernel⟩, List.mem_of_getElem? (i := 14) (by decide +kernel), List.mem_of_getElem? (i := 382) (by decide +kernel), List.mem_of_getElem? (i := 383) (by decide +kernel)⟩
theorem lw_p6 : lw_okq (⟨"MeasureRows", "keepWithPapers", "(I)I"⟩, 9) := ⟨⟨by decide +kernel, by decide +kernel⟩, List.mem_of_getElem? (i := 14) (by decide +kernel), List.mem_of_getElem? (i := 395) (by decide +kernel), List.mem_of_getElem? (i := 396) (by decide +kernel)⟩
theorem lw_p7 : lw_okq (⟨"MeasureRows", "weighKinds", "(I)V"⟩, 9) := ⟨⟨by decide +kernel, by decide +kernel⟩, List.mem_of_getElem? (i := 14) (by decide +kernel), List.mem_of_getElem? (i := 403) (by decide +kernel), List.mem_of_getElem? (i := 404) (by decide +kernel)⟩
theorem lw_p8 : lw_okq (⟨"MeasureRows", "listUnbeaten", "(I)V"⟩, 9) := ⟨⟨by decide +kernel, by decide +kernel⟩, List.mem_of_getElem? (i := 14) (by decide +kernel), List.mem_of_getElem? (i := 412) (by decide +kernel), List.mem_of_getElem? (i := 413) (by decide +kernel)⟩
theorem lw_p9 : lw_okq (⟨"MeasureRows", "isBeaten", "(LMeasureRows$Row;)Z"⟩, 9) := ⟨⟨by decide +kernel, by decide +kernel⟩, List.mem_of_getElem? (i := 14) (by decide +kernel), List.mem_of_getElem? (i := 416) (by decide +kernel), List.mem_of_getElem? (i := 417) (by decide +kernel)⟩
theorem lw_p10 : lw_okq (⟨"MeasureRowsModel", "rings", "(II)Z"⟩, 19) := ⟨⟨by decide +kernel, by decide +kernel⟩, List.mem_of_getElem? (i := 444) (by decide +kernel), List.mem_of_getElem? (i := 526) (by decide +kernel), List.mem_of_getElem? (i := 527) (by decide +kernel)⟩
theorem lw_p11 : lw_okq (⟨"MeasureRowsModel", "all", "(I)I"⟩, 19) := ⟨⟨by decide +kernel, by decide +kernel⟩, List.mem_of_getElem? (i := 444) (by decide +kernel), List.mem_of_getElem? (i := 530) (by decide +kernel), List.mem_of_getElem? (i := 531) (by decide +kernel)⟩
theorem lw_p12 : lw_okq (⟨"MeasureRowsModel", "isIn", "(II)Z"⟩, 19) := ⟨⟨by decide +kernel, by decide +kernel⟩, List.mem_of_getElem? (i := 444) (by decide +kernel), List.mem_of_getElem? (i := 542) (by decide +kernel), List.mem_of_getElem? (i := 543) (by decide +kernel)⟩
theorem lw_p13 : lw_okq (⟨"MeasureRowsModel", "fails", "(I)I"⟩, 19) := ⟨⟨by decide +kernel, by decide +kernel⟩, List.mem_of_getElem? (i := 444) (by decide +kernel), List.mem_of_getElem? (i := 558) (by decide +kernel), List.mem_of_getElem? (i := 559) (by decide +kernel)⟩
theorem lw_p14 : lw_okq (⟨"MeasureRowsModel", "clashes", "(IIIIIII)Z"⟩, 19) := ⟨⟨by decide +kernel, by decide +kernel⟩, List.mem_of_getElem? (i := 444) (by decide +kernel), List.mem_of_getElem? (i := 562) (by decide +kernel), List.mem_of_getElem? (i := 563) (by decide +kernel)⟩
theorem lw_p15 : lw_okq (⟨"MeasureRowsModel", "lastOf", "(II)I"⟩, 19) := ⟨⟨by decide +kernel, by decide +kernel⟩, List.mem_of_getElem? (i := 444) (by decide +kernel), List.mem_of_getElem? (i := 566) (by decide +kernel), List.mem_of_getElem? (i := 567) (by decide +kernel)⟩
def lw_privs_1 : List (MethodName × Nat) := [(⟨"MeasureRows$Groups", "insideOf", "(I)I"⟩, 2), (⟨"MeasureRows", "find", "(I)LMeasureRows$Row;"⟩, 9), (⟨"java/lang/Throwable", "fillInStackTrace", "(I)Ljava/lang/Throwable;"⟩, 6), (⟨"MeasureRows", "leastClash", "(IIIIII)I"⟩, 9), (⟨"MeasureRows", "gather", "([IIIII)I"⟩, 9), (⟨"MeasureRows", "isOfLand", "(LMeasureRows$Row;I)Z"⟩, 9), (⟨"MeasureRows", "keepWithPapers", "(I)I"⟩, 9), (⟨"MeasureRows", "weighKinds", "(I)V"⟩, 9), (⟨"MeasureRows", "listUnbeaten", "(I)V"⟩, 9), (⟨"MeasureRows", "isBeaten", "(LMeasureRows$Row;)Z"⟩, 9), (⟨"MeasureRowsModel", "rings", "(II)Z"⟩, 19), (⟨"MeasureRowsModel", "all", "(I)I"⟩, 19), (⟨"MeasureRowsModel", "isIn", "(II)Z"⟩, 19), (⟨"MeasureRowsModel", "fails", "(I)I"⟩, 19), (⟨"MeasureRowsModel", "clashes", "(IIIIIII)Z"⟩, 19), (⟨"MeasureRowsModel", "lastOf", "(II)I"⟩, 19)]
theorem lw_r1 : ∀ q ∈ lw_privs_1, lw_okq q := List.forall_mem_cons.mpr ⟨lw_p0, List.forall_mem_cons.mpr ⟨lw_p1, List.forall_mem_cons.mpr ⟨lw_p2, List.forall_mem_cons.mpr ⟨lw_p3, List.forall_mem_cons.mpr ⟨lw_p4, List.forall_mem_cons.mpr ⟨lw_p5, List.forall_mem_cons.mpr ⟨lw_p6, List.forall_mem_cons.mpr ⟨lw_p7, List.forall_mem_cons.mpr ⟨lw_p8, List.forall_mem_cons.mpr ⟨lw_p9, List.forall_mem_cons.mpr ⟨lw_p10, List.forall_mem_cons.mpr ⟨lw_p11, List.forall_mem_cons.mpr ⟨lw_p12, List.forall_mem_cons.mpr ⟨lw_p13, List.forall_mem_cons.mpr ⟨lw_p14, List.forall_mem_cons.mpr ⟨lw_p15, fun _ h => absurd h List.not_mem_nil⟩⟩⟩⟩⟩⟩⟩⟩⟩⟩⟩⟩⟩⟩⟩⟩
theorem lw_p16 : lw_okq (⟨"MeasureRowsModel", "isRow", "(I)Z"⟩, 19) := ⟨⟨by decide +kernel, by decide +kernel⟩, List.mem_of_getElem? (i := 444) (by decide +kernel), List.mem_of_getElem? (i := 574) (by decide +kernel), List.mem_of_getElem? (i := 575) (by decide +kernel)⟩
theorem lw_p17 : lw_okq (⟨"MeasureRowsModel", "isOf", "(IIIII)Z"⟩, 19) := ⟨⟨by decide +kernel, by decide +kernel⟩, List.mem_of_getElem? (i := 444) (by decide +kernel), List.mem_of_getElem? (i := 598) (by decide +kernel), List.mem_of_getElem? (i := 599) (by decide +kernel)⟩
theorem lw_p18 : lw_okq (⟨"MeasureRowsModel", "lasts", "(III)Z"⟩, 19) := ⟨⟨by decide +kernel, by decide +kernel⟩, List.mem_of_getElem? (i := 444) (by decide +kernel), List.mem_of_getElem? (i := 605) (by decide +kernel), List.mem_of_getElem? (i := 606) (by decide +kernel)⟩
theorem lw_p19 : lw_okq (⟨"MeasureRowsModel", "beats", "(II)Z"⟩, 19) := ⟨⟨by decide +kernel, by decide +kernel⟩, List.mem_of_getElem? (i := 444) (by decide +kernel), List.mem_of_getElem? (i := 609) (by decide +kernel), List.mem_of_getElem? (i := 610) (by decide +kernel)⟩
def lw_privs_2 : List (MethodName × Nat) := [(⟨"MeasureRowsModel", "isRow", "(I)Z"⟩, 19), (⟨"MeasureRowsModel", "isOf", "(IIIII)Z"⟩, 19), (⟨"MeasureRowsModel", "lasts", "(III)Z"⟩, 19), (⟨"MeasureRowsModel", "beats", "(II)Z"⟩, 19)]
theorem lw_r2 : ∀ q ∈ lw_privs_2, lw_okq q := List.forall_mem_cons.mpr ⟨lw_p16, List.forall_mem_cons.mpr ⟨lw_p17, List.forall_mem_cons.mpr ⟨lw_p18, List.forall_mem_cons.mpr ⟨lw_p19, fun _ h => absurd h List.not_mem_nil⟩⟩⟩⟩
def lw_privs : List (MethodName × Nat) := lw_privs_1 ++ (lw_privs_2)
def lw_tbl : List Cond := k2_sels lw_privs ++ tables_1
theorem lw_privs_ok : ∀ q ∈ lw_privs, lw_okq q := by
  show ∀ q ∈ lw_privs_1 ++ (lw_privs_2), lw_okq q
  exact List.forall_mem_append.mpr ⟨lw_r1, lw_r2⟩
end
section
/-! NAMES, by my program out of the listing and the statement -/
def R_M : String := "MeasureRows"
def T_M : u_T := fun k => match k with
  | 0 => ("MeasureRows", "groups", "LMeasureRows$Groups;", true)
  | 1 => ("MeasureRows", "rows", "[LMeasureRows$Row;", true)
  | 2 => ("MeasureRows", "rowCount", "I", false)
  | 3 => ("MeasureRows", "now", "I", false)
  | 4 => ("MeasureRows", "paperBits", "I", false)
  | 5 => ("MeasureRows", "listed", "[I", true)
  | 6 => ("MeasureRows", "listedCount", "I", false)
  | 7 => ("MeasureRows", "candidates", "[I", true)
  | _ => ("MeasureRows", "greatestWeight", "[I", true)
def t_M : Nat → FieldType := fun k => match k with
  | 0 => (.object "MeasureRows$Groups")
  | 1 => (.array (.object "MeasureRows$Row"))
  | 2 => .int
  | 3 => .int
  | 4 => .int
  | 5 => (.array .int)
  | 6 => .int
  | 7 => (.array .int)
  | _ => (.array .int)
def R_G : String := "MeasureRows$Groups"
def T_G : u_T := fun k => match k with
  | 0 => ("MeasureRows$Groups", "members", "[I", true)
  | _ => ("MeasureRows$Groups", "inside", "[I", true)
def t_G : Nat → FieldType := fun k => match k with
  | 0 => (.array .int)
  | _ => (.array .int)
def R_R : String := "MeasureRows$Row"
def T_R : u_T := fun k => match k with
  | 0 => ("MeasureRows$Row", "code", "I", true)
  | 1 => ("MeasureRows$Row", "place", "I", true)
  | 2 => ("MeasureRows$Row", "first", "I", true)
  | 3 => ("MeasureRows$Row", "kind", "I", true)
  | 4 => ("MeasureRows$Row", "rank", "I", true)
  | 5 => ("MeasureRows$Row", "known", "I", true)
  | 6 => ("MeasureRows$Row", "excluded", "I", false)
  | 7 => ("MeasureRows$Row", "wanted", "I", false)
  | 8 => ("MeasureRows$Row", "told", "I", false)
  | 9 => ("MeasureRows$Row", "lastDays", "[I", true)
  | _ => ("MeasureRows$Row", "knownDays", "[I", true)
def t_R : Nat → FieldType := fun k => match k with
  | 0 => .int
  | 1 => .int
  | 2 => .int
  | 3 => .int
  | 4 => .int
  | 5 => .int
  | 6 => .int
  | 7 => .int
  | 8 => .int
  | 9 => (.array .int)
  | _ => (.array .int)
def R_D : String := "MeasureRowsModel"
def T_D : u_T := fun k => match k with
  | 0 => ("MeasureRowsModel", "thrown", "I", false)
  | 1 => ("MeasureRowsModel", "members", "[I", true)
  | 2 => ("MeasureRowsModel", "rows", "I", false)
  | 3 => ("MeasureRowsModel", "code", "[I", true)
  | 4 => ("MeasureRowsModel", "land", "[I", true)
  | 5 => ("MeasureRowsModel", "first", "[I", true)
  | 6 => ("MeasureRowsModel", "kind", "[I", true)
  | 7 => ("MeasureRowsModel", "rank", "[I", true)
  | 8 => ("MeasureRowsModel", "known", "[I", true)
  | 9 => ("MeasureRowsModel", "lands", "[I", true)
  | 10 => ("MeasureRowsModel", "papers", "[I", true)
  | 11 => ("MeasureRowsModel", "ends", "[I", true)
  | 12 => ("MeasureRowsModel", "last", "[I", true)
  | 13 => ("MeasureRowsModel", "lastKnown", "[I", true)
  | 14 => ("MeasureRowsModel", "now", "I", false)
  | 15 => ("MeasureRowsModel", "there", "I", false)
  | 16 => ("MeasureRowsModel", "list", "[I", true)
  | 17 => ("MeasureRowsModel", "listed", "I", false)
  | _ => ("MeasureRowsModel", "good", "[Z", true)
def t_D : Nat → FieldType := fun k => match k with
  | 0 => .int
  | 1 => (.array .int)
  | 2 => .int
  | 3 => (.array .int)
  | 4 => (.array .int)
  | 5 => (.array .int)
  | 6 => (.array .int)
  | 7 => (.array .int)
  | 8 => (.array .int)
  | 9 => (.array .int)
  | 10 => (.array .int)
  | 11 => (.array .int)
  | 12 => (.array .int)
  | 13 => (.array .int)
  | 14 => .int
  | 15 => .int
  | 16 => (.array .int)
  | 17 => .int
  | _ => (.array .boolean)
abbrev mr_cl : List vw_C := [(R_M, T_M, 9), (R_G, T_G, 2), (R_R, T_R, 11), (R_D, T_D, 19)]
theorem tn_M : ∀ a, a < 9 → ∀ b, b < 9 → a ≠ b → (T_M a).2.1 ≠ (T_M b).2.1 := by decide +kernel
theorem to_M : ∀ k, k < 9 → parseFieldDescriptor (T_M k).2.2.1 = some (t_M k) := by decide +kernel
theorem ti_M : ∀ w ∈ u_ws R_M T_M 9, w ∈ lw_tbl := by decide +kernel
theorem tn_G : ∀ a, a < 2 → ∀ b, b < 2 → a ≠ b → (T_G a).2.1 ≠ (T_G b).2.1 := by decide +kernel
theorem to_G : ∀ k, k < 2 → parseFieldDescriptor (T_G k).2.2.1 = some (t_G k) := by decide +kernel
theorem ti_G : ∀ w ∈ u_ws R_G T_G 2, w ∈ lw_tbl := by decide +kernel
theorem tn_R : ∀ a, a < 11 → ∀ b, b < 11 → a ≠ b → (T_R a).2.1 ≠ (T_R b).2.1 := by decide +kernel
theorem to_R : ∀ k, k < 11 → parseFieldDescriptor (T_R k).2.2.1 = some (t_R k) := by decide +kernel
theorem ti_R : ∀ w ∈ u_ws R_R T_R 11, w ∈ lw_tbl := by decide +kernel
theorem tn_D : ∀ a, a < 19 → ∀ b, b < 19 → a ≠ b → (T_D a).2.1 ≠ (T_D b).2.1 := by decide +kernel
theorem to_D : ∀ k, k < 19 → parseFieldDescriptor (T_D k).2.2.1 = some (t_D k) := by decide +kernel
theorem ti_D : ∀ w ∈ u_ws R_D T_D 19, w ∈ lw_tbl := by decide +kernel
abbrev b_M_init : ByteArray := prog_1_method_1_code
def y_M_init : MethodName := ⟨"MeasureRows", "<init>", "()V"⟩
abbrev b_M_member : ByteArray := prog_1_method_2_code
def y_M_member : MethodName := ⟨"MeasureRows", "member", "(II)Z"⟩
abbrev b_M_ring : ByteArray := prog_1_method_3_code
def y_M_ring : MethodName := ⟨"MeasureRows", "ring", "(II)Z"⟩
abbrev b_M_has : ByteArray := prog_1_method_4_code
def y_M_has : MethodName := ⟨"MeasureRows", "has", "(II)Z"⟩
abbrev b_M_row : ByteArray := prog_1_method_5_code
def y_M_row : MethodName := ⟨"MeasureRows", "row", "(IIIIIII)I"⟩
abbrev b_M_exclude : ByteArray := prog_1_method_6_code
def y_M_exclude : MethodName := ⟨"MeasureRows", "exclude", "(II)Z"⟩
abbrev b_M_condition : ByteArray := prog_1_method_7_code
def y_M_condition : MethodName := ⟨"MeasureRows", "condition", "(II)Z"⟩
abbrev b_M_end : ByteArray := prog_1_method_8_code
def y_M_end : MethodName := ⟨"MeasureRows", "end", "(III)I"⟩
abbrev b_M_papers : ByteArray := prog_1_method_9_code
def y_M_papers : MethodName := ⟨"MeasureRows", "papers", "(I)V"⟩
abbrev b_M_apply : ByteArray := prog_1_method_10_code
def y_M_apply : MethodName := ⟨"MeasureRows", "apply", "(IIII)I"⟩
abbrev b_M_at : ByteArray := prog_1_method_11_code
def y_M_at : MethodName := ⟨"MeasureRows", "at", "(I)I"⟩
abbrev b_M_scan : ByteArray := prog_1_method_12_code
def y_M_scan : MethodName := ⟨"MeasureRows", "scan", "(III)I"⟩
abbrev b_M_change : ByteArray := prog_1_method_13_code
def y_M_change : MethodName := ⟨"MeasureRows", "change", "(III)I"⟩
abbrev b_M_look : ByteArray := prog_1_method_14_code
def y_M_look : MethodName := ⟨"MeasureRows", "look", "(II)I"⟩
abbrev b_M_count : ByteArray := prog_1_method_15_code
def y_M_count : MethodName := ⟨"MeasureRows", "count", "(I)I"⟩
abbrev b_M_find : ByteArray := prog_1_method_16_code
def y_M_find : MethodName := ⟨"MeasureRows", "find", "(I)LMeasureRows$Row;"⟩
abbrev b_M_leastClash : ByteArray := prog_1_method_17_code
def y_M_leastClash : MethodName := ⟨"MeasureRows", "leastClash", "(IIIIII)I"⟩
abbrev b_M_gather : ByteArray := prog_1_method_18_code
def y_M_gather : MethodName := ⟨"MeasureRows", "gather", "([IIIII)I"⟩
abbrev b_M_isOfLand : ByteArray := prog_1_method_19_code
def y_M_isOfLand : MethodName := ⟨"MeasureRows", "isOfLand", "(LMeasureRows$Row;I)Z"⟩
abbrev b_M_keepWithPapers : ByteArray := prog_1_method_20_code
def y_M_keepWithPapers : MethodName := ⟨"MeasureRows", "keepWithPapers", "(I)I"⟩
abbrev b_M_weighKinds : ByteArray := prog_1_method_21_code
def y_M_weighKinds : MethodName := ⟨"MeasureRows", "weighKinds", "(I)V"⟩
abbrev b_M_listUnbeaten : ByteArray := prog_1_method_22_code
def y_M_listUnbeaten : MethodName := ⟨"MeasureRows", "listUnbeaten", "(I)V"⟩
abbrev b_M_isBeaten : ByteArray := prog_1_method_23_code
def y_M_isBeaten : MethodName := ⟨"MeasureRows", "isBeaten", "(LMeasureRows$Row;)Z"⟩
abbrev b_M_isLand : ByteArray := prog_1_method_24_code
def y_M_isLand : MethodName := ⟨"MeasureRows", "isLand", "(I)Z"⟩
abbrev b_M_isGroup : ByteArray := prog_1_method_25_code
def y_M_isGroup : MethodName := ⟨"MeasureRows", "isGroup", "(I)Z"⟩
abbrev b_M_isPlace : ByteArray := prog_1_method_26_code
def y_M_isPlace : MethodName := ⟨"MeasureRows", "isPlace", "(I)Z"⟩
abbrev b_M_isDay : ByteArray := prog_1_method_27_code
def y_M_isDay : MethodName := ⟨"MeasureRows", "isDay", "(I)Z"⟩
abbrev b_M_isLastDay : ByteArray := prog_1_method_28_code
def y_M_isLastDay : MethodName := ⟨"MeasureRows", "isLastDay", "(I)Z"⟩
abbrev b_M_levelOf : ByteArray := prog_1_method_29_code
def y_M_levelOf : MethodName := ⟨"MeasureRows", "levelOf", "(I)I"⟩
abbrev b_M_isUnder : ByteArray := prog_1_method_30_code
def y_M_isUnder : MethodName := ⟨"MeasureRows", "isUnder", "(II)Z"⟩
abbrev b_M_hasBit : ByteArray := prog_1_method_31_code
def y_M_hasBit : MethodName := ⟨"MeasureRows", "hasBit", "(II)Z"⟩
abbrev b_D_init : ByteArray := prog_5_method_1_code
def y_D_init : MethodName := ⟨"MeasureRowsModel", "<init>", "()V"⟩
abbrev b_D_thrown : ByteArray := prog_5_method_2_code
def y_D_thrown : MethodName := ⟨"MeasureRowsModel", "thrown", "()I"⟩
abbrev b_D_fails : ByteArray := prog_5_method_3_code
def y_D_fails : MethodName := ⟨"MeasureRowsModel", "fails", "(I)I"⟩
abbrev b_D_in : ByteArray := prog_5_method_4_code
def y_D_in : MethodName := ⟨"MeasureRowsModel", "in", "(III)Z"⟩
abbrev b_D_isGroup : ByteArray := prog_5_method_5_code
def y_D_isGroup : MethodName := ⟨"MeasureRowsModel", "isGroup", "(I)Z"⟩
abbrev b_D_isLand : ByteArray := prog_5_method_6_code
def y_D_isLand : MethodName := ⟨"MeasureRowsModel", "isLand", "(I)Z"⟩
abbrev b_D_isDay : ByteArray := prog_5_method_7_code
def y_D_isDay : MethodName := ⟨"MeasureRowsModel", "isDay", "(I)Z"⟩
abbrev b_D_digits : ByteArray := prog_5_method_8_code
def y_D_digits : MethodName := ⟨"MeasureRowsModel", "digits", "(I)I"⟩
abbrev b_D_bits : ByteArray := prog_5_method_9_code
def y_D_bits : MethodName := ⟨"MeasureRowsModel", "bits", "(I)I"⟩
abbrev b_D_all : ByteArray := prog_5_method_10_code
def y_D_all : MethodName := ⟨"MeasureRowsModel", "all", "(I)I"⟩
abbrev b_D_rings : ByteArray := prog_5_method_11_code
def y_D_rings : MethodName := ⟨"MeasureRowsModel", "rings", "(II)Z"⟩
abbrev b_D_isIn : ByteArray := prog_5_method_12_code
def y_D_isIn : MethodName := ⟨"MeasureRowsModel", "isIn", "(II)Z"⟩
abbrev b_D_member : ByteArray := prog_5_method_13_code
def y_D_member : MethodName := ⟨"MeasureRowsModel", "member", "(II)Z"⟩
abbrev b_D_ring : ByteArray := prog_5_method_14_code
def y_D_ring : MethodName := ⟨"MeasureRowsModel", "ring", "(II)Z"⟩
abbrev b_D_has : ByteArray := prog_5_method_15_code
def y_D_has : MethodName := ⟨"MeasureRowsModel", "has", "(II)Z"⟩
abbrev b_D_isRow : ByteArray := prog_5_method_16_code
def y_D_isRow : MethodName := ⟨"MeasureRowsModel", "isRow", "(I)Z"⟩
abbrev b_D_lastOf : ByteArray := prog_5_method_17_code
def y_D_lastOf : MethodName := ⟨"MeasureRowsModel", "lastOf", "(II)I"⟩
abbrev b_D_clashes : ByteArray := prog_5_method_18_code
def y_D_clashes : MethodName := ⟨"MeasureRowsModel", "clashes", "(IIIIIII)Z"⟩
abbrev b_D_row : ByteArray := prog_5_method_19_code
def y_D_row : MethodName := ⟨"MeasureRowsModel", "row", "(IIIIIII)I"⟩
abbrev b_D_exclude : ByteArray := prog_5_method_20_code
def y_D_exclude : MethodName := ⟨"MeasureRowsModel", "exclude", "(II)Z"⟩
abbrev b_D_condition : ByteArray := prog_5_method_21_code
def y_D_condition : MethodName := ⟨"MeasureRowsModel", "condition", "(II)Z"⟩
abbrev b_D_end : ByteArray := prog_5_method_22_code
def y_D_end : MethodName := ⟨"MeasureRowsModel", "end", "(III)I"⟩
abbrev b_D_papers : ByteArray := prog_5_method_23_code
def y_D_papers : MethodName := ⟨"MeasureRowsModel", "papers", "(I)V"⟩
abbrev b_D_isUnder : ByteArray := prog_5_method_24_code
def y_D_isUnder : MethodName := ⟨"MeasureRowsModel", "isUnder", "(II)Z"⟩
abbrev b_D_lasts : ByteArray := prog_5_method_25_code
def y_D_lasts : MethodName := ⟨"MeasureRowsModel", "lasts", "(III)Z"⟩
abbrev b_D_isOf : ByteArray := prog_5_method_26_code
def y_D_isOf : MethodName := ⟨"MeasureRowsModel", "isOf", "(IIIII)Z"⟩
abbrev b_D_beats : ByteArray := prog_5_method_27_code
def y_D_beats : MethodName := ⟨"MeasureRowsModel", "beats", "(II)Z"⟩
abbrev b_D_apply : ByteArray := prog_5_method_28_code
def y_D_apply : MethodName := ⟨"MeasureRowsModel", "apply", "(IIII)I"⟩
abbrev b_D_at : ByteArray := prog_5_method_29_code
def y_D_at : MethodName := ⟨"MeasureRowsModel", "at", "(I)I"⟩
abbrev b_D_scan : ByteArray := prog_5_method_30_code
def y_D_scan : MethodName := ⟨"MeasureRowsModel", "scan", "(III)I"⟩
abbrev b_D_change : ByteArray := prog_5_method_31_code
def y_D_change : MethodName := ⟨"MeasureRowsModel", "change", "(III)I"⟩
abbrev b_D_look : ByteArray := prog_5_method_32_code
def y_D_look : MethodName := ⟨"MeasureRowsModel", "look", "(II)I"⟩
abbrev b_D_count : ByteArray := prog_5_method_33_code
def y_D_count : MethodName := ⟨"MeasureRowsModel", "count", "(I)I"⟩
abbrev b_G_init : ByteArray := prog_2_method_1_code
def y_G_init : MethodName := ⟨"MeasureRows$Groups", "<init>", "()V"⟩
abbrev b_G_join : ByteArray := prog_2_method_2_code
def y_G_join : MethodName := ⟨"MeasureRows$Groups", "join", "(II)Z"⟩
abbrev b_G_wouldRing : ByteArray := prog_2_method_3_code
def y_G_wouldRing : MethodName := ⟨"MeasureRows$Groups", "wouldRing", "(II)Z"⟩
abbrev b_G_reaches : ByteArray := prog_2_method_4_code
def y_G_reaches : MethodName := ⟨"MeasureRows$Groups", "reaches", "(II)Z"⟩
abbrev b_G_landsIn : ByteArray := prog_2_method_5_code
def y_G_landsIn : MethodName := ⟨"MeasureRows$Groups", "landsIn", "(I)I"⟩
abbrev b_G_insideOf : ByteArray := prog_2_method_6_code
def y_G_insideOf : MethodName := ⟨"MeasureRows$Groups", "insideOf", "(I)I"⟩
abbrev b_R_init : ByteArray := prog_3_method_1_code
def y_R_init : MethodName := ⟨"MeasureRows$Row", "<init>", "(IIIIIII)V"⟩
abbrev b_R_leaveOut : ByteArray := prog_3_method_2_code
def y_R_leaveOut : MethodName := ⟨"MeasureRows$Row", "leaveOut", "(I)Z"⟩
abbrev b_R_want : ByteArray := prog_3_method_3_code
def y_R_want : MethodName := ⟨"MeasureRows$Row", "want", "(I)Z"⟩
abbrev b_R_mayMark : ByteArray := prog_3_method_4_code
def y_R_mayMark : MethodName := ⟨"MeasureRows$Row", "mayMark", "(II)Z"⟩
abbrev b_R_tell : ByteArray := prog_3_method_5_code
def y_R_tell : MethodName := ⟨"MeasureRows$Row", "tell", "(II)V"⟩
abbrev b_R_lastDayAsOf : ByteArray := prog_3_method_6_code
def y_R_lastDayAsOf : MethodName := ⟨"MeasureRows$Row", "lastDayAsOf", "(I)I"⟩
abbrev b_R_lastsOn : ByteArray := prog_3_method_7_code
def y_R_lastsOn : MethodName := ⟨"MeasureRows$Row", "lastsOn", "(II)Z"⟩
abbrev b_R_meets : ByteArray := prog_3_method_8_code
def y_R_meets : MethodName := ⟨"MeasureRows$Row", "meets", "(III)Z"⟩
abbrev b_R_isAlike : ByteArray := prog_3_method_9_code
def y_R_isAlike : MethodName := ⟨"MeasureRows$Row", "isAlike", "(IIII)Z"⟩
abbrev b_R_leavesOut : ByteArray := prog_3_method_10_code
def y_R_leavesOut : MethodName := ⟨"MeasureRows$Row", "leavesOut", "(I)Z"⟩
abbrev b_R_isContentWith : ByteArray := prog_3_method_11_code
def y_R_isContentWith : MethodName := ⟨"MeasureRows$Row", "isContentWith", "(I)Z"⟩
abbrev b_R_weight : ByteArray := prog_3_method_12_code
def y_R_weight : MethodName := ⟨"MeasureRows$Row", "weight", "()I"⟩
abbrev b_L_ring : ByteArray := method_3_code
def y_L_ring : MethodName := ⟨"MeasureRowsLaw", "ring", "(LMeasureRows;II[J)I"⟩
abbrev b_L_has : ByteArray := method_4_code
def y_L_has : MethodName := ⟨"MeasureRowsLaw", "has", "(LMeasureRows;II[J)I"⟩
abbrev b_L_row : ByteArray := method_5_code
def y_L_row : MethodName := ⟨"MeasureRowsLaw", "row", "(LMeasureRows;IIIIIII[J)I"⟩
abbrev b_L_end : ByteArray := method_6_code
def y_L_end : MethodName := ⟨"MeasureRowsLaw", "end", "(LMeasureRows;III[J)I"⟩
abbrev b_L_apply : ByteArray := method_7_code
def y_L_apply : MethodName := ⟨"MeasureRowsLaw", "apply", "(LMeasureRows;IIII[J)I"⟩
abbrev b_L_scan : ByteArray := method_8_code
def y_L_scan : MethodName := ⟨"MeasureRowsLaw", "scan", "(LMeasureRows;III[J)I"⟩
abbrev b_L_change : ByteArray := method_9_code
def y_L_change : MethodName := ⟨"MeasureRowsLaw", "change", "(LMeasureRows;III[J)I"⟩
abbrev b_L_look : ByteArray := method_10_code
def y_L_look : MethodName := ⟨"MeasureRowsLaw", "look", "(LMeasureRows;II[J)I"⟩
end
section
/-! MY BASE ROWS: small numbers -/
def mr_ushr (x y : Int32) : Int32 := (x.toUInt32 >>> (y.toUInt32 &&& Int32.toUInt32 31)).toInt32
def mr_b01 (x : Int32) : Prop := x = 0 ∨ x = 1
theorem mr_b0 : mr_b01 0 := Or.inl rfl
theorem mr_b1 : mr_b01 1 := Or.inr rfl
theorem mr_bi {q : Prop} [Decidable q] {x y : Int32} (h1 : mr_b01 x) (h2 : mr_b01 y) : mr_b01 (if q then x else y) := by
  by_cases h : q
  · rw [if_pos h]; exact h1
  · rw [if_neg h]; exact h2
theorem mr_narz {v : Int32} (h : mr_b01 v) : narrow .boolean (.int v) = .int v := by
  rcases h with h | h <;> rw [h] <;> rfl
theorem mr_ne {x k : Int32} {z : Int} (hz : k.toInt = z) (h : ¬ x = k) : x.toInt ≠ z := fun q => h (Int32.toInt_inj.mp (by rw [q, hz]))
end
section
/-! METHODS THAT THROW: how they end, how a caller goes on or catches -/
section MRA
variable {e : Env} {U : State} {f : JFrame} {a : Addr} {P : Handler → Pre} {E : CtlPost} {d : Bool} {acts : List Action}
/-- a row of the table whose class may have to be looked up first -/
theorem mr_go {x : ExceptionTableEntry} {tb : List ExceptionTableEntry} {k : ClassId} {cell : Cell} (hx : covers x f.pc = true) (h0 : x.catchType ≠ 0) (hl : U.vm.ClassLinks e.platform f.method.cls x.catchType k)
    (hcell : U.heap[a]? = some cell) (hobj : ∀ z, cell.vm ≠ .statics z) (h1 : ∃ z, U.vm.classes[cell.cls]? = some z) (h2 : ∃ z, U.vm.classes[k]? = some z) :
    wp (findHandler.go f a (x :: tb)) P E e d acts U ↔ if U.vm.assignable cell.cls k = true then P (.found x.handlerPc) d acts (U.setVm (U.vm.noted f.method.cls x.catchType (.cls k))) else wp (findHandler.go f a tb) P E e d acts (U.setVm (U.vm.noted f.method.cls x.catchType (.cls k))) := by
  have hal : U.vm.Alike (U.vm.noted f.method.cls x.catchType (.cls k)) := (Vm.Alike.refl U.vm).noted _ _ _
  obtain ⟨h3, h4⟩ := (resolveClass_links e.toSetting hl).op (op := VmOp.resolveClass f.method.cls x.catchType) rfl
  obtain ⟨z1, h1⟩ := h1
  obtain ⟨z2, h2⟩ := h2
  obtain ⟨y1, g1, -⟩ := hal.2.2 _ _ h1
  obtain ⟨y2, g2, -⟩ := hal.2.2 _ _ h2
  have he := hal.assignable cell.cls k
  simp only [covers] at hx
  by_cases hfit : U.vm.assignable cell.cls k = true
  · rw [if_pos hfit]
    rw [hfit] at he
    simp [findHandler.go, hx, h0, h3, h4, hcell, hobj, g1, g2, he, VmOp.dirties, VmOp.acts]
  · rw [if_neg hfit]
    have hf2 : U.vm.assignable cell.cls k = false := by simpa using hfit
    rw [hf2] at he
    simp [findHandler.go, hx, h0, h3, h4, hcell, hobj, g1, g2, he, VmOp.dirties, VmOp.acts]
end MRA
section MRB
variable {p : Program} {l : Launch} {e : Env} {R : Room} {s : State} {m : MethodId} {args : Array Value} {below : List Frame} {meth : Method} {c : Code} {H : Heap} {locs : List Loc} {cells slots : Nat} {Q : State → Prop}
/-- the note 'a is thrown' over the frame g -/
def mr_N (T : State) (g : JFrame) (a : Addr) : State := (T.setTop g).pushFrame (.throwing a)
theorem mr_N_vm (T : State) (g : JFrame) (a : Addr) (v : Vm) : (mr_N T g a).setVm v = mr_N (T.setVm v) g a := rfl
/-- the search ends at the row x; the rows ahead are passed -/
theorem mr_find {own E name : String} {a : Addr} {cell : Cell} {g : JFrame} (hg : g.method = m) (hown : s.vm.findClass own = some m.cls) (hv : cell.vm = .none) (hcl : s.vm.findClass E = some cell.cls)
    {x : ExceptionTableEntry} {suf : List ExceptionTableEntry} (hx : covers x g.pc = true) (h0 : x.catchType ≠ 0) (hlink : (Cond.classLink own x.catchType name).before args s = true) (hcast : (Cond.castable E name).before args s = true) :
    ∀ (pre : List ExceptionTableEntry), (∀ y ∈ pre, covers y g.pc = true ∧ y.catchType ≠ 0 ∧ ∃ nm : String, (Cond.classLink own y.catchType nm).before args s = true ∧ va_Nc E nm s) →
    ∀ T : State, Stand p l e R s m args below meth c T locs cells slots → T.heap[a]? = some cell →
      ∃ vm' : Vm, s.WarmedH vm' ∧ ∀ (P : Handler → Pre) (E' : CtlPost) (d : Bool) (acts : List Action), wp (findHandler.go g a (pre ++ x :: suf)) P E' e d acts (mr_N T g a) ↔ P (.found x.handlerPc) d acts (mr_N (T.setVm vm') g a) := by
  intro pre
  obtain ⟨k9, hk9, -⟩ := Vm.findClass_spec hcl
  have hobj : ∀ z, cell.vm ≠ .statics z := fun z h => by rw [hv] at h; cases h
  induction pre with
  | nil =>
    intro _ T X hT
    have hpl : e.platform.magicAccessors = ({} : Platform).magicAccessors := by rw [X.admits.platform]
    obtain ⟨c3, c4, hc3, hc4, hasg⟩ := Cond.castable_spec hcast
    cases Option.some.inj (hc3.symm.trans hcl)
    obtain ⟨c5, hc5, hl5⟩ := Cond.classLink_spec hown hlink e.platform hpl
    cases Option.some.inj (hc4.symm.trans hc5)
    obtain ⟨dk, _, _, kt, hd, _, _, _, _, hkt, _, hopen⟩ := hl5.here
    have hal := X.warmed.alike
    obtain ⟨kt', hkt', -⟩ := hal.2.2 _ _ hkt
    obtain ⟨kc', hkc', -⟩ := hal.2.2 _ _ hk9
    have hW' : s.WarmedH (T.vm.noted m.cls x.catchType (.cls c4)) := X.warmed.noted hd hopen (State.rightAt_cls hl5)
    refine ⟨_, hW', fun P E' d acts => ?_⟩
    have hf : T.vm.assignable cell.cls c4 = true := by rw [hal.assignable]; exact hasg
    have hll := X.warmed.classLinks hl5
    subst hg
    have h9 := mr_go (e := e) (U := mr_N T g a) (f := g) (a := a) (P := P) (E := E') (d := d) (acts := acts) (tb := suf) hx h0 (k := c4) (cell := cell) hll hT hobj ⟨kc', hkc'⟩ ⟨kt', hkt'⟩
    rw [show (mr_N T g a).vm = T.vm from rfl, if_pos hf] at h9
    exact h9
  | cons y ys ih =>
    intro hp T X hT
    obtain ⟨q1, q2, nm, q3, q4⟩ := hp y (List.mem_cons_self)
    have hpl : e.platform.magicAccessors = ({} : Platform).magicAccessors := by rw [X.admits.platform]
    obtain ⟨c3, c4, hc3, hc4, hasg⟩ := q4
    cases Option.some.inj (hc3.symm.trans hcl)
    obtain ⟨c5, hc5, hl5⟩ := Cond.classLink_spec hown q3 e.platform hpl
    cases Option.some.inj (hc4.symm.trans hc5)
    obtain ⟨dk, _, _, kt, hd, _, _, _, _, hkt, _, hopen⟩ := hl5.here
    have hal := X.warmed.alike
    obtain ⟨kt', hkt', -⟩ := hal.2.2 _ _ hkt
    obtain ⟨kc', hkc', -⟩ := hal.2.2 _ _ hk9
    have hW' : s.WarmedH (T.vm.noted m.cls y.catchType (.cls c4)) := X.warmed.noted hd hopen (State.rightAt_cls hl5)
    have hf : ¬ T.vm.assignable cell.cls c4 = true := by rw [hal.assignable, hasg]; decide
    obtain ⟨vm', hW9, h8⟩ := ih (fun z hz => hp z (List.mem_cons_of_mem _ hz)) (T.setVm (T.vm.noted m.cls y.catchType (.cls c4))) (X.noted hW') hT
    refine ⟨vm', hW9, fun P E' d acts => ?_⟩
    have hll := X.warmed.classLinks hl5
    subst hg
    have h9 := mr_go (e := e) (U := mr_N T g a) (f := g) (a := a) (P := P) (E := E') (d := d) (acts := acts) (tb := ys ++ x :: suf) q1 q2 (k := c4) (cell := cell) hll hT hobj ⟨kc', hkc'⟩ ⟨kt', hkt'⟩
    rw [show (mr_N T g a).vm = T.vm from rfl, if_neg hf] at h9
    exact h9.trans (h8 P E' d acts)
/-- thrown, and caught by the row x of this method's own table -/
theorem mr_caught {own E name : String} {a : Addr} {cell : Cell} {g : JFrame} (hg : g.method = m) (hown : s.vm.findClass own = some m.cls) (hv : cell.vm = .none) (hcl : s.vm.findClass E = some cell.cls)
    {x : ExceptionTableEntry} {pre suf : List ExceptionTableEntry} (hsplit : c.exceptionTable.toList = pre ++ x :: suf) (hx : covers x g.pc = true) (h0 : x.catchType ≠ 0) (hlink : (Cond.classLink own x.catchType name).before args s = true) (hcast : (Cond.castable E name).before args s = true)
    (hp : ∀ y ∈ pre, covers y g.pc = true ∧ y.catchType ≠ 0 ∧ ∃ nm : String, (Cond.classLink own y.catchType nm).before args s = true ∧ va_Nc E nm s)
    {T : State} (X : Stand p l e R s m args below meth c T locs cells slots) (hT : T.heap[a]? = some cell) :
    ∃ vm' : Vm, Stand p l e R s m args below meth c (T.setVm vm') locs cells slots ∧ ∀ target, Steps p.tables e below ((T.setVm vm').setTop { g with pc := x.handlerPc, stack := [.ref a] }) target → Steps p.tables e below (mr_N T g a) target := by
  obtain ⟨vm', hW, hf⟩ := mr_find hg hown hv hcl (suf := suf) hx h0 hlink hcast pre hp T X hT
  refine ⟨vm', X.noted hW, fun target hrest => ?_⟩
  subst hg
  have h : At T g.method c below := X.here
  obtain ⟨hgo, hw⟩ := h.throwing a
  refine Steps.head hgo hw ?_
  obtain ⟨g₀, hg0⟩ := Option.isSome_iff_exists.mp h.top
  obtain ⟨r, hr⟩ := State.topJava?_eq_some.mp hg0
  have hfind : ∀ (P : Handler → Pre) (E' : CtlPost) (d : Bool) (acts : List Action), wp (findHandler g a) P E' e d acts (mr_N T g a) ↔ P (.found x.handlerPc) d acts (mr_N (T.setVm vm') g a) := fun P E' d acts => by
    rw [W.findHandler_eq (s := mr_N T g a) (meth := meth) (code := c) X.method' X.code, hsplit]
    exact hf P E' d acts
  have hstep : (stepThrowing e (mr_N T g a) a (.java g :: r)).1 = (mr_N (T.setVm vm') g a).setFrames (.java { g with pc := x.handlerPc, stack := [.ref a] } :: r) := by
    simp only [stepThrowing, searchFrame, vmDo]
    generalize hq : Sem.go _ e false [] (mr_N T g a) = res
    obtain ⟨as, rfl, ha⟩ := Sem.eq_ok_of hq (a := Handler.found x.handlerPc) (s' := mr_N (T.setVm vm') g a) (acts' := []) (by simp [hfind])
    rfl
  have hfr : (mr_N T g a).frames = .throwing a :: .java g :: r := by
    have h9 := frames_entered (g := g) h.top (.throwing a)
    rw [hr] at h9
    exact h9
  rw [stepThread_throwing hfr, hstep]
  have hr' : (T.setVm vm').frames = .java g₀ :: r := hr
  rw [State.setTop_of_frames _ hr'] at hrest
  unfold mr_N
  rw [State.pushFrame, State.setFrames_setFrames, State.setTop_of_frames _ hr', State.setFrames_setFrames]
  exact hrest
end MRB
end
section
/-! CONTRACTS OF METHODS THAT RETURN OR THROW -/
def mr_TH (XC : String → Prop) (mc ms : Nat) (s : State) (o : Outcome) (t : State) : Prop :=
  ∃ (q : Addr) (E : String) (ce : Cell), o = .threw q ∧ XC E ∧ t.heap[q]? = some ce ∧ ce.vm = .none ∧ s.vm.findClass E = some ce.cls ∧ s.WarmedH t.vm ∧ s.sameButNew ({ t with vm := s.vm } : State) [] mc ms ∧ s.heap.size ≤ t.heap.size ∧ ∀ a : Nat, a < s.heap.size → t.heap[a]? = s.heap[a]?
def mr_QX (Qc : Array Value → State → Outcome → State → Prop) (XC : String → Prop) (mc ms : Nat) (free : Addr → Prop) : Array Value → State → Outcome → State → Prop := fun a st o t =>
  (Qc a st o t ∧ ∃ L, FrameEnd st o t L mc ms ∧ ∀ q ∈ L, free q.base) ∨ mr_TH XC mc ms st o t
def mr_Met (l : Launch) (y : MethodName) (ws : List Cond) (rm : Room) (Pc : Array Value → State → Prop) (Qc : Array Value → State → Outcome → State → Prop) (XC : String → Prop) (mc ms : Nat) (free : Addr → Prop) : Prop :=
  MetFree l y (headSpec ws rm) Pc (fun _ _ _ _ _ => True) (mr_QX Qc XC mc ms free)
/-- what a body owes at its end -/
def mr_Z (below : List Frame) (Qc : Array Value → State → Outcome → State → Prop) (XC : String → Prop) (a : Array Value) (s : State) (mc ms : Nat) (free : Addr → Prop) : State → Prop := fun t => ∃ o, t.status = .running ∧ Ended t below o ∧ mr_QX Qc XC mc ms free a s o t
theorem mr_kept {s t : State} {k n : Nat} (h : s.sameButNew t [] k n) (a : Nat) (ha : a < s.heap.size) : t.heap[a]? = s.heap[a]? := by
  obtain ⟨c', h1, h2, -, h4⟩ := h.2.2.2.2.2 a s.heap[a] (Array.getElem?_eq_getElem ha)
  have hs : c'.slots = s.heap[a].slots := Array.ext_getElem? fun i => h4 i (by simp)
  rw [h1, Array.getElem?_eq_getElem ha, h2, hs]
section MRC
variable {p : Program} {l : Launch} {e : Env} {R : Room} {s : State} {m : MethodId} {args : Array Value} {below : List Frame} {meth : Method} {c : Code} {H : Heap} {locs : List Loc} {cells slots : Nat} {Q : State → Prop}
variable {Qc : Array Value → State → Outcome → State → Prop} {XC : String → Prop} {mc ms : Nat} {free : Addr → Prop} {Pc : Array Value → State → Prop} {ws : List Cond} {rm : Room} {y : MethodName}
theorem mr_of {ws' : List Cond} {cc : ByteArray} {maxL : Nat} {ret : Option FieldType} (hy : plainName y.cls = true) (hw : ws = Cond.code y cc maxL ret :: ws')
    (body : ∀ p e s m args below meth c s₁, BodyLoose p l y (headSpec ws rm) cc maxL ret e s m args below meth c s₁ → c.maxLocals = maxL → (∀ (pc : Nat), ∀ x ∈ c.exceptionTable.toList, covers x pc = false) → Pc args s →
      W p l e (headSpec ws rm).room s m args below meth c s.heap [] 0 0 (mr_Z below Qc XC args s mc ms free) (entryFrame m args maxL)) : mr_Met l y ws rm Pc Qc XC mc ms free := by
  refine MetFree.of_bodyS (code := cc) (maxLocals := maxL) (ret := ret) hy ?_ ?_
  · intro args s m h hn
    obtain ⟨meth, c, h1, h2, h3, h4, h5, h6, -, -⟩ := Cond.code_spec hn (atoms_spec (ws := ws) h _ (by rw [hw]; exact List.mem_cons_self))
    exact ⟨meth, c, h1, h2, h3, h4, h5, h6⟩
  · intro p e s m args below meth c s₁ B hml hP _
    have hcode : (Cond.code y cc maxL ret).before args s = true := atoms_spec (ws := ws) B.pre _ (by rw [hw]; exact List.mem_cons_self)
    have hh0 : s₁.heap = s.heap := by rw [B.state]; rfl
    obtain ⟨t, a1, o, b1, b2, b3⟩ := body p e s m args below meth c s₁ B hml (fun pc => covers_of_empty (B.noHandlers hcode) pc) hP s₁ hh0 (Stand.of_body B)
    exact ⟨t, o, a1, b1, b2, b3⟩
/-- it returns: the kit's own ends serve -/
theorem mr_ret {g : JFrame} (k : W p l e R s m args below meth c H locs cells slots (MQ below Qc args s mc ms free) g) : W p l e R s m args below meth c H locs cells slots (mr_Z below Qc XC args s mc ms free) g := by
  intro T hT X
  obtain ⟨t, h1, o, h2, h3, h4, h5⟩ := k T hT X
  exact ⟨t, h1, o, h2, h3, Or.inl ⟨h4, h5⟩⟩
/-- 'throw new E("..")' where nothing has been written yet -/
theorem mr_throw {cc : ByteArray} {pc : Nat} {ls : Array Slot} {rest : List Value} (hexec : p.tables.exec = Jvm.exec) (hb : c.code = cc) (hl : l.stackTraces = false) {own cls text : String} {names : List String} {ik is ic sa : Nat}
    (hown : s.vm.findClass own = some m.cls) (hcls : Bundle.fit cls = true) (hnames : ∀ n ∈ names, Bundle.fit n = true) (hk : (Cond.classLink own ik cls).before args s = true) (hini : (Cond.initialized cls).before args s = true) (hstr : vk_R own is text sa s)
    (h : ∀ w ∈ Bundle.ownAtoms own ic cls names, w.before args s = true) (hsize : ls.size = c.maxLocals)
    (d0 : decode cc pc = .ok (.new ik, 3)) (d3 : decode cc (pc + 3) = .ok (.dup, 1)) (d4 : decode cc (pc + 4) = .ok (.ldc is, 2)) (d6 : decode cc (pc + 6) = .ok (.invokespecial ic, 3)) (d9 : decode cc (pc + 9) = .ok (.athrow, 1))
    (hout : ∀ (pc : Nat), ∀ x ∈ c.exceptionTable.toList, covers x pc = false) (hF : names.length + 3 < R.frames) (hL : (rest.map fun v => v.category).sum + (13 * (names.length + 1) + 44) ≤ R.locals) (hC : 1 ≤ R.cells) (hS : 6 ≤ R.slots) (hlocks : meth.locks = false)
    (hx : XC cls) (hc : 1 ≤ mc) (hs : 6 ≤ ms) : W p l e R s m args below meth c s.heap [] 0 0 (mr_Z below Qc XC args s mc ms free) (F0 m pc ls rest) := by
  intro T hT X
  have htr : e.platform.stackTraces = false := by rw [show e.platform.stackTraces = l.stackTraces by rw [X.admits.platform]]; exact hl
  obtain ⟨vm₁, cX, kX, hfX, hkX, -, -, X₁, st1⟩ := X.newCold hexec (own := own) (C := cls) (index := ik) (n := 6) hown hk (h (.instantiable cls 6) (by simp [Bundle.ownAtoms])) hini (g := F0 m pc ls rest) rfl (by rw [hb]; exact d0) (by omega) (by omega)
  generalize hT1 : (T.setVm vm₁).pushCell { cls := cX, slots := kX.instanceTypes.map defaultValue, vm := .none } = T1 at X₁ st1
  have hcellA : T1.heap[T.heap.size]? = some (freshCell cX kX) := by rw [← hT1]; exact State.heap_pushCell_size _ _
  have hcat : (Value.ref T.heap.size).category = 1 := rfl
  obtain ⟨U, hsteps, hrun, hend, hW, hsame, ce, hce, K⟩ := X₁.ctorThrowS hexec htr (own := own) (cls := cls) (names := names) (ic := ic) hown hcls hnames h (fun y hy => nomatch hy) hfX hkX hcellA (by rw [hT]; exact Nat.le_refl _) (msg := .ref sa) rfl
    (g := { method := m, pc := pc + 6, locals := ls, stack := .ref sa :: .ref T.heap.size :: .ref T.heap.size :: rest, locked := none }) rfl hsize rfl rfl (rest := rest) rfl (by rw [hb]; exact d6) (by rw [hb]; exact d9) (hout _) hF (by simp only [List.map_cons, List.sum_cons, hcat]; omega) hlocks
  refine ⟨U, ?_, .threw T.heap.size, hrun, hend, Or.inr ⟨T.heap.size, cls, ce, rfl, hx, hce, K.vm, K.cls, hW, hsame.mono (by omega) (by omega), ?_, ?_⟩⟩
  · refine st1 _ ?_
    have d3' : decode c.code (pc + 3) = .ok (.dup, 1) := by rw [hb]; exact d3
    show Steps p.tables e below (T1.setTop { method := m, pc := pc + 3, locals := ls, stack := .ref T.heap.size :: rest, locked := none }) _
    jvm_step X₁.here [X₁.here.top, hexec, d3', Value.category]
    exact X₁.ldcString hexec (own := own) (text := text) (index := is) (a := sa) hown hstr.1 hstr.2 (g := { method := m, pc := pc + 4, locals := ls, stack := .ref T.heap.size :: .ref T.heap.size :: rest, locked := none }) rfl (by rw [hb]; exact d4) _ hsteps
  · exact hsame.2.1
  · exact fun a ha => mr_kept hsame a ha
/-- a call of such a method: it comes back, or throws into this method's own table -/
theorem mr_back {bytes : ByteArray} {maxL : Nat} {ret : Option FieldType} {T : State} (X : Stand p l e R s m args below meth c T locs cells slots) (hM : mr_Met l y ws rm Pc Qc XC mc ms free) (hbl : FrameBlind Pc) (hrc : rm.cells = mc) (hrs : rm.slots = ms) (hRf : rm.frames + 1 ≤ R.frames) (hRl : 8 + (maxL + 11) + rm.locals ≤ R.locals)
    (hws : ∀ w ∈ ws, ∀ (a' : Array Value) (U : State), s.WarmedH U.vm → w.before a' U = true) (hin : Cond.code y bytes maxL ret ∈ ws) (hini : (Cond.initialized y.cls).before args s = true)
    {g : JFrame} (hg : g.method = m) (hsize : g.locals.size = c.maxLocals) {ig : Instr} (hdg : decode c.code g.pc = .ok (ig, 3)) (hW : 2 * g.monitorRoom + (g.stack.map fun v => v.category).sum ≤ 8) {mk : MethodId} (hn : T.methodNamed? y = some mk) {a : Array Value} (hc : cells + mc ≤ R.cells) (hs : slots + ms ≤ R.slots) (hP : Pc a T) :
    (∃ (v : Option Value) (t T' : State) (L : List Loc), Stand p l e R s m args below meth c T' (locs ++ L) (cells + mc) (slots + ms) ∧ (∀ q ∈ L, free q.base) ∧ T'.heap = t.heap ∧ T'.vm = t.vm ∧ Qc a (T.calling g mk a) (.returned v) t ∧
      Steps p.tables e below (doInvoke e (T.setTop g) [] mk a).1 (T'.setTop { g with pc := g.pc + 3, stack := v.toList ++ g.stack })) ∨
    (∃ (q : Addr) (E : String) (ce : Cell) (T' : State), Stand p l e R s m args below meth c T' locs (cells + mc) (slots + ms) ∧ XC E ∧ T'.heap[q]? = some ce ∧ ce.vm = .none ∧ s.vm.findClass E = some ce.cls ∧ T.heap.size ≤ T'.heap.size ∧ (∀ a : Nat, a < T.heap.size → T'.heap[a]? = T.heap[a]?) ∧
      Steps p.tables e below (doInvoke e (T.setTop g) [] mk a).1 (mr_N T' g q)) := by
  have hcode : (Cond.code y bytes maxL ret).before a T = true := hws _ hin _ _ X.warmed
  have hini' : (Cond.initialized y.cls).before a T = true := word_at X.warmed (Or.inl rfl) hini
  obtain ⟨methY, cY, hmY, hcY, -, hlY, -, -, -, -⟩ := Cond.code_spec hn hcode
  obtain ⟨kY, hkY, -⟩ := className_of_methodNamed hn
  have hinitY : kY.init = .initialized := Cond.initialized_spec (findClass_of_methodNamed hn) hkY hini'
  have h : At T g.method c below := by rw [hg]; exact X.here
  have happ : (headSpec ws rm).appliesLoose y e.platform (T.calling g mk a) = true :=
    Spec.appliesLoose_calling (g := g) h hdg hn hkY hinitY
      (X.room_calling (g := g) (R' := (headSpec ws rm).room) hsize hmY hcY hRf (by rw [hlY]; show _ + _ + rm.locals ≤ _; omega) (by show cells + rm.cells ≤ _; omega) (by show slots + rm.slots ≤ _; omega)) (atoms_intro fun w hw => hws w hw _ _ X.warmed)
  have hF : (T.setTop g).frames = .java g :: below := by rw [State.frames_setTop' _ X.here.top, X.tail]
  obtain ⟨o, t, hsteps, -, hend, hq⟩ := Steps.callFree hM p X.admits X.cas X.clock (acts := []) (mid := [.java g]) (below := below) hF happ (hbl _ _ _ _ hP) trivial
  rw [hF] at hend
  rcases hq with ⟨hq, L, ⟨⟨v, rfl⟩, hW2, hsame⟩, hL⟩ | ⟨q, E, ce, rfl, hE, hce, hcv, hcl, hW2, hsame, hz, hk⟩
  · obtain ⟨T', X', -, hB, rfl⟩ := X.outOf hg hdg hend hW2 hsame
    refine Or.inl ⟨v, _, T', L, X', hL, ?_, ?_, hq, hsteps⟩
    · rfl
    · rfl
  · obtain ⟨T', X', hW3, hB, rfl⟩ := X.outOfThrown hg hend hW2 hsame
    refine Or.inr ⟨q, E, ce, T', by simpa using X', hE, hce, hcv, ?_, hz, hk, hsteps⟩
    have h9 : T.vm.findClass E = some ce.cls := hcl
    rw [← X.warmed.alike.findClass]
    exact h9
/-- the row of this method's table that takes E, thrown at pc; it goes on at pcx -/
def mr_Row (c : Code) (own : String) (args : Array Value) (s : State) (pc : Nat) (E : String) (pcx : Nat) : Prop :=
  ∃ (pre suf : List ExceptionTableEntry) (x : ExceptionTableEntry) (name : String), c.exceptionTable.toList = pre ++ x :: suf ∧ x.handlerPc = pcx ∧ covers x pc = true ∧ x.catchType ≠ 0 ∧ (Cond.classLink own x.catchType name).before args s = true ∧ (Cond.castable E name).before args s = true ∧
    ∀ y ∈ pre, covers y pc = true ∧ y.catchType ≠ 0 ∧ ∃ nm : String, (Cond.classLink own y.catchType nm).before args s = true ∧ va_Nc E nm s
theorem mr_callV {cc bytes : ByteArray} {nL maxL n index pc : Nat} {ret : Option FieldType} {Ts : List Cond} {own C : String} {b : Addr} {As st0 rest : List Value} {ls : Array Slot} (S : CallFix p m c cc nL s args Ts own) (hM : mr_Met l y ws rm Pc Qc XC mc ms free) (cw : CallW R s args own C index y bytes maxL ret ws rm mc ms n) (hp : PreV s H C b Pc As)
    (hn : As.length = n) (hsize : ls.size = nL) (hstack : st0 = As.reverse ++ .ref b :: rest) (hW : (rest.map fun v => v.category).sum ≤ 8) (hdg : decode cc pc = .ok (.invokevirtual index, 3)) (hf : cells + mc ≤ R.cells ∧ slots + ms ≤ R.slots)
    (kk : ∀ (v : Option Value) (st₀ t : State) (L : List Loc), st₀.heap = H → s.vm.Alike t.vm → Qc (Value.ref b :: As).toArray st₀ (.returned v) t → (∀ q ∈ L, free q.base) → W p l e R s m args below meth c t.heap (locs ++ L) (cells + mc) (slots + ms) Q (F0 m (pc + 3) ls (v.toList ++ rest)))
    (kx : ∀ E : String, XC E → ∃ pcx : Nat, mr_Row c own args s pc E pcx ∧ ∀ (q : Addr) (H1 : Heap), H.size ≤ H1.size → (∀ a : Nat, a < H.size → H1[a]? = H[a]?) → W p l e R s m args below meth c H1 locs (cells + mc) (slots + ms) Q (F0 m pcx ls [.ref q])) :
    W p l e R s m args below meth c H locs cells slots Q (F0 m pc ls st0) := by
  obtain ⟨⟨hrc, hrs, hRf, hRl, hws, hin, hcode, hini, hy, hlen, hlk⟩, hinst, hsel⟩ := cw
  obtain ⟨hexec, hb, hml, hown, -⟩ := S
  obtain ⟨hbl, ⟨cellB, hcB, hoB, hclB⟩, hPc⟩ := hp
  intro T hT X
  obtain ⟨mk, methM, hnamed, hmethM, hstM, habM⟩ := Cond.instanceMethod_spec hinst
  obtain ⟨methM', cM, hmethM', -, -, -, -, -, -, hsigM⟩ := Cond.code_spec hnamed hcode
  cases hmethM.symm.trans hmethM'
  obtain ⟨c2, r2, m2, q1, q2, q3, q4, kP, hkP, hkPi⟩ := Cond.selects_spec hsel
  cases hclB.symm.trans q1
  cases (State.methodFound?_of_named hnamed hy).symm.trans q2
  cases hnamed.symm.trans q3
  have hselP : selectMethod e.platform s.vm cellB.cls mk = .method mk := by rw [Launch.admits_selectMethod X.admits]; exact q4
  have hd' : decode c.code pc = .ok (.invokevirtual index, 3) := by rw [hb]; exact hdg
  obtain ⟨vm₁, X₁, hstep₁⟩ := X.invokevirtual hexec hown hlk hnamed hmethM hstM hkP hkPi hy (a := b) (cell := cellB) (by rw [hT]; exact hcB)
    (fun z h => by rw [h] at hoB; cases hoB) hselP hmethM habM hkP hkPi (g := F0 m pc ls st0) rfl (argsL := As) (rest := rest) (hn.trans (hlen _ hsigM)) hstack hd'
  rcases mr_back X₁ hM hbl hrc hrs hRf hRl hws hin hini (g := F0 m pc ls rest) rfl (hsize.trans hml.symm) (ig := .invokevirtual index) hd' (by simpa using hW) (X₁.named hnamed) (a := (Value.ref b :: As).toArray) hf.1 hf.2 (hPc (T.setVm vm₁) hT X₁.warmed) with
    ⟨v, t, T', L, X', hL, e1, e2, hq, hs⟩ | ⟨q, E, ce, T', X', hE, hce, hcv, hcl, hz, hk, hs⟩
  · obtain ⟨t2, a1, b1⟩ := kk v _ t L (by exact hT) (by rw [← e2]; exact X'.warmed.alike) hq hL T' e1 X'
    exact ⟨t2, hstep₁ _ fun acts => by rw [doInvoke_state]; exact hs.trans a1, b1⟩
  · obtain ⟨pcx, ⟨pre, suf, x, name, r1, rfl, r3, r4, r5, r6, r7⟩, k9⟩ := kx E hE
    obtain ⟨vm', X9, st9⟩ := mr_caught (g := F0 m pc ls rest) rfl hown hcv hcl r1 r3 r4 r5 r6 r7 X' hce
    have hTT : (T.setVm vm₁).heap = H := hT
    rw [hTT] at hz hk
    obtain ⟨t2, a1, b1⟩ := k9 q (T'.setVm vm').heap hz hk (T'.setVm vm') rfl X9
    exact ⟨t2, hstep₁ _ fun acts => by rw [doInvoke_state]; exact hs.trans (st9 _ a1), b1⟩
/-- .. of one that changes nothing when it returns -/
theorem mr_callVp {post : Int32 → Prop} {cc bytes : ByteArray} {nL maxL n index pc : Nat} {ret : Option FieldType} {Ts : List Cond} {own C : String} {b : Addr} {As st0 rest : List Value} {ls : Array Slot} (S : CallFix p m c cc nL s args Ts own) (hM : mr_Met l y ws rm Pc (vp_Si post) XC mc ms (fun _ => False)) (cw : CallW R s args own C index y bytes maxL ret ws rm mc ms n) (hp : PreV s H C b Pc As)
    (hn : As.length = n) (hsize : ls.size = nL) (hstack : st0 = As.reverse ++ .ref b :: rest) (hW : (rest.map fun v => v.category).sum ≤ 8) (hdg : decode cc pc = .ok (.invokevirtual index, 3)) (hf : cells + mc ≤ R.cells ∧ slots + ms ≤ R.slots)
    (kk : ∀ r : Int32, post r → W p l e R s m args below meth c H locs (cells + mc) (slots + ms) Q (F0 m (pc + 3) ls (.int r :: rest)))
    (kx : ∀ E : String, XC E → ∃ pcx : Nat, mr_Row c own args s pc E pcx ∧ ∀ (q : Addr) (H1 : Heap), H.size ≤ H1.size → (∀ a : Nat, a < H.size → H1[a]? = H[a]?) → W p l e R s m args below meth c H1 locs (cells + mc) (slots + ms) Q (F0 m pcx ls [.ref q])) :
    W p l e R s m args below meth c H locs cells slots Q (F0 m pc ls st0) := by
  refine mr_callV S hM cw hp hn hsize hstack hW hdg hf (fun v st₀ t L h0 _ hq hL => ?_) kx
  obtain ⟨r, hv, hr, hh⟩ := hq
  cases hv
  have hL0 : L = [] := List.eq_nil_iff_forall_not_mem.mpr fun q hq => hL q hq
  rw [hL0, List.append_nil, hh, h0]
  exact kk r hr
end MRC
end
section
/-! THE TABLES' WORDS, seen from every method: all hold at the law's start s0, and where nothing old was written they hold still -/
def mr_us : Cond := .isRef (.static Bundle.tN "UNASSIGNED_STACK" Bundle.steD)
def mr_ss : Cond := .isRef (.static Bundle.tN "SUPPRESSED_SENTINEL" Bundle.listD)
def mr_iob : String := "java/lang/IndexOutOfBoundsException"
def mr_iae : String := "java/lang/IllegalArgumentException"
def mr_ise : String := "java/lang/IllegalStateException"
def mr_up : List String := ["java/lang/RuntimeException", "java/lang/Exception"]
def mr_G (s0 : State) : Prop := ∃ A : Array Value, (∀ w ∈ lw_tbl, w.before A s0 = true) ∧ mr_us.before A s0 = true ∧ mr_ss.before A s0 = true ∧ va_Nc mr_ise mr_iae s0 ∧ va_Nc mr_iae mr_iob s0 ∧ va_Nc mr_ise mr_iob s0
def mr_B (s0 U : State) : Prop := mr_G s0 ∧ s0.WarmedH U.vm ∧ s0.heap.size ≤ U.heap.size ∧ ∀ a : Nat, a < s0.heap.size → U.heap[a]? = s0.heap[a]?
def mr_mv (w : Cond) : Bool := goodWord w || match w with
  | .declares _ => true
  | .castable _ _ => true
  | .privateMethod _ => true
  | .methodLinkNest _ _ _ _ => true
  | .stringRef _ _ _ => true
  | .arrayOver (.object _) => true
  | .laysStatic _ _ _ => true
  | _ => false
theorem mr_all : lw_tbl.all mr_mv = true := by decide +kernel
theorem mr_move {A A' : Array Value} {s U : State} {w : Cond} (hW : s.WarmedH U.vm) (hH : ∀ a : Nat, a < s.heap.size → U.heap[a]? = s.heap[a]?) (hm : mr_mv w = true) (h : w.before A s = true) : w.before A' U = true := by
  by_cases hg : goodWord w = true
  · exact word_at hW (good_of_word hg) h
  · simp only [mr_mv, Bool.or_eq_true, hg, false_or] at hm
    cases w with
    | declares x => exact va_Nw.use rfl (va_Nw.warmD hW (va_Nw.of rfl h))
    | castable a b => exact va_Nw.use rfl (va_Nw.warmC hW (va_Nw.of rfl h))
    | privateMethod x => exact va_tabs rfl (rfl : (s.setVm U.vm).vm = U.vm) (by rw [Cond.privateMethod_setVm hW.alike]; exact h)
    | methodLinkNest a i x b => exact va_Nw.use rfl (va_Nw.warmM hW (va_Nw.of rfl h))
    | stringRef a i t =>
      have h1 := Cond.stringRef_warmed hW h
      exact h1
    | arrayOver t =>
      cases t with
      | object C => exact va_AO.use (va_AO.moved hW.alike (va_AO.of h))
      | _ => simp at hm
    | laysStatic a n d =>
      obtain ⟨c, k, i, f, q, cell, h1, h2, h3, h4, h5, h6, h7, h8, h9⟩ := Cond.laysStatic_spec h
      obtain ⟨k', hi', he⟩ := State.fieldFound?_setVm hW.alike h2
      exact Cond.laysStatic_of (by rw [hW.alike.findClass]; exact h1) hi' h3 (by rw [he]; exact h4) (by rw [hH q (Array.getElem?_eq_some_iff.mp h5).1]; exact h5) h6 h7 h8 (by rw [he]; exact h9)
    | _ => simp at hm
theorem mr_isr {A A' : Array Value} {s U : State} {C n d : String} (hW : s.WarmedH U.vm) (hH : ∀ a : Nat, a < s.heap.size → U.heap[a]? = s.heap[a]?) (hl : (Cond.laysStatic C n d).before A s = true) (hini : (Cond.initialized C).before A s = true) (h : (Cond.isRef (.static C n d)).before A s = true) : (Cond.isRef (.static C n d)).before A' U = true := by
  have hz : va_Zq C n d (fun _ => False) U U.heap := (va_Zq.kept (va_Zqof (A := fun _ => False) hl hini h (fun _ _ h => h)) (fun a h1 _ => hH a h1)).moved hW.alike
  rcases hz with ⟨cf, kf, fi, f, a, cell, h1, h2, h3, h4, h5, h6, h7, -⟩ | ⟨t, cf, kf, fi, f, a, cell, h1, h2, h3, h4, h5, h6, h7, -⟩
  · have he : (Term.static C n d).eval A' U none [] U = some .null := by simp [Term.eval, State.fieldNamed?, h1, h2, h4, h5, h6, h7]
    simp [Cond.before, Cond.holds, Cond.value, he]
  · have he : (Term.static C n d).eval A' U none [] U = some (.ref t) := by simp [Term.eval, State.fieldNamed?, h1, h2, h4, h5, h6, h7]
    simp [Cond.before, Cond.holds, Cond.value, he]
theorem mr_B.hts {s0 U : State} (h : mr_B s0 U) (A' : Array Value) : ∀ w ∈ lw_tbl, w.before A' U = true := by
  obtain ⟨⟨A, h1, -⟩, h2, -, h3⟩ := h
  exact fun w hw => mr_move h2 h3 (List.all_eq_true.mp mr_all w hw) (h1 w hw)
theorem mr_w_lu : Cond.laysStatic Bundle.tN "UNASSIGNED_STACK" Bundle.steD ∈ lw_tbl := by decide +kernel
theorem mr_w_ls : Cond.laysStatic Bundle.tN "SUPPRESSED_SENTINEL" Bundle.listD ∈ lw_tbl := by decide +kernel
theorem mr_w_it : Cond.initialized Bundle.tN ∈ lw_tbl := by decide +kernel
theorem mr_B.two {s0 U : State} (h : mr_B s0 U) (A' : Array Value) : mr_us.before A' U = true ∧ mr_ss.before A' U = true := by
  obtain ⟨⟨A, h1, h4, h5, -⟩, h2, -, h3⟩ := h
  exact ⟨mr_isr h2 h3 (h1 _ mr_w_lu) (h1 _ mr_w_it) h4, mr_isr h2 h3 (h1 _ mr_w_ls) (h1 _ mr_w_it) h5⟩
theorem mr_B.own {s0 U : State} (h : mr_B s0 U) (A' : Array Value) {L : List Cond} (hL : L.all (fun w => decide (w ∈ lw_tbl) || decide (w = mr_us) || decide (w = mr_ss)) = true) : ∀ w ∈ L, w.before A' U = true := by
  intro w hw
  have h1 := List.all_eq_true.mp hL w hw
  simp only [Bool.or_eq_true, decide_eq_true_eq] at h1
  rcases h1 with (h1 | rfl) | rfl
  · exact h.hts A' w h1
  · exact (h.two A').1
  · exact (h.two A').2
theorem mr_B.go {s0 s U : State} (h : mr_B s0 s) (hW : s.WarmedH U.vm) (hz : s.heap.size ≤ U.heap.size) (hH : ∀ a : Nat, a < s0.heap.size → U.heap[a]? = s.heap[a]?) : mr_B s0 U :=
  ⟨h.1, State.WarmedH.trans h.2.1 hW, Nat.le_trans h.2.2.1 hz, fun a ha => (hH a ha).trans (h.2.2.2 a ha)⟩
theorem mr_B.call {s0 U : State} (h : mr_B s0 U) (g : JFrame) (mk : MethodId) (a : Array Value) : mr_B s0 (U.calling g mk a) := h
theorem mr_a_iob : (Bundle.ownAtoms "MeasureRows" 60 mr_iob mr_up).all (fun w => decide (w ∈ lw_tbl) || decide (w = mr_us) || decide (w = mr_ss)) = true := by decide +kernel
theorem mr_a_iae : (Bundle.ownAtoms "MeasureRows" 82 mr_iae mr_up).all (fun w => decide (w ∈ lw_tbl) || decide (w = mr_us) || decide (w = mr_ss)) = true := by decide +kernel
theorem mr_a_ise : (Bundle.ownAtoms "MeasureRows" 97 mr_ise mr_up).all (fun w => decide (w ∈ lw_tbl) || decide (w = mr_us) || decide (w = mr_ss)) = true := by decide +kernel
end
section
theorem d_M_init_0 : decode b_M_init 0 = .ok (.aload_n 0, 1) := by decide +kernel
theorem d_M_init_1 : decode b_M_init 1 = .ok (.invokespecial 1, 3) := by decide +kernel
theorem d_M_init_4 : decode b_M_init 4 = .ok (.aload_n 0, 1) := by decide +kernel
theorem d_M_init_5 : decode b_M_init 5 = .ok (.new 7, 3) := by decide +kernel
theorem d_M_init_8 : decode b_M_init 8 = .ok (.dup, 1) := by decide +kernel
theorem d_M_init_9 : decode b_M_init 9 = .ok (.invokespecial 9, 3) := by decide +kernel
theorem d_M_init_12 : decode b_M_init 12 = .ok (.putfield 10, 3) := by decide +kernel
theorem d_M_init_15 : decode b_M_init 15 = .ok (.aload_n 0, 1) := by decide +kernel
theorem d_M_init_16 : decode b_M_init 16 = .ok (.bipush 80, 2) := by decide +kernel
theorem d_M_init_18 : decode b_M_init 18 = .ok (.anewarray 16, 3) := by decide +kernel
theorem d_M_init_21 : decode b_M_init 21 = .ok (.putfield 18, 3) := by decide +kernel
theorem d_M_init_24 : decode b_M_init 24 = .ok (.aload_n 0, 1) := by decide +kernel
theorem d_M_init_25 : decode b_M_init 25 = .ok (.iconst 0, 1) := by decide +kernel
theorem d_M_init_26 : decode b_M_init 26 = .ok (.putfield 22, 3) := by decide +kernel
theorem d_M_init_29 : decode b_M_init 29 = .ok (.aload_n 0, 1) := by decide +kernel
theorem d_M_init_30 : decode b_M_init 30 = .ok (.iconst 0, 1) := by decide +kernel
theorem d_M_init_31 : decode b_M_init 31 = .ok (.putfield 26, 3) := by decide +kernel
theorem d_M_init_34 : decode b_M_init 34 = .ok (.aload_n 0, 1) := by decide +kernel
theorem d_M_init_35 : decode b_M_init 35 = .ok (.iconst 0, 1) := by decide +kernel
theorem d_M_init_36 : decode b_M_init 36 = .ok (.putfield 29, 3) := by decide +kernel
theorem d_M_init_39 : decode b_M_init 39 = .ok (.aload_n 0, 1) := by decide +kernel
theorem d_M_init_40 : decode b_M_init 40 = .ok (.bipush 80, 2) := by decide +kernel
theorem d_M_init_42 : decode b_M_init 42 = .ok (.newarray .int, 2) := by decide +kernel
theorem d_M_init_44 : decode b_M_init 44 = .ok (.putfield 32, 3) := by decide +kernel
theorem d_M_init_47 : decode b_M_init 47 = .ok (.aload_n 0, 1) := by decide +kernel
theorem d_M_init_48 : decode b_M_init 48 = .ok (.iconst 0, 1) := by decide +kernel
theorem d_M_init_49 : decode b_M_init 49 = .ok (.putfield 36, 3) := by decide +kernel
theorem d_M_init_52 : decode b_M_init 52 = .ok (.aload_n 0, 1) := by decide +kernel
theorem d_M_init_53 : decode b_M_init 53 = .ok (.bipush 80, 2) := by decide +kernel
theorem d_M_init_55 : decode b_M_init 55 = .ok (.newarray .int, 2) := by decide +kernel
theorem d_M_init_57 : decode b_M_init 57 = .ok (.putfield 39, 3) := by decide +kernel
theorem d_M_init_60 : decode b_M_init 60 = .ok (.aload_n 0, 1) := by decide +kernel
theorem d_M_init_61 : decode b_M_init 61 = .ok (.bipush 8, 2) := by decide +kernel
theorem d_M_init_63 : decode b_M_init 63 = .ok (.newarray .int, 2) := by decide +kernel
theorem d_M_init_65 : decode b_M_init 65 = .ok (.putfield 42, 3) := by decide +kernel
theorem d_M_init_68 : decode b_M_init 68 = .ok (.return_, 1) := by decide +kernel
theorem d_M_member_0 : decode b_M_member 0 = .ok (.iload_n 1, 1) := by decide +kernel
theorem d_M_member_1 : decode b_M_member 1 = .ok (.invokestatic 45, 3) := by decide +kernel
theorem d_M_member_4 : decode b_M_member 4 = .ok (.ifCond .eq 17, 3) := by decide +kernel
theorem d_M_member_7 : decode b_M_member 7 = .ok (.iload_n 2, 1) := by decide +kernel
theorem d_M_member_8 : decode b_M_member 8 = .ok (.invokestatic 49, 3) := by decide +kernel
theorem d_M_member_11 : decode b_M_member 11 = .ok (.ifCond .ne 12, 3) := by decide +kernel
theorem d_M_member_14 : decode b_M_member 14 = .ok (.iload_n 2, 1) := by decide +kernel
theorem d_M_member_15 : decode b_M_member 15 = .ok (.invokestatic 45, 3) := by decide +kernel
theorem d_M_member_18 : decode b_M_member 18 = .ok (.ifCond .ne 5, 3) := by decide +kernel
theorem d_M_member_21 : decode b_M_member 21 = .ok (.iconst 0, 1) := by decide +kernel
theorem d_M_member_22 : decode b_M_member 22 = .ok (.ireturn, 1) := by decide +kernel
theorem d_M_member_23 : decode b_M_member 23 = .ok (.aload_n 0, 1) := by decide +kernel
theorem d_M_member_24 : decode b_M_member 24 = .ok (.getfield 10, 3) := by decide +kernel
theorem d_M_member_27 : decode b_M_member 27 = .ok (.iload_n 1, 1) := by decide +kernel
theorem d_M_member_28 : decode b_M_member 28 = .ok (.iload_n 2, 1) := by decide +kernel
theorem d_M_member_29 : decode b_M_member 29 = .ok (.invokevirtual 52, 3) := by decide +kernel
theorem d_M_member_32 : decode b_M_member 32 = .ok (.ireturn, 1) := by decide +kernel
theorem d_M_ring_0 : decode b_M_ring 0 = .ok (.iload_n 1, 1) := by decide +kernel
theorem d_M_ring_1 : decode b_M_ring 1 = .ok (.invokestatic 45, 3) := by decide +kernel
theorem d_M_ring_4 : decode b_M_ring 4 = .ok (.ifCond .eq 10, 3) := by decide +kernel
theorem d_M_ring_7 : decode b_M_ring 7 = .ok (.iload_n 2, 1) := by decide +kernel
theorem d_M_ring_8 : decode b_M_ring 8 = .ok (.invokestatic 45, 3) := by decide +kernel
theorem d_M_ring_11 : decode b_M_ring 11 = .ok (.ifCond .ne 13, 3) := by decide +kernel
theorem d_M_ring_14 : decode b_M_ring 14 = .ok (.new 56, 3) := by decide +kernel
theorem d_M_ring_17 : decode b_M_ring 17 = .ok (.dup, 1) := by decide +kernel
theorem d_M_ring_18 : decode b_M_ring 18 = .ok (.ldc 58, 2) := by decide +kernel
theorem d_M_ring_20 : decode b_M_ring 20 = .ok (.invokespecial 60, 3) := by decide +kernel
theorem d_M_ring_23 : decode b_M_ring 23 = .ok (.athrow, 1) := by decide +kernel
theorem d_M_ring_24 : decode b_M_ring 24 = .ok (.aload_n 0, 1) := by decide +kernel
theorem d_M_ring_25 : decode b_M_ring 25 = .ok (.getfield 10, 3) := by decide +kernel
theorem d_M_ring_28 : decode b_M_ring 28 = .ok (.iload_n 1, 1) := by decide +kernel
theorem d_M_ring_29 : decode b_M_ring 29 = .ok (.iload_n 2, 1) := by decide +kernel
theorem d_M_ring_30 : decode b_M_ring 30 = .ok (.invokevirtual 63, 3) := by decide +kernel
theorem d_M_ring_33 : decode b_M_ring 33 = .ok (.ireturn, 1) := by decide +kernel
theorem d_M_has_0 : decode b_M_has 0 = .ok (.iload_n 1, 1) := by decide +kernel
theorem d_M_has_1 : decode b_M_has 1 = .ok (.invokestatic 45, 3) := by decide +kernel
theorem d_M_has_4 : decode b_M_has 4 = .ok (.ifCond .ne 9, 3) := by decide +kernel
theorem d_M_has_7 : decode b_M_has 7 = .ok (.iload_n 1, 1) := by decide +kernel
theorem d_M_has_8 : decode b_M_has 8 = .ok (.bipush 31, 2) := by decide +kernel
theorem d_M_has_10 : decode b_M_has 10 = .ok (.if_icmp .ne 10, 3) := by decide +kernel
theorem d_M_has_13 : decode b_M_has 13 = .ok (.iload_n 2, 1) := by decide +kernel
theorem d_M_has_14 : decode b_M_has 14 = .ok (.invokestatic 49, 3) := by decide +kernel
theorem d_M_has_17 : decode b_M_has 17 = .ok (.ifCond .ne 13, 3) := by decide +kernel
theorem d_M_has_20 : decode b_M_has 20 = .ok (.new 56, 3) := by decide +kernel
theorem d_M_has_23 : decode b_M_has 23 = .ok (.dup, 1) := by decide +kernel
theorem d_M_has_24 : decode b_M_has 24 = .ok (.ldc 66, 2) := by decide +kernel
theorem d_M_has_26 : decode b_M_has 26 = .ok (.invokespecial 60, 3) := by decide +kernel
theorem d_M_has_29 : decode b_M_has 29 = .ok (.athrow, 1) := by decide +kernel
theorem d_M_has_30 : decode b_M_has 30 = .ok (.aload_n 0, 1) := by decide +kernel
theorem d_M_has_31 : decode b_M_has 31 = .ok (.getfield 10, 3) := by decide +kernel
theorem d_M_has_34 : decode b_M_has 34 = .ok (.iload_n 1, 1) := by decide +kernel
theorem d_M_has_35 : decode b_M_has 35 = .ok (.iload_n 2, 1) := by decide +kernel
theorem d_M_has_36 : decode b_M_has 36 = .ok (.invokevirtual 68, 3) := by decide +kernel
theorem d_M_has_39 : decode b_M_has 39 = .ok (.ireturn, 1) := by decide +kernel
theorem d_M_row_0 : decode b_M_row 0 = .ok (.iload_n 1, 1) := by decide +kernel
theorem d_M_row_1 : decode b_M_row 1 = .ok (.invokestatic 71, 3) := by decide +kernel
theorem d_M_row_4 : decode b_M_row 4 = .ok (.ifCond .eq 10, 3) := by decide +kernel
theorem d_M_row_7 : decode b_M_row 7 = .ok (.iload_n 2, 1) := by decide +kernel
theorem d_M_row_8 : decode b_M_row 8 = .ok (.invokestatic 75, 3) := by decide +kernel
theorem d_M_row_11 : decode b_M_row 11 = .ok (.ifCond .ne 13, 3) := by decide +kernel
theorem d_M_row_14 : decode b_M_row 14 = .ok (.new 78, 3) := by decide +kernel
theorem d_M_row_17 : decode b_M_row 17 = .ok (.dup, 1) := by decide +kernel
theorem d_M_row_18 : decode b_M_row 18 = .ok (.ldc 80, 2) := by decide +kernel
theorem d_M_row_20 : decode b_M_row 20 = .ok (.invokespecial 82, 3) := by decide +kernel
theorem d_M_row_23 : decode b_M_row 23 = .ok (.athrow, 1) := by decide +kernel
theorem d_M_row_24 : decode b_M_row 24 = .ok (.iload_n 3, 1) := by decide +kernel
theorem d_M_row_25 : decode b_M_row 25 = .ok (.invokestatic 83, 3) := by decide +kernel
theorem d_M_row_28 : decode b_M_row 28 = .ok (.ifCond .eq 25, 3) := by decide +kernel
theorem d_M_row_31 : decode b_M_row 31 = .ok (.iload 4, 2) := by decide +kernel
theorem d_M_row_33 : decode b_M_row 33 = .ok (.invokestatic 86, 3) := by decide +kernel
theorem d_M_row_36 : decode b_M_row 36 = .ok (.ifCond .eq 17, 3) := by decide +kernel
theorem d_M_row_39 : decode b_M_row 39 = .ok (.iload 7, 2) := by decide +kernel
theorem d_M_row_41 : decode b_M_row 41 = .ok (.invokestatic 83, 3) := by decide +kernel
theorem d_M_row_44 : decode b_M_row 44 = .ok (.ifCond .eq 9, 3) := by decide +kernel
theorem d_M_row_47 : decode b_M_row 47 = .ok (.iload 4, 2) := by decide +kernel
theorem d_M_row_49 : decode b_M_row 49 = .ok (.iload_n 3, 1) := by decide +kernel
theorem d_M_row_50 : decode b_M_row 50 = .ok (.if_icmp .ge 13, 3) := by decide +kernel
theorem d_M_row_53 : decode b_M_row 53 = .ok (.new 78, 3) := by decide +kernel
theorem d_M_row_56 : decode b_M_row 56 = .ok (.dup, 1) := by decide +kernel
theorem d_M_row_57 : decode b_M_row 57 = .ok (.ldc 89, 2) := by decide +kernel
theorem d_M_row_59 : decode b_M_row 59 = .ok (.invokespecial 82, 3) := by decide +kernel
theorem d_M_row_62 : decode b_M_row 62 = .ok (.athrow, 1) := by decide +kernel
theorem d_M_row_63 : decode b_M_row 63 = .ok (.iload 5, 2) := by decide +kernel
theorem d_M_row_65 : decode b_M_row 65 = .ok (.ifCond .lt 22, 3) := by decide +kernel
theorem d_M_row_68 : decode b_M_row 68 = .ok (.iload 5, 2) := by decide +kernel
theorem d_M_row_70 : decode b_M_row 70 = .ok (.bipush 8, 2) := by decide +kernel
theorem d_M_row_72 : decode b_M_row 72 = .ok (.if_icmp .ge 15, 3) := by decide +kernel
theorem d_M_row_75 : decode b_M_row 75 = .ok (.iload 6, 2) := by decide +kernel
theorem d_M_row_77 : decode b_M_row 77 = .ok (.ifCond .lt 10, 3) := by decide +kernel
theorem d_M_row_80 : decode b_M_row 80 = .ok (.iload 6, 2) := by decide +kernel
theorem d_M_row_82 : decode b_M_row 82 = .ok (.bipush 10, 2) := by decide +kernel
theorem d_M_row_84 : decode b_M_row 84 = .ok (.if_icmp .lt 13, 3) := by decide +kernel
theorem d_M_row_87 : decode b_M_row 87 = .ok (.new 78, 3) := by decide +kernel
theorem d_M_row_90 : decode b_M_row 90 = .ok (.dup, 1) := by decide +kernel
theorem d_M_row_91 : decode b_M_row 91 = .ok (.ldc 91, 2) := by decide +kernel
theorem d_M_row_93 : decode b_M_row 93 = .ok (.invokespecial 82, 3) := by decide +kernel
theorem d_M_row_96 : decode b_M_row 96 = .ok (.athrow, 1) := by decide +kernel
theorem d_M_row_97 : decode b_M_row 97 = .ok (.aload_n 0, 1) := by decide +kernel
theorem d_M_row_98 : decode b_M_row 98 = .ok (.getfield 22, 3) := by decide +kernel
theorem d_M_row_101 : decode b_M_row 101 = .ok (.bipush 80, 2) := by decide +kernel
theorem d_M_row_103 : decode b_M_row 103 = .ok (.if_icmp .lt 13, 3) := by decide +kernel
theorem d_M_row_106 : decode b_M_row 106 = .ok (.new 93, 3) := by decide +kernel
theorem d_M_row_109 : decode b_M_row 109 = .ok (.dup, 1) := by decide +kernel
theorem d_M_row_110 : decode b_M_row 110 = .ok (.ldc 95, 2) := by decide +kernel
theorem d_M_row_112 : decode b_M_row 112 = .ok (.invokespecial 97, 3) := by decide +kernel
theorem d_M_row_115 : decode b_M_row 115 = .ok (.athrow, 1) := by decide +kernel
theorem d_M_row_116 : decode b_M_row 116 = .ok (.aload_n 0, 1) := by decide +kernel
theorem d_M_row_117 : decode b_M_row 117 = .ok (.iload_n 1, 1) := by decide +kernel
theorem d_M_row_118 : decode b_M_row 118 = .ok (.iload_n 2, 1) := by decide +kernel
theorem d_M_row_119 : decode b_M_row 119 = .ok (.iload_n 3, 1) := by decide +kernel
theorem d_M_row_120 : decode b_M_row 120 = .ok (.iload 4, 2) := by decide +kernel
theorem d_M_row_122 : decode b_M_row 122 = .ok (.iload 5, 2) := by decide +kernel
theorem d_M_row_124 : decode b_M_row 124 = .ok (.iload 6, 2) := by decide +kernel
theorem d_M_row_126 : decode b_M_row 126 = .ok (.invokevirtual 98, 3) := by decide +kernel
theorem d_M_row_129 : decode b_M_row 129 = .ok (.istore 8, 2) := by decide +kernel
theorem d_M_row_131 : decode b_M_row 131 = .ok (.iload 8, 2) := by decide +kernel
theorem d_M_row_133 : decode b_M_row 133 = .ok (.iconst (-1), 1) := by decide +kernel
theorem d_M_row_134 : decode b_M_row 134 = .ok (.if_icmp .eq 8, 3) := by decide +kernel
theorem d_M_row_137 : decode b_M_row 137 = .ok (.iconst (-1), 1) := by decide +kernel
theorem d_M_row_138 : decode b_M_row 138 = .ok (.iload 8, 2) := by decide +kernel
theorem d_M_row_140 : decode b_M_row 140 = .ok (.isub, 1) := by decide +kernel
theorem d_M_row_141 : decode b_M_row 141 = .ok (.ireturn, 1) := by decide +kernel
theorem d_M_row_142 : decode b_M_row 142 = .ok (.aload_n 0, 1) := by decide +kernel
theorem d_M_row_143 : decode b_M_row 143 = .ok (.getfield 18, 3) := by decide +kernel
theorem d_M_row_146 : decode b_M_row 146 = .ok (.aload_n 0, 1) := by decide +kernel
theorem d_M_row_147 : decode b_M_row 147 = .ok (.getfield 22, 3) := by decide +kernel
theorem d_M_row_150 : decode b_M_row 150 = .ok (.new 16, 3) := by decide +kernel
theorem d_M_row_153 : decode b_M_row 153 = .ok (.dup, 1) := by decide +kernel
theorem d_M_row_154 : decode b_M_row 154 = .ok (.iload_n 1, 1) := by decide +kernel
theorem d_M_row_155 : decode b_M_row 155 = .ok (.iload_n 2, 1) := by decide +kernel
theorem d_M_row_156 : decode b_M_row 156 = .ok (.iload_n 3, 1) := by decide +kernel
theorem d_M_row_157 : decode b_M_row 157 = .ok (.iload 4, 2) := by decide +kernel
theorem d_M_row_159 : decode b_M_row 159 = .ok (.iload 5, 2) := by decide +kernel
theorem d_M_row_161 : decode b_M_row 161 = .ok (.iload 6, 2) := by decide +kernel
theorem d_M_row_163 : decode b_M_row 163 = .ok (.iload 7, 2) := by decide +kernel
theorem d_M_row_165 : decode b_M_row 165 = .ok (.invokespecial 102, 3) := by decide +kernel
theorem d_M_row_168 : decode b_M_row 168 = .ok (.aastore, 1) := by decide +kernel
theorem d_M_row_169 : decode b_M_row 169 = .ok (.aload_n 0, 1) := by decide +kernel
theorem d_M_row_170 : decode b_M_row 170 = .ok (.dup, 1) := by decide +kernel
theorem d_M_row_171 : decode b_M_row 171 = .ok (.getfield 22, 3) := by decide +kernel
theorem d_M_row_174 : decode b_M_row 174 = .ok (.iconst 1, 1) := by decide +kernel
theorem d_M_row_175 : decode b_M_row 175 = .ok (.iadd, 1) := by decide +kernel
theorem d_M_row_176 : decode b_M_row 176 = .ok (.putfield 22, 3) := by decide +kernel
theorem d_M_row_179 : decode b_M_row 179 = .ok (.aload_n 0, 1) := by decide +kernel
theorem d_M_row_180 : decode b_M_row 180 = .ok (.aload_n 0, 1) := by decide +kernel
theorem d_M_row_181 : decode b_M_row 181 = .ok (.getfield 26, 3) := by decide +kernel
theorem d_M_row_184 : decode b_M_row 184 = .ok (.iload 7, 2) := by decide +kernel
theorem d_M_row_186 : decode b_M_row 186 = .ok (.invokestatic 105, 3) := by decide +kernel
theorem d_M_row_189 : decode b_M_row 189 = .ok (.putfield 26, 3) := by decide +kernel
theorem d_M_row_192 : decode b_M_row 192 = .ok (.aload_n 0, 1) := by decide +kernel
theorem d_M_row_193 : decode b_M_row 193 = .ok (.getfield 22, 3) := by decide +kernel
theorem d_M_row_196 : decode b_M_row 196 = .ok (.ireturn, 1) := by decide +kernel
theorem d_M_exclude_0 : decode b_M_exclude 0 = .ok (.aload_n 0, 1) := by decide +kernel
theorem d_M_exclude_1 : decode b_M_exclude 1 = .ok (.iload_n 1, 1) := by decide +kernel
theorem d_M_exclude_2 : decode b_M_exclude 2 = .ok (.invokevirtual 111, 3) := by decide +kernel
theorem d_M_exclude_5 : decode b_M_exclude 5 = .ok (.astore_n 3, 1) := by decide +kernel
theorem d_M_exclude_6 : decode b_M_exclude 6 = .ok (.aload_n 3, 1) := by decide +kernel
theorem d_M_exclude_7 : decode b_M_exclude 7 = .ok (.ifnull 22, 3) := by decide +kernel
theorem d_M_exclude_10 : decode b_M_exclude 10 = .ok (.iload_n 2, 1) := by decide +kernel
theorem d_M_exclude_11 : decode b_M_exclude 11 = .ok (.invokestatic 49, 3) := by decide +kernel
theorem d_M_exclude_14 : decode b_M_exclude 14 = .ok (.ifCond .eq 15, 3) := by decide +kernel
theorem d_M_exclude_17 : decode b_M_exclude 17 = .ok (.aload_n 3, 1) := by decide +kernel
theorem d_M_exclude_18 : decode b_M_exclude 18 = .ok (.iload_n 2, 1) := by decide +kernel
theorem d_M_exclude_19 : decode b_M_exclude 19 = .ok (.invokevirtual 115, 3) := by decide +kernel
theorem d_M_exclude_22 : decode b_M_exclude 22 = .ok (.ifCond .eq 7, 3) := by decide +kernel
theorem d_M_exclude_25 : decode b_M_exclude 25 = .ok (.iconst 1, 1) := by decide +kernel
theorem d_M_exclude_26 : decode b_M_exclude 26 = .ok (.goto 4, 3) := by decide +kernel
theorem d_M_exclude_29 : decode b_M_exclude 29 = .ok (.iconst 0, 1) := by decide +kernel
theorem d_M_exclude_30 : decode b_M_exclude 30 = .ok (.ireturn, 1) := by decide +kernel
theorem d_M_condition_0 : decode b_M_condition 0 = .ok (.aload_n 0, 1) := by decide +kernel
theorem d_M_condition_1 : decode b_M_condition 1 = .ok (.iload_n 1, 1) := by decide +kernel
theorem d_M_condition_2 : decode b_M_condition 2 = .ok (.invokevirtual 111, 3) := by decide +kernel
theorem d_M_condition_5 : decode b_M_condition 5 = .ok (.astore_n 3, 1) := by decide +kernel
theorem d_M_condition_6 : decode b_M_condition 6 = .ok (.aload_n 3, 1) := by decide +kernel
theorem d_M_condition_7 : decode b_M_condition 7 = .ok (.ifnull 25, 3) := by decide +kernel
theorem d_M_condition_10 : decode b_M_condition 10 = .ok (.iload_n 2, 1) := by decide +kernel
theorem d_M_condition_11 : decode b_M_condition 11 = .ok (.ifCond .lt 21, 3) := by decide +kernel
theorem d_M_condition_14 : decode b_M_condition 14 = .ok (.iload_n 2, 1) := by decide +kernel
theorem d_M_condition_15 : decode b_M_condition 15 = .ok (.bipush 16, 2) := by decide +kernel
theorem d_M_condition_17 : decode b_M_condition 17 = .ok (.if_icmp .ge 15, 3) := by decide +kernel
theorem d_M_condition_20 : decode b_M_condition 20 = .ok (.aload_n 3, 1) := by decide +kernel
theorem d_M_condition_21 : decode b_M_condition 21 = .ok (.iload_n 2, 1) := by decide +kernel
theorem d_M_condition_22 : decode b_M_condition 22 = .ok (.invokevirtual 118, 3) := by decide +kernel
theorem d_M_condition_25 : decode b_M_condition 25 = .ok (.ifCond .eq 7, 3) := by decide +kernel
theorem d_M_condition_28 : decode b_M_condition 28 = .ok (.iconst 1, 1) := by decide +kernel
theorem d_M_condition_29 : decode b_M_condition 29 = .ok (.goto 4, 3) := by decide +kernel
theorem d_M_condition_32 : decode b_M_condition 32 = .ok (.iconst 0, 1) := by decide +kernel
theorem d_M_condition_33 : decode b_M_condition 33 = .ok (.ireturn, 1) := by decide +kernel
theorem d_M_end_0 : decode b_M_end 0 = .ok (.aload_n 0, 1) := by decide +kernel
theorem d_M_end_1 : decode b_M_end 1 = .ok (.iload_n 1, 1) := by decide +kernel
theorem d_M_end_2 : decode b_M_end 2 = .ok (.invokevirtual 111, 3) := by decide +kernel
theorem d_M_end_5 : decode b_M_end 5 = .ok (.astore 4, 2) := by decide +kernel
theorem d_M_end_7 : decode b_M_end 7 = .ok (.aload 4, 2) := by decide +kernel
theorem d_M_end_9 : decode b_M_end 9 = .ok (.ifnonnull 13, 3) := by decide +kernel
theorem d_M_end_12 : decode b_M_end 12 = .ok (.new 56, 3) := by decide +kernel
theorem d_M_end_15 : decode b_M_end 15 = .ok (.dup, 1) := by decide +kernel
theorem d_M_end_16 : decode b_M_end 16 = .ok (.ldc 121, 2) := by decide +kernel
theorem d_M_end_18 : decode b_M_end 18 = .ok (.invokespecial 60, 3) := by decide +kernel
theorem d_M_end_21 : decode b_M_end 21 = .ok (.athrow, 1) := by decide +kernel
theorem d_M_end_22 : decode b_M_end 22 = .ok (.iload_n 2, 1) := by decide +kernel
theorem d_M_end_23 : decode b_M_end 23 = .ok (.invokestatic 86, 3) := by decide +kernel
theorem d_M_end_26 : decode b_M_end 26 = .ok (.ifCond .eq 10, 3) := by decide +kernel
theorem d_M_end_29 : decode b_M_end 29 = .ok (.iload_n 3, 1) := by decide +kernel
theorem d_M_end_30 : decode b_M_end 30 = .ok (.invokestatic 83, 3) := by decide +kernel
theorem d_M_end_33 : decode b_M_end 33 = .ok (.ifCond .ne 13, 3) := by decide +kernel
theorem d_M_end_36 : decode b_M_end 36 = .ok (.new 78, 3) := by decide +kernel
theorem d_M_end_39 : decode b_M_end 39 = .ok (.dup, 1) := by decide +kernel
theorem d_M_end_40 : decode b_M_end 40 = .ok (.ldc 89, 2) := by decide +kernel
theorem d_M_end_42 : decode b_M_end 42 = .ok (.invokespecial 82, 3) := by decide +kernel
theorem d_M_end_45 : decode b_M_end 45 = .ok (.athrow, 1) := by decide +kernel
theorem d_M_end_46 : decode b_M_end 46 = .ok (.aload 4, 2) := by decide +kernel
theorem d_M_end_48 : decode b_M_end 48 = .ok (.getfield 123, 3) := by decide +kernel
theorem d_M_end_51 : decode b_M_end 51 = .ok (.bipush 8, 2) := by decide +kernel
theorem d_M_end_53 : decode b_M_end 53 = .ok (.if_icmp .lt 13, 3) := by decide +kernel
theorem d_M_end_56 : decode b_M_end 56 = .ok (.new 93, 3) := by decide +kernel
theorem d_M_end_59 : decode b_M_end 59 = .ok (.dup, 1) := by decide +kernel
theorem d_M_end_60 : decode b_M_end 60 = .ok (.ldc 126, 2) := by decide +kernel
theorem d_M_end_62 : decode b_M_end 62 = .ok (.invokespecial 97, 3) := by decide +kernel
theorem d_M_end_65 : decode b_M_end 65 = .ok (.athrow, 1) := by decide +kernel
theorem d_M_end_66 : decode b_M_end 66 = .ok (.iload_n 2, 1) := by decide +kernel
theorem d_M_end_67 : decode b_M_end 67 = .ok (.aload 4, 2) := by decide +kernel
theorem d_M_end_69 : decode b_M_end 69 = .ok (.getfield 128, 3) := by decide +kernel
theorem d_M_end_72 : decode b_M_end 72 = .ok (.if_icmp .ge 5, 3) := by decide +kernel
theorem d_M_end_75 : decode b_M_end 75 = .ok (.iconst 0, 1) := by decide +kernel
theorem d_M_end_76 : decode b_M_end 76 = .ok (.ireturn, 1) := by decide +kernel
theorem d_M_end_77 : decode b_M_end 77 = .ok (.aload 4, 2) := by decide +kernel
theorem d_M_end_79 : decode b_M_end 79 = .ok (.iload_n 2, 1) := by decide +kernel
theorem d_M_end_80 : decode b_M_end 80 = .ok (.iload_n 3, 1) := by decide +kernel
theorem d_M_end_81 : decode b_M_end 81 = .ok (.invokevirtual 131, 3) := by decide +kernel
theorem d_M_end_84 : decode b_M_end 84 = .ok (.aload_n 0, 1) := by decide +kernel
theorem d_M_end_85 : decode b_M_end 85 = .ok (.aload_n 0, 1) := by decide +kernel
theorem d_M_end_86 : decode b_M_end 86 = .ok (.getfield 26, 3) := by decide +kernel
theorem d_M_end_89 : decode b_M_end 89 = .ok (.iload_n 3, 1) := by decide +kernel
theorem d_M_end_90 : decode b_M_end 90 = .ok (.invokestatic 105, 3) := by decide +kernel
theorem d_M_end_93 : decode b_M_end 93 = .ok (.putfield 26, 3) := by decide +kernel
theorem d_M_end_96 : decode b_M_end 96 = .ok (.aload 4, 2) := by decide +kernel
theorem d_M_end_98 : decode b_M_end 98 = .ok (.getfield 123, 3) := by decide +kernel
theorem d_M_end_101 : decode b_M_end 101 = .ok (.ireturn, 1) := by decide +kernel
theorem d_M_papers_0 : decode b_M_papers 0 = .ok (.aload_n 0, 1) := by decide +kernel
theorem d_M_papers_1 : decode b_M_papers 1 = .ok (.iload_n 1, 1) := by decide +kernel
theorem d_M_papers_2 : decode b_M_papers 2 = .ok (.ldc 135, 2) := by decide +kernel
theorem d_M_papers_4 : decode b_M_papers 4 = .ok (.iand, 1) := by decide +kernel
theorem d_M_papers_5 : decode b_M_papers 5 = .ok (.putfield 29, 3) := by decide +kernel
theorem d_M_papers_8 : decode b_M_papers 8 = .ok (.return_, 1) := by decide +kernel
theorem d_M_apply_0 : decode b_M_apply 0 = .ok (.iload_n 1, 1) := by decide +kernel
theorem d_M_apply_1 : decode b_M_apply 1 = .ok (.invokestatic 71, 3) := by decide +kernel
theorem d_M_apply_4 : decode b_M_apply 4 = .ok (.iconst 3, 1) := by decide +kernel
theorem d_M_apply_5 : decode b_M_apply 5 = .ok (.if_icmp .ne 25, 3) := by decide +kernel
theorem d_M_apply_8 : decode b_M_apply 8 = .ok (.iload_n 2, 1) := by decide +kernel
theorem d_M_apply_9 : decode b_M_apply 9 = .ok (.invokestatic 49, 3) := by decide +kernel
theorem d_M_apply_12 : decode b_M_apply 12 = .ok (.ifCond .eq 18, 3) := by decide +kernel
theorem d_M_apply_15 : decode b_M_apply 15 = .ok (.iload_n 3, 1) := by decide +kernel
theorem d_M_apply_16 : decode b_M_apply 16 = .ok (.invokestatic 83, 3) := by decide +kernel
theorem d_M_apply_19 : decode b_M_apply 19 = .ok (.ifCond .eq 11, 3) := by decide +kernel
theorem d_M_apply_22 : decode b_M_apply 22 = .ok (.iload 4, 2) := by decide +kernel
theorem d_M_apply_24 : decode b_M_apply 24 = .ok (.invokestatic 83, 3) := by decide +kernel
theorem d_M_apply_27 : decode b_M_apply 27 = .ok (.ifCond .ne 13, 3) := by decide +kernel
theorem d_M_apply_30 : decode b_M_apply 30 = .ok (.new 78, 3) := by decide +kernel
theorem d_M_apply_33 : decode b_M_apply 33 = .ok (.dup, 1) := by decide +kernel
theorem d_M_apply_34 : decode b_M_apply 34 = .ok (.ldc 136, 2) := by decide +kernel
theorem d_M_apply_36 : decode b_M_apply 36 = .ok (.invokespecial 82, 3) := by decide +kernel
theorem d_M_apply_39 : decode b_M_apply 39 = .ok (.athrow, 1) := by decide +kernel
theorem d_M_apply_40 : decode b_M_apply 40 = .ok (.aload_n 0, 1) := by decide +kernel
theorem d_M_apply_41 : decode b_M_apply 41 = .ok (.aload_n 0, 1) := by decide +kernel
theorem d_M_apply_42 : decode b_M_apply 42 = .ok (.getfield 39, 3) := by decide +kernel
theorem d_M_apply_45 : decode b_M_apply 45 = .ok (.iload_n 1, 1) := by decide +kernel
theorem d_M_apply_46 : decode b_M_apply 46 = .ok (.iload_n 2, 1) := by decide +kernel
theorem d_M_apply_47 : decode b_M_apply 47 = .ok (.iload_n 3, 1) := by decide +kernel
theorem d_M_apply_48 : decode b_M_apply 48 = .ok (.iload 4, 2) := by decide +kernel
theorem d_M_apply_50 : decode b_M_apply 50 = .ok (.invokevirtual 138, 3) := by decide +kernel
theorem d_M_apply_53 : decode b_M_apply 53 = .ok (.istore 5, 2) := by decide +kernel
theorem d_M_apply_55 : decode b_M_apply 55 = .ok (.aload_n 0, 1) := by decide +kernel
theorem d_M_apply_56 : decode b_M_apply 56 = .ok (.iload 5, 2) := by decide +kernel
theorem d_M_apply_58 : decode b_M_apply 58 = .ok (.invokevirtual 142, 3) := by decide +kernel
theorem d_M_apply_61 : decode b_M_apply 61 = .ok (.istore 5, 2) := by decide +kernel
theorem d_M_apply_63 : decode b_M_apply 63 = .ok (.iload 5, 2) := by decide +kernel
theorem d_M_apply_65 : decode b_M_apply 65 = .ok (.ifCond .ne 5, 3) := by decide +kernel
theorem d_M_apply_68 : decode b_M_apply 68 = .ok (.iconst 0, 1) := by decide +kernel
theorem d_M_apply_69 : decode b_M_apply 69 = .ok (.ireturn, 1) := by decide +kernel
theorem d_M_apply_70 : decode b_M_apply 70 = .ok (.aload_n 0, 1) := by decide +kernel
theorem d_M_apply_71 : decode b_M_apply 71 = .ok (.iload 5, 2) := by decide +kernel
theorem d_M_apply_73 : decode b_M_apply 73 = .ok (.invokevirtual 145, 3) := by decide +kernel
theorem d_M_apply_76 : decode b_M_apply 76 = .ok (.aload_n 0, 1) := by decide +kernel
theorem d_M_apply_77 : decode b_M_apply 77 = .ok (.iload 5, 2) := by decide +kernel
theorem d_M_apply_79 : decode b_M_apply 79 = .ok (.invokevirtual 149, 3) := by decide +kernel
theorem d_M_apply_82 : decode b_M_apply 82 = .ok (.aload_n 0, 1) := by decide +kernel
theorem d_M_apply_83 : decode b_M_apply 83 = .ok (.getfield 36, 3) := by decide +kernel
theorem d_M_apply_86 : decode b_M_apply 86 = .ok (.ireturn, 1) := by decide +kernel
theorem d_M_at_0 : decode b_M_at 0 = .ok (.iload_n 1, 1) := by decide +kernel
theorem d_M_at_1 : decode b_M_at 1 = .ok (.ifCond .lt 20, 3) := by decide +kernel
theorem d_M_at_4 : decode b_M_at 4 = .ok (.iload_n 1, 1) := by decide +kernel
theorem d_M_at_5 : decode b_M_at 5 = .ok (.aload_n 0, 1) := by decide +kernel
theorem d_M_at_6 : decode b_M_at 6 = .ok (.getfield 36, 3) := by decide +kernel
theorem d_M_at_9 : decode b_M_at 9 = .ok (.if_icmp .ge 12, 3) := by decide +kernel
theorem d_M_at_12 : decode b_M_at 12 = .ok (.aload_n 0, 1) := by decide +kernel
theorem d_M_at_13 : decode b_M_at 13 = .ok (.getfield 32, 3) := by decide +kernel
theorem d_M_at_16 : decode b_M_at 16 = .ok (.iload_n 1, 1) := by decide +kernel
theorem d_M_at_17 : decode b_M_at 17 = .ok (.iaload, 1) := by decide +kernel
theorem d_M_at_18 : decode b_M_at 18 = .ok (.goto 4, 3) := by decide +kernel
theorem d_M_at_21 : decode b_M_at 21 = .ok (.iconst (-1), 1) := by decide +kernel
theorem d_M_at_22 : decode b_M_at 22 = .ok (.ireturn, 1) := by decide +kernel
theorem d_M_scan_0 : decode b_M_scan 0 = .ok (.iload_n 1, 1) := by decide +kernel
theorem d_M_scan_1 : decode b_M_scan 1 = .ok (.invokestatic 71, 3) := by decide +kernel
theorem d_M_scan_4 : decode b_M_scan 4 = .ok (.ifCond .eq 17, 3) := by decide +kernel
theorem d_M_scan_7 : decode b_M_scan 7 = .ok (.iload_n 2, 1) := by decide +kernel
theorem d_M_scan_8 : decode b_M_scan 8 = .ok (.invokestatic 49, 3) := by decide +kernel
theorem d_M_scan_11 : decode b_M_scan 11 = .ok (.ifCond .eq 10, 3) := by decide +kernel
theorem d_M_scan_14 : decode b_M_scan 14 = .ok (.iload_n 3, 1) := by decide +kernel
theorem d_M_scan_15 : decode b_M_scan 15 = .ok (.invokestatic 83, 3) := by decide +kernel
theorem d_M_scan_18 : decode b_M_scan 18 = .ok (.ifCond .ne 13, 3) := by decide +kernel
theorem d_M_scan_21 : decode b_M_scan 21 = .ok (.new 78, 3) := by decide +kernel
theorem d_M_scan_24 : decode b_M_scan 24 = .ok (.dup, 1) := by decide +kernel
theorem d_M_scan_25 : decode b_M_scan 25 = .ok (.ldc 136, 2) := by decide +kernel
theorem d_M_scan_27 : decode b_M_scan 27 = .ok (.invokespecial 82, 3) := by decide +kernel
theorem d_M_scan_30 : decode b_M_scan 30 = .ok (.athrow, 1) := by decide +kernel
theorem d_M_scan_31 : decode b_M_scan 31 = .ok (.aload_n 0, 1) := by decide +kernel
theorem d_M_scan_32 : decode b_M_scan 32 = .ok (.aload_n 0, 1) := by decide +kernel
theorem d_M_scan_33 : decode b_M_scan 33 = .ok (.getfield 32, 3) := by decide +kernel
theorem d_M_scan_36 : decode b_M_scan 36 = .ok (.iload_n 1, 1) := by decide +kernel
theorem d_M_scan_37 : decode b_M_scan 37 = .ok (.iload_n 2, 1) := by decide +kernel
theorem d_M_scan_38 : decode b_M_scan 38 = .ok (.iload_n 3, 1) := by decide +kernel
theorem d_M_scan_39 : decode b_M_scan 39 = .ok (.aload_n 0, 1) := by decide +kernel
theorem d_M_scan_40 : decode b_M_scan 40 = .ok (.getfield 26, 3) := by decide +kernel
theorem d_M_scan_43 : decode b_M_scan 43 = .ok (.invokevirtual 138, 3) := by decide +kernel
theorem d_M_scan_46 : decode b_M_scan 46 = .ok (.istore 4, 2) := by decide +kernel
theorem d_M_scan_48 : decode b_M_scan 48 = .ok (.iload 4, 2) := by decide +kernel
theorem d_M_scan_50 : decode b_M_scan 50 = .ok (.ifCond .le 9, 3) := by decide +kernel
theorem d_M_scan_53 : decode b_M_scan 53 = .ok (.aload_n 0, 1) := by decide +kernel
theorem d_M_scan_54 : decode b_M_scan 54 = .ok (.iload 4, 2) := by decide +kernel
theorem d_M_scan_56 : decode b_M_scan 56 = .ok (.putfield 36, 3) := by decide +kernel
theorem d_M_scan_59 : decode b_M_scan 59 = .ok (.iload 4, 2) := by decide +kernel
theorem d_M_scan_61 : decode b_M_scan 61 = .ok (.ireturn, 1) := by decide +kernel
theorem d_M_change_0 : decode b_M_change 0 = .ok (.iload_n 1, 1) := by decide +kernel
theorem d_M_change_1 : decode b_M_change 1 = .ok (.invokestatic 83, 3) := by decide +kernel
theorem d_M_change_4 : decode b_M_change 4 = .ok (.ifCond .eq 10, 3) := by decide +kernel
theorem d_M_change_7 : decode b_M_change 7 = .ok (.iload_n 2, 1) := by decide +kernel
theorem d_M_change_8 : decode b_M_change 8 = .ok (.invokestatic 83, 3) := by decide +kernel
theorem d_M_change_11 : decode b_M_change 11 = .ok (.ifCond .ne 13, 3) := by decide +kernel
theorem d_M_change_14 : decode b_M_change 14 = .ok (.new 78, 3) := by decide +kernel
theorem d_M_change_17 : decode b_M_change 17 = .ok (.dup, 1) := by decide +kernel
theorem d_M_change_18 : decode b_M_change 18 = .ok (.ldc 89, 2) := by decide +kernel
theorem d_M_change_20 : decode b_M_change 20 = .ok (.invokespecial 82, 3) := by decide +kernel
theorem d_M_change_23 : decode b_M_change 23 = .ok (.athrow, 1) := by decide +kernel
theorem d_M_change_24 : decode b_M_change 24 = .ok (.iconst 0, 1) := by decide +kernel
theorem d_M_change_25 : decode b_M_change 25 = .ok (.istore 4, 2) := by decide +kernel
theorem d_M_change_27 : decode b_M_change 27 = .ok (.iconst 1, 1) := by decide +kernel
theorem d_M_change_28 : decode b_M_change 28 = .ok (.istore 5, 2) := by decide +kernel
theorem d_M_change_30 : decode b_M_change 30 = .ok (.iload 5, 2) := by decide +kernel
theorem d_M_change_32 : decode b_M_change 32 = .ok (.aload_n 0, 1) := by decide +kernel
theorem d_M_change_33 : decode b_M_change 33 = .ok (.getfield 22, 3) := by decide +kernel
theorem d_M_change_36 : decode b_M_change 36 = .ok (.if_icmp .gt 57, 3) := by decide +kernel
theorem d_M_change_39 : decode b_M_change 39 = .ok (.aload_n 0, 1) := by decide +kernel
theorem d_M_change_40 : decode b_M_change 40 = .ok (.iload 5, 2) := by decide +kernel
theorem d_M_change_42 : decode b_M_change 42 = .ok (.invokevirtual 111, 3) := by decide +kernel
theorem d_M_change_45 : decode b_M_change 45 = .ok (.astore 6, 2) := by decide +kernel
theorem d_M_change_47 : decode b_M_change 47 = .ok (.aload 6, 2) := by decide +kernel
theorem d_M_change_49 : decode b_M_change 49 = .ok (.ifnull 38, 3) := by decide +kernel
theorem d_M_change_52 : decode b_M_change 52 = .ok (.aload 6, 2) := by decide +kernel
theorem d_M_change_54 : decode b_M_change 54 = .ok (.iload_n 1, 1) := by decide +kernel
theorem d_M_change_55 : decode b_M_change 55 = .ok (.aload_n 0, 1) := by decide +kernel
theorem d_M_change_56 : decode b_M_change 56 = .ok (.getfield 26, 3) := by decide +kernel
theorem d_M_change_59 : decode b_M_change 59 = .ok (.invokevirtual 152, 3) := by decide +kernel
theorem d_M_change_62 : decode b_M_change 62 = .ok (.aload 6, 2) := by decide +kernel
theorem d_M_change_64 : decode b_M_change 64 = .ok (.iload_n 2, 1) := by decide +kernel
theorem d_M_change_65 : decode b_M_change 65 = .ok (.aload_n 0, 1) := by decide +kernel
theorem d_M_change_66 : decode b_M_change 66 = .ok (.getfield 26, 3) := by decide +kernel
theorem d_M_change_69 : decode b_M_change 69 = .ok (.invokevirtual 152, 3) := by decide +kernel
theorem d_M_change_72 : decode b_M_change 72 = .ok (.if_icmp .eq 15, 3) := by decide +kernel
theorem d_M_change_75 : decode b_M_change 75 = .ok (.iload 4, 2) := by decide +kernel
theorem d_M_change_77 : decode b_M_change 77 = .ok (.iload_n 3, 1) := by decide +kernel
theorem d_M_change_78 : decode b_M_change 78 = .ok (.if_icmp .ne 6, 3) := by decide +kernel
theorem d_M_change_81 : decode b_M_change 81 = .ok (.iload 5, 2) := by decide +kernel
theorem d_M_change_83 : decode b_M_change 83 = .ok (.ireturn, 1) := by decide +kernel
theorem d_M_change_84 : decode b_M_change 84 = .ok (.iinc 4 1, 3) := by decide +kernel
theorem d_M_change_87 : decode b_M_change 87 = .ok (.iinc 5 1, 3) := by decide +kernel
theorem d_M_change_90 : decode b_M_change 90 = .ok (.goto (-60), 3) := by decide +kernel
theorem d_M_change_93 : decode b_M_change 93 = .ok (.iconst (-1), 1) := by decide +kernel
theorem d_M_change_94 : decode b_M_change 94 = .ok (.ireturn, 1) := by decide +kernel
theorem d_M_look_0 : decode b_M_look 0 = .ok (.aload_n 0, 1) := by decide +kernel
theorem d_M_look_1 : decode b_M_look 1 = .ok (.iload_n 1, 1) := by decide +kernel
theorem d_M_look_2 : decode b_M_look 2 = .ok (.invokevirtual 111, 3) := by decide +kernel
theorem d_M_look_5 : decode b_M_look 5 = .ok (.astore_n 3, 1) := by decide +kernel
theorem d_M_look_6 : decode b_M_look 6 = .ok (.aload_n 3, 1) := by decide +kernel
theorem d_M_look_7 : decode b_M_look 7 = .ok (.ifnonnull 13, 3) := by decide +kernel
theorem d_M_look_10 : decode b_M_look 10 = .ok (.new 56, 3) := by decide +kernel
theorem d_M_look_13 : decode b_M_look 13 = .ok (.dup, 1) := by decide +kernel
theorem d_M_look_14 : decode b_M_look 14 = .ok (.ldc 121, 2) := by decide +kernel
theorem d_M_look_16 : decode b_M_look 16 = .ok (.invokespecial 60, 3) := by decide +kernel
theorem d_M_look_19 : decode b_M_look 19 = .ok (.athrow, 1) := by decide +kernel
theorem d_M_look_20 : decode b_M_look 20 = .ok (.iload_n 2, 1) := by decide +kernel
theorem d_M_look_21 : decode b_M_look 21 = .ok (.tableswitch 115 0 9 #[55, 60, 65, 70, 79, 84, 89, 94, 99, 107], 55) := by decide +kernel
theorem d_M_look_76 : decode b_M_look 76 = .ok (.aload_n 3, 1) := by decide +kernel
theorem d_M_look_77 : decode b_M_look 77 = .ok (.getfield 155, 3) := by decide +kernel
theorem d_M_look_80 : decode b_M_look 80 = .ok (.ireturn, 1) := by decide +kernel
theorem d_M_look_81 : decode b_M_look 81 = .ok (.aload_n 3, 1) := by decide +kernel
theorem d_M_look_82 : decode b_M_look 82 = .ok (.getfield 158, 3) := by decide +kernel
theorem d_M_look_85 : decode b_M_look 85 = .ok (.ireturn, 1) := by decide +kernel
theorem d_M_look_86 : decode b_M_look 86 = .ok (.aload_n 3, 1) := by decide +kernel
theorem d_M_look_87 : decode b_M_look 87 = .ok (.getfield 128, 3) := by decide +kernel
theorem d_M_look_90 : decode b_M_look 90 = .ok (.ireturn, 1) := by decide +kernel
theorem d_M_look_91 : decode b_M_look 91 = .ok (.aload_n 3, 1) := by decide +kernel
theorem d_M_look_92 : decode b_M_look 92 = .ok (.aload_n 0, 1) := by decide +kernel
theorem d_M_look_93 : decode b_M_look 93 = .ok (.getfield 26, 3) := by decide +kernel
theorem d_M_look_96 : decode b_M_look 96 = .ok (.invokevirtual 161, 3) := by decide +kernel
theorem d_M_look_99 : decode b_M_look 99 = .ok (.ireturn, 1) := by decide +kernel
theorem d_M_look_100 : decode b_M_look 100 = .ok (.aload_n 3, 1) := by decide +kernel
theorem d_M_look_101 : decode b_M_look 101 = .ok (.getfield 164, 3) := by decide +kernel
theorem d_M_look_104 : decode b_M_look 104 = .ok (.ireturn, 1) := by decide +kernel
theorem d_M_look_105 : decode b_M_look 105 = .ok (.aload_n 3, 1) := by decide +kernel
theorem d_M_look_106 : decode b_M_look 106 = .ok (.getfield 167, 3) := by decide +kernel
theorem d_M_look_109 : decode b_M_look 109 = .ok (.ireturn, 1) := by decide +kernel
theorem d_M_look_110 : decode b_M_look 110 = .ok (.aload_n 3, 1) := by decide +kernel
theorem d_M_look_111 : decode b_M_look 111 = .ok (.getfield 170, 3) := by decide +kernel
theorem d_M_look_114 : decode b_M_look 114 = .ok (.ireturn, 1) := by decide +kernel
theorem d_M_look_115 : decode b_M_look 115 = .ok (.aload_n 3, 1) := by decide +kernel
theorem d_M_look_116 : decode b_M_look 116 = .ok (.getfield 123, 3) := by decide +kernel
theorem d_M_look_119 : decode b_M_look 119 = .ok (.ireturn, 1) := by decide +kernel
theorem d_M_look_120 : decode b_M_look 120 = .ok (.aload_n 3, 1) := by decide +kernel
theorem d_M_look_121 : decode b_M_look 121 = .ok (.getfield 173, 3) := by decide +kernel
theorem d_M_look_124 : decode b_M_look 124 = .ok (.invokestatic 176, 3) := by decide +kernel
theorem d_M_look_127 : decode b_M_look 127 = .ok (.ireturn, 1) := by decide +kernel
theorem d_M_look_128 : decode b_M_look 128 = .ok (.aload_n 3, 1) := by decide +kernel
theorem d_M_look_129 : decode b_M_look 129 = .ok (.getfield 181, 3) := by decide +kernel
theorem d_M_look_132 : decode b_M_look 132 = .ok (.invokestatic 176, 3) := by decide +kernel
theorem d_M_look_135 : decode b_M_look 135 = .ok (.ireturn, 1) := by decide +kernel
theorem d_M_look_136 : decode b_M_look 136 = .ok (.new 56, 3) := by decide +kernel
theorem d_M_look_139 : decode b_M_look 139 = .ok (.dup, 1) := by decide +kernel
theorem d_M_look_140 : decode b_M_look 140 = .ok (.ldc 184, 2) := by decide +kernel
theorem d_M_look_142 : decode b_M_look 142 = .ok (.invokespecial 60, 3) := by decide +kernel
theorem d_M_look_145 : decode b_M_look 145 = .ok (.athrow, 1) := by decide +kernel
theorem d_M_count_0 : decode b_M_count 0 = .ok (.iload_n 1, 1) := by decide +kernel
theorem d_M_count_1 : decode b_M_count 1 = .ok (.invokestatic 45, 3) := by decide +kernel
theorem d_M_count_4 : decode b_M_count 4 = .ok (.ifCond .eq 12, 3) := by decide +kernel
theorem d_M_count_7 : decode b_M_count 7 = .ok (.aload_n 0, 1) := by decide +kernel
theorem d_M_count_8 : decode b_M_count 8 = .ok (.getfield 10, 3) := by decide +kernel
theorem d_M_count_11 : decode b_M_count 11 = .ok (.iload_n 1, 1) := by decide +kernel
theorem d_M_count_12 : decode b_M_count 12 = .ok (.invokevirtual 186, 3) := by decide +kernel
theorem d_M_count_15 : decode b_M_count 15 = .ok (.ireturn, 1) := by decide +kernel
theorem d_M_count_16 : decode b_M_count 16 = .ok (.iload_n 1, 1) := by decide +kernel
theorem d_M_count_17 : decode b_M_count 17 = .ok (.tableswitch 51 0 3 #[31, 36, 41, 46], 31) := by decide +kernel
theorem d_M_count_48 : decode b_M_count 48 = .ok (.aload_n 0, 1) := by decide +kernel
theorem d_M_count_49 : decode b_M_count 49 = .ok (.getfield 22, 3) := by decide +kernel
theorem d_M_count_52 : decode b_M_count 52 = .ok (.ireturn, 1) := by decide +kernel
theorem d_M_count_53 : decode b_M_count 53 = .ok (.aload_n 0, 1) := by decide +kernel
theorem d_M_count_54 : decode b_M_count 54 = .ok (.getfield 26, 3) := by decide +kernel
theorem d_M_count_57 : decode b_M_count 57 = .ok (.ireturn, 1) := by decide +kernel
theorem d_M_count_58 : decode b_M_count 58 = .ok (.aload_n 0, 1) := by decide +kernel
theorem d_M_count_59 : decode b_M_count 59 = .ok (.getfield 36, 3) := by decide +kernel
theorem d_M_count_62 : decode b_M_count 62 = .ok (.ireturn, 1) := by decide +kernel
theorem d_M_count_63 : decode b_M_count 63 = .ok (.aload_n 0, 1) := by decide +kernel
theorem d_M_count_64 : decode b_M_count 64 = .ok (.getfield 29, 3) := by decide +kernel
theorem d_M_count_67 : decode b_M_count 67 = .ok (.ireturn, 1) := by decide +kernel
theorem d_M_count_68 : decode b_M_count 68 = .ok (.iconst (-1), 1) := by decide +kernel
theorem d_M_count_69 : decode b_M_count 69 = .ok (.ireturn, 1) := by decide +kernel
theorem d_M_find_0 : decode b_M_find 0 = .ok (.iload_n 1, 1) := by decide +kernel
theorem d_M_find_1 : decode b_M_find 1 = .ok (.iconst 1, 1) := by decide +kernel
theorem d_M_find_2 : decode b_M_find 2 = .ok (.if_icmp .lt 22, 3) := by decide +kernel
theorem d_M_find_5 : decode b_M_find 5 = .ok (.iload_n 1, 1) := by decide +kernel
theorem d_M_find_6 : decode b_M_find 6 = .ok (.aload_n 0, 1) := by decide +kernel
theorem d_M_find_7 : decode b_M_find 7 = .ok (.getfield 22, 3) := by decide +kernel
theorem d_M_find_10 : decode b_M_find 10 = .ok (.if_icmp .gt 14, 3) := by decide +kernel
theorem d_M_find_13 : decode b_M_find 13 = .ok (.aload_n 0, 1) := by decide +kernel
theorem d_M_find_14 : decode b_M_find 14 = .ok (.getfield 18, 3) := by decide +kernel
theorem d_M_find_17 : decode b_M_find 17 = .ok (.iload_n 1, 1) := by decide +kernel
theorem d_M_find_18 : decode b_M_find 18 = .ok (.iconst 1, 1) := by decide +kernel
theorem d_M_find_19 : decode b_M_find 19 = .ok (.isub, 1) := by decide +kernel
theorem d_M_find_20 : decode b_M_find 20 = .ok (.aaload, 1) := by decide +kernel
theorem d_M_find_21 : decode b_M_find 21 = .ok (.goto 4, 3) := by decide +kernel
theorem d_M_find_24 : decode b_M_find 24 = .ok (.aconst_null, 1) := by decide +kernel
theorem d_M_find_25 : decode b_M_find 25 = .ok (.areturn, 1) := by decide +kernel
theorem d_M_leastClash_0 : decode b_M_leastClash 0 = .ok (.iconst 1, 1) := by decide +kernel
theorem d_M_leastClash_1 : decode b_M_leastClash 1 = .ok (.istore 7, 2) := by decide +kernel
theorem d_M_leastClash_3 : decode b_M_leastClash 3 = .ok (.iload 7, 2) := by decide +kernel
theorem d_M_leastClash_5 : decode b_M_leastClash 5 = .ok (.aload_n 0, 1) := by decide +kernel
theorem d_M_leastClash_6 : decode b_M_leastClash 6 = .ok (.getfield 22, 3) := by decide +kernel
theorem d_M_leastClash_9 : decode b_M_leastClash 9 = .ok (.if_icmp .gt 54, 3) := by decide +kernel
theorem d_M_leastClash_12 : decode b_M_leastClash 12 = .ok (.aload_n 0, 1) := by decide +kernel
theorem d_M_leastClash_13 : decode b_M_leastClash 13 = .ok (.iload 7, 2) := by decide +kernel
theorem d_M_leastClash_15 : decode b_M_leastClash 15 = .ok (.invokevirtual 111, 3) := by decide +kernel
theorem d_M_leastClash_18 : decode b_M_leastClash 18 = .ok (.astore 8, 2) := by decide +kernel
theorem d_M_leastClash_20 : decode b_M_leastClash 20 = .ok (.aload 8, 2) := by decide +kernel
theorem d_M_leastClash_22 : decode b_M_leastClash 22 = .ok (.ifnull 35, 3) := by decide +kernel
theorem d_M_leastClash_25 : decode b_M_leastClash 25 = .ok (.aload 8, 2) := by decide +kernel
theorem d_M_leastClash_27 : decode b_M_leastClash 27 = .ok (.iload_n 1, 1) := by decide +kernel
theorem d_M_leastClash_28 : decode b_M_leastClash 28 = .ok (.iload_n 2, 1) := by decide +kernel
theorem d_M_leastClash_29 : decode b_M_leastClash 29 = .ok (.iload 5, 2) := by decide +kernel
theorem d_M_leastClash_31 : decode b_M_leastClash 31 = .ok (.iload 6, 2) := by decide +kernel
theorem d_M_leastClash_33 : decode b_M_leastClash 33 = .ok (.invokevirtual 189, 3) := by decide +kernel
theorem d_M_leastClash_36 : decode b_M_leastClash 36 = .ok (.ifCond .eq 21, 3) := by decide +kernel
theorem d_M_leastClash_39 : decode b_M_leastClash 39 = .ok (.aload 8, 2) := by decide +kernel
theorem d_M_leastClash_41 : decode b_M_leastClash 41 = .ok (.iload_n 3, 1) := by decide +kernel
theorem d_M_leastClash_42 : decode b_M_leastClash 42 = .ok (.iload 4, 2) := by decide +kernel
theorem d_M_leastClash_44 : decode b_M_leastClash 44 = .ok (.aload_n 0, 1) := by decide +kernel
theorem d_M_leastClash_45 : decode b_M_leastClash 45 = .ok (.getfield 26, 3) := by decide +kernel
theorem d_M_leastClash_48 : decode b_M_leastClash 48 = .ok (.invokevirtual 193, 3) := by decide +kernel
theorem d_M_leastClash_51 : decode b_M_leastClash 51 = .ok (.ifCond .eq 6, 3) := by decide +kernel
theorem d_M_leastClash_54 : decode b_M_leastClash 54 = .ok (.iload 7, 2) := by decide +kernel
theorem d_M_leastClash_56 : decode b_M_leastClash 56 = .ok (.ireturn, 1) := by decide +kernel
theorem d_M_leastClash_57 : decode b_M_leastClash 57 = .ok (.iinc 7 1, 3) := by decide +kernel
theorem d_M_leastClash_60 : decode b_M_leastClash 60 = .ok (.goto (-57), 3) := by decide +kernel
theorem d_M_leastClash_63 : decode b_M_leastClash 63 = .ok (.iconst (-1), 1) := by decide +kernel
theorem d_M_leastClash_64 : decode b_M_leastClash 64 = .ok (.ireturn, 1) := by decide +kernel
theorem d_M_gather_0 : decode b_M_gather 0 = .ok (.iconst 0, 1) := by decide +kernel
theorem d_M_gather_1 : decode b_M_gather 1 = .ok (.istore 6, 2) := by decide +kernel
theorem d_M_gather_3 : decode b_M_gather 3 = .ok (.iconst 1, 1) := by decide +kernel
theorem d_M_gather_4 : decode b_M_gather 4 = .ok (.istore 7, 2) := by decide +kernel
theorem d_M_gather_6 : decode b_M_gather 6 = .ok (.iload 7, 2) := by decide +kernel
theorem d_M_gather_8 : decode b_M_gather 8 = .ok (.aload_n 0, 1) := by decide +kernel
theorem d_M_gather_9 : decode b_M_gather 9 = .ok (.getfield 22, 3) := by decide +kernel
theorem d_M_gather_12 : decode b_M_gather 12 = .ok (.if_icmp .gt 75, 3) := by decide +kernel
theorem d_M_gather_15 : decode b_M_gather 15 = .ok (.aload_n 0, 1) := by decide +kernel
theorem d_M_gather_16 : decode b_M_gather 16 = .ok (.iload 7, 2) := by decide +kernel
theorem d_M_gather_18 : decode b_M_gather 18 = .ok (.invokevirtual 111, 3) := by decide +kernel
theorem d_M_gather_21 : decode b_M_gather 21 = .ok (.astore 8, 2) := by decide +kernel
theorem d_M_gather_23 : decode b_M_gather 23 = .ok (.aload 8, 2) := by decide +kernel
theorem d_M_gather_25 : decode b_M_gather 25 = .ok (.ifnull 56, 3) := by decide +kernel
theorem d_M_gather_28 : decode b_M_gather 28 = .ok (.aload 8, 2) := by decide +kernel
theorem d_M_gather_30 : decode b_M_gather 30 = .ok (.getfield 170, 3) := by decide +kernel
theorem d_M_gather_33 : decode b_M_gather 33 = .ok (.iload 5, 2) := by decide +kernel
theorem d_M_gather_35 : decode b_M_gather 35 = .ok (.if_icmp .gt 46, 3) := by decide +kernel
theorem d_M_gather_38 : decode b_M_gather 38 = .ok (.iload_n 2, 1) := by decide +kernel
theorem d_M_gather_39 : decode b_M_gather 39 = .ok (.aload 8, 2) := by decide +kernel
theorem d_M_gather_41 : decode b_M_gather 41 = .ok (.getfield 155, 3) := by decide +kernel
theorem d_M_gather_44 : decode b_M_gather 44 = .ok (.invokestatic 197, 3) := by decide +kernel
theorem d_M_gather_47 : decode b_M_gather 47 = .ok (.ifCond .eq 34, 3) := by decide +kernel
theorem d_M_gather_50 : decode b_M_gather 50 = .ok (.aload_n 0, 1) := by decide +kernel
theorem d_M_gather_51 : decode b_M_gather 51 = .ok (.aload 8, 2) := by decide +kernel
theorem d_M_gather_53 : decode b_M_gather 53 = .ok (.iload_n 3, 1) := by decide +kernel
theorem d_M_gather_54 : decode b_M_gather 54 = .ok (.invokevirtual 200, 3) := by decide +kernel
theorem d_M_gather_57 : decode b_M_gather 57 = .ok (.ifCond .eq 24, 3) := by decide +kernel
theorem d_M_gather_60 : decode b_M_gather 60 = .ok (.aload 8, 2) := by decide +kernel
theorem d_M_gather_62 : decode b_M_gather 62 = .ok (.iload 4, 2) := by decide +kernel
theorem d_M_gather_64 : decode b_M_gather 64 = .ok (.iload 5, 2) := by decide +kernel
theorem d_M_gather_66 : decode b_M_gather 66 = .ok (.invokevirtual 152, 3) := by decide +kernel
theorem d_M_gather_69 : decode b_M_gather 69 = .ok (.ifCond .eq 12, 3) := by decide +kernel
theorem d_M_gather_72 : decode b_M_gather 72 = .ok (.aload_n 1, 1) := by decide +kernel
theorem d_M_gather_73 : decode b_M_gather 73 = .ok (.iload 6, 2) := by decide +kernel
theorem d_M_gather_75 : decode b_M_gather 75 = .ok (.iload 7, 2) := by decide +kernel
theorem d_M_gather_77 : decode b_M_gather 77 = .ok (.iastore, 1) := by decide +kernel
theorem d_M_gather_78 : decode b_M_gather 78 = .ok (.iinc 6 1, 3) := by decide +kernel
theorem d_M_gather_81 : decode b_M_gather 81 = .ok (.iinc 7 1, 3) := by decide +kernel
theorem d_M_gather_84 : decode b_M_gather 84 = .ok (.goto (-78), 3) := by decide +kernel
theorem d_M_gather_87 : decode b_M_gather 87 = .ok (.iload 6, 2) := by decide +kernel
theorem d_M_gather_89 : decode b_M_gather 89 = .ok (.ireturn, 1) := by decide +kernel
theorem d_M_isOfLand_0 : decode b_M_isOfLand 0 = .ok (.aload_n 1, 1) := by decide +kernel
theorem d_M_isOfLand_1 : decode b_M_isOfLand 1 = .ok (.getfield 158, 3) := by decide +kernel
theorem d_M_isOfLand_4 : decode b_M_isOfLand 4 = .ok (.iload_n 2, 1) := by decide +kernel
theorem d_M_isOfLand_5 : decode b_M_isOfLand 5 = .ok (.if_icmp .eq 18, 3) := by decide +kernel
theorem d_M_isOfLand_8 : decode b_M_isOfLand 8 = .ok (.aload_n 0, 1) := by decide +kernel
theorem d_M_isOfLand_9 : decode b_M_isOfLand 9 = .ok (.getfield 10, 3) := by decide +kernel
theorem d_M_isOfLand_12 : decode b_M_isOfLand 12 = .ok (.aload_n 1, 1) := by decide +kernel
theorem d_M_isOfLand_13 : decode b_M_isOfLand 13 = .ok (.getfield 158, 3) := by decide +kernel
theorem d_M_isOfLand_16 : decode b_M_isOfLand 16 = .ok (.iload_n 2, 1) := by decide +kernel
theorem d_M_isOfLand_17 : decode b_M_isOfLand 17 = .ok (.invokevirtual 68, 3) := by decide +kernel
theorem d_M_isOfLand_20 : decode b_M_isOfLand 20 = .ok (.ifCond .eq 15, 3) := by decide +kernel
theorem d_M_isOfLand_23 : decode b_M_isOfLand 23 = .ok (.aload_n 1, 1) := by decide +kernel
theorem d_M_isOfLand_24 : decode b_M_isOfLand 24 = .ok (.iload_n 2, 1) := by decide +kernel
theorem d_M_isOfLand_25 : decode b_M_isOfLand 25 = .ok (.invokevirtual 204, 3) := by decide +kernel
theorem d_M_isOfLand_28 : decode b_M_isOfLand 28 = .ok (.ifCond .ne 7, 3) := by decide +kernel
theorem d_M_isOfLand_31 : decode b_M_isOfLand 31 = .ok (.iconst 1, 1) := by decide +kernel
theorem d_M_isOfLand_32 : decode b_M_isOfLand 32 = .ok (.goto 4, 3) := by decide +kernel
theorem d_M_isOfLand_35 : decode b_M_isOfLand 35 = .ok (.iconst 0, 1) := by decide +kernel
theorem d_M_isOfLand_36 : decode b_M_isOfLand 36 = .ok (.ireturn, 1) := by decide +kernel
theorem d_M_keepWithPapers_0 : decode b_M_keepWithPapers 0 = .ok (.iconst 0, 1) := by decide +kernel
theorem d_M_keepWithPapers_1 : decode b_M_keepWithPapers 1 = .ok (.istore_n 2, 1) := by decide +kernel
theorem d_M_keepWithPapers_2 : decode b_M_keepWithPapers 2 = .ok (.iconst 0, 1) := by decide +kernel
theorem d_M_keepWithPapers_3 : decode b_M_keepWithPapers 3 = .ok (.istore_n 3, 1) := by decide +kernel
theorem d_M_keepWithPapers_4 : decode b_M_keepWithPapers 4 = .ok (.iload_n 3, 1) := by decide +kernel
theorem d_M_keepWithPapers_5 : decode b_M_keepWithPapers 5 = .ok (.iload_n 1, 1) := by decide +kernel
theorem d_M_keepWithPapers_6 : decode b_M_keepWithPapers 6 = .ok (.if_icmp .ge 53, 3) := by decide +kernel
theorem d_M_keepWithPapers_9 : decode b_M_keepWithPapers 9 = .ok (.aload_n 0, 1) := by decide +kernel
theorem d_M_keepWithPapers_10 : decode b_M_keepWithPapers 10 = .ok (.aload_n 0, 1) := by decide +kernel
theorem d_M_keepWithPapers_11 : decode b_M_keepWithPapers 11 = .ok (.getfield 39, 3) := by decide +kernel
theorem d_M_keepWithPapers_14 : decode b_M_keepWithPapers 14 = .ok (.iload_n 3, 1) := by decide +kernel
theorem d_M_keepWithPapers_15 : decode b_M_keepWithPapers 15 = .ok (.iaload, 1) := by decide +kernel
theorem d_M_keepWithPapers_16 : decode b_M_keepWithPapers 16 = .ok (.invokevirtual 111, 3) := by decide +kernel
theorem d_M_keepWithPapers_19 : decode b_M_keepWithPapers 19 = .ok (.astore 4, 2) := by decide +kernel
theorem d_M_keepWithPapers_21 : decode b_M_keepWithPapers 21 = .ok (.aload 4, 2) := by decide +kernel
theorem d_M_keepWithPapers_23 : decode b_M_keepWithPapers 23 = .ok (.ifnull 30, 3) := by decide +kernel
theorem d_M_keepWithPapers_26 : decode b_M_keepWithPapers 26 = .ok (.aload 4, 2) := by decide +kernel
theorem d_M_keepWithPapers_28 : decode b_M_keepWithPapers 28 = .ok (.aload_n 0, 1) := by decide +kernel
theorem d_M_keepWithPapers_29 : decode b_M_keepWithPapers 29 = .ok (.getfield 29, 3) := by decide +kernel
theorem d_M_keepWithPapers_32 : decode b_M_keepWithPapers 32 = .ok (.invokevirtual 207, 3) := by decide +kernel
theorem d_M_keepWithPapers_35 : decode b_M_keepWithPapers 35 = .ok (.ifCond .eq 18, 3) := by decide +kernel
theorem d_M_keepWithPapers_38 : decode b_M_keepWithPapers 38 = .ok (.aload_n 0, 1) := by decide +kernel
theorem d_M_keepWithPapers_39 : decode b_M_keepWithPapers 39 = .ok (.getfield 39, 3) := by decide +kernel
theorem d_M_keepWithPapers_42 : decode b_M_keepWithPapers 42 = .ok (.iload_n 2, 1) := by decide +kernel
theorem d_M_keepWithPapers_43 : decode b_M_keepWithPapers 43 = .ok (.aload_n 0, 1) := by decide +kernel
theorem d_M_keepWithPapers_44 : decode b_M_keepWithPapers 44 = .ok (.getfield 39, 3) := by decide +kernel
theorem d_M_keepWithPapers_47 : decode b_M_keepWithPapers 47 = .ok (.iload_n 3, 1) := by decide +kernel
theorem d_M_keepWithPapers_48 : decode b_M_keepWithPapers 48 = .ok (.iaload, 1) := by decide +kernel
theorem d_M_keepWithPapers_49 : decode b_M_keepWithPapers 49 = .ok (.iastore, 1) := by decide +kernel
theorem d_M_keepWithPapers_50 : decode b_M_keepWithPapers 50 = .ok (.iinc 2 1, 3) := by decide +kernel
theorem d_M_keepWithPapers_53 : decode b_M_keepWithPapers 53 = .ok (.iinc 3 1, 3) := by decide +kernel
theorem d_M_keepWithPapers_56 : decode b_M_keepWithPapers 56 = .ok (.goto (-52), 3) := by decide +kernel
theorem d_M_keepWithPapers_59 : decode b_M_keepWithPapers 59 = .ok (.iload_n 2, 1) := by decide +kernel
theorem d_M_keepWithPapers_60 : decode b_M_keepWithPapers 60 = .ok (.ireturn, 1) := by decide +kernel
theorem d_M_weighKinds_0 : decode b_M_weighKinds 0 = .ok (.iconst 0, 1) := by decide +kernel
theorem d_M_weighKinds_1 : decode b_M_weighKinds 1 = .ok (.istore_n 2, 1) := by decide +kernel
theorem d_M_weighKinds_2 : decode b_M_weighKinds 2 = .ok (.iload_n 2, 1) := by decide +kernel
theorem d_M_weighKinds_3 : decode b_M_weighKinds 3 = .ok (.bipush 8, 2) := by decide +kernel
theorem d_M_weighKinds_5 : decode b_M_weighKinds 5 = .ok (.if_icmp .ge 16, 3) := by decide +kernel
theorem d_M_weighKinds_8 : decode b_M_weighKinds 8 = .ok (.aload_n 0, 1) := by decide +kernel
theorem d_M_weighKinds_9 : decode b_M_weighKinds 9 = .ok (.getfield 42, 3) := by decide +kernel
theorem d_M_weighKinds_12 : decode b_M_weighKinds 12 = .ok (.iload_n 2, 1) := by decide +kernel
theorem d_M_weighKinds_13 : decode b_M_weighKinds 13 = .ok (.iconst 0, 1) := by decide +kernel
theorem d_M_weighKinds_14 : decode b_M_weighKinds 14 = .ok (.iastore, 1) := by decide +kernel
theorem d_M_weighKinds_15 : decode b_M_weighKinds 15 = .ok (.iinc 2 1, 3) := by decide +kernel
theorem d_M_weighKinds_18 : decode b_M_weighKinds 18 = .ok (.goto (-16), 3) := by decide +kernel
theorem d_M_weighKinds_21 : decode b_M_weighKinds 21 = .ok (.iconst 0, 1) := by decide +kernel
theorem d_M_weighKinds_22 : decode b_M_weighKinds 22 = .ok (.istore_n 2, 1) := by decide +kernel
theorem d_M_weighKinds_23 : decode b_M_weighKinds 23 = .ok (.iload_n 2, 1) := by decide +kernel
theorem d_M_weighKinds_24 : decode b_M_weighKinds 24 = .ok (.iload_n 1, 1) := by decide +kernel
theorem d_M_weighKinds_25 : decode b_M_weighKinds 25 = .ok (.if_icmp .ge 49, 3) := by decide +kernel
theorem d_M_weighKinds_28 : decode b_M_weighKinds 28 = .ok (.aload_n 0, 1) := by decide +kernel
theorem d_M_weighKinds_29 : decode b_M_weighKinds 29 = .ok (.aload_n 0, 1) := by decide +kernel
theorem d_M_weighKinds_30 : decode b_M_weighKinds 30 = .ok (.getfield 39, 3) := by decide +kernel
theorem d_M_weighKinds_33 : decode b_M_weighKinds 33 = .ok (.iload_n 2, 1) := by decide +kernel
theorem d_M_weighKinds_34 : decode b_M_weighKinds 34 = .ok (.iaload, 1) := by decide +kernel
theorem d_M_weighKinds_35 : decode b_M_weighKinds 35 = .ok (.invokevirtual 111, 3) := by decide +kernel
theorem d_M_weighKinds_38 : decode b_M_weighKinds 38 = .ok (.astore_n 3, 1) := by decide +kernel
theorem d_M_weighKinds_39 : decode b_M_weighKinds 39 = .ok (.aload_n 3, 1) := by decide +kernel
theorem d_M_weighKinds_40 : decode b_M_weighKinds 40 = .ok (.ifnull 28, 3) := by decide +kernel
theorem d_M_weighKinds_43 : decode b_M_weighKinds 43 = .ok (.aload_n 0, 1) := by decide +kernel
theorem d_M_weighKinds_44 : decode b_M_weighKinds 44 = .ok (.getfield 42, 3) := by decide +kernel
theorem d_M_weighKinds_47 : decode b_M_weighKinds 47 = .ok (.aload_n 3, 1) := by decide +kernel
theorem d_M_weighKinds_48 : decode b_M_weighKinds 48 = .ok (.getfield 164, 3) := by decide +kernel
theorem d_M_weighKinds_51 : decode b_M_weighKinds 51 = .ok (.aload_n 0, 1) := by decide +kernel
theorem d_M_weighKinds_52 : decode b_M_weighKinds 52 = .ok (.getfield 42, 3) := by decide +kernel
theorem d_M_weighKinds_55 : decode b_M_weighKinds 55 = .ok (.aload_n 3, 1) := by decide +kernel
theorem d_M_weighKinds_56 : decode b_M_weighKinds 56 = .ok (.getfield 164, 3) := by decide +kernel
theorem d_M_weighKinds_59 : decode b_M_weighKinds 59 = .ok (.iaload, 1) := by decide +kernel
theorem d_M_weighKinds_60 : decode b_M_weighKinds 60 = .ok (.aload_n 3, 1) := by decide +kernel
theorem d_M_weighKinds_61 : decode b_M_weighKinds 61 = .ok (.invokevirtual 210, 3) := by decide +kernel
theorem d_M_weighKinds_64 : decode b_M_weighKinds 64 = .ok (.invokestatic 105, 3) := by decide +kernel
theorem d_M_weighKinds_67 : decode b_M_weighKinds 67 = .ok (.iastore, 1) := by decide +kernel
theorem d_M_weighKinds_68 : decode b_M_weighKinds 68 = .ok (.iinc 2 1, 3) := by decide +kernel
theorem d_M_weighKinds_71 : decode b_M_weighKinds 71 = .ok (.goto (-48), 3) := by decide +kernel
theorem d_M_weighKinds_74 : decode b_M_weighKinds 74 = .ok (.return_, 1) := by decide +kernel
theorem d_M_listUnbeaten_0 : decode b_M_listUnbeaten 0 = .ok (.aload_n 0, 1) := by decide +kernel
theorem d_M_listUnbeaten_1 : decode b_M_listUnbeaten 1 = .ok (.iconst 0, 1) := by decide +kernel
theorem d_M_listUnbeaten_2 : decode b_M_listUnbeaten 2 = .ok (.putfield 36, 3) := by decide +kernel
theorem d_M_listUnbeaten_5 : decode b_M_listUnbeaten 5 = .ok (.iconst 0, 1) := by decide +kernel
theorem d_M_listUnbeaten_6 : decode b_M_listUnbeaten 6 = .ok (.istore_n 2, 1) := by decide +kernel
theorem d_M_listUnbeaten_7 : decode b_M_listUnbeaten 7 = .ok (.iload_n 2, 1) := by decide +kernel
theorem d_M_listUnbeaten_8 : decode b_M_listUnbeaten 8 = .ok (.bipush 8, 2) := by decide +kernel
theorem d_M_listUnbeaten_10 : decode b_M_listUnbeaten 10 = .ok (.if_icmp .ge 82, 3) := by decide +kernel
theorem d_M_listUnbeaten_13 : decode b_M_listUnbeaten 13 = .ok (.iconst 0, 1) := by decide +kernel
theorem d_M_listUnbeaten_14 : decode b_M_listUnbeaten 14 = .ok (.istore_n 3, 1) := by decide +kernel
theorem d_M_listUnbeaten_15 : decode b_M_listUnbeaten 15 = .ok (.iload_n 3, 1) := by decide +kernel
theorem d_M_listUnbeaten_16 : decode b_M_listUnbeaten 16 = .ok (.iload_n 1, 1) := by decide +kernel
theorem d_M_listUnbeaten_17 : decode b_M_listUnbeaten 17 = .ok (.if_icmp .ge 69, 3) := by decide +kernel
theorem d_M_listUnbeaten_20 : decode b_M_listUnbeaten 20 = .ok (.aload_n 0, 1) := by decide +kernel
theorem d_M_listUnbeaten_21 : decode b_M_listUnbeaten 21 = .ok (.aload_n 0, 1) := by decide +kernel
theorem d_M_listUnbeaten_22 : decode b_M_listUnbeaten 22 = .ok (.getfield 39, 3) := by decide +kernel
theorem d_M_listUnbeaten_25 : decode b_M_listUnbeaten 25 = .ok (.iload_n 3, 1) := by decide +kernel
theorem d_M_listUnbeaten_26 : decode b_M_listUnbeaten 26 = .ok (.iaload, 1) := by decide +kernel
theorem d_M_listUnbeaten_27 : decode b_M_listUnbeaten 27 = .ok (.invokevirtual 111, 3) := by decide +kernel
theorem d_M_listUnbeaten_30 : decode b_M_listUnbeaten 30 = .ok (.astore 4, 2) := by decide +kernel
theorem d_M_listUnbeaten_32 : decode b_M_listUnbeaten 32 = .ok (.aload 4, 2) := by decide +kernel
theorem d_M_listUnbeaten_34 : decode b_M_listUnbeaten 34 = .ok (.ifnull 46, 3) := by decide +kernel
theorem d_M_listUnbeaten_37 : decode b_M_listUnbeaten 37 = .ok (.aload 4, 2) := by decide +kernel
theorem d_M_listUnbeaten_39 : decode b_M_listUnbeaten 39 = .ok (.getfield 164, 3) := by decide +kernel
theorem d_M_listUnbeaten_42 : decode b_M_listUnbeaten 42 = .ok (.iload_n 2, 1) := by decide +kernel
theorem d_M_listUnbeaten_43 : decode b_M_listUnbeaten 43 = .ok (.if_icmp .ne 37, 3) := by decide +kernel
theorem d_M_listUnbeaten_46 : decode b_M_listUnbeaten 46 = .ok (.aload_n 0, 1) := by decide +kernel
theorem d_M_listUnbeaten_47 : decode b_M_listUnbeaten 47 = .ok (.aload 4, 2) := by decide +kernel
theorem d_M_listUnbeaten_49 : decode b_M_listUnbeaten 49 = .ok (.invokevirtual 214, 3) := by decide +kernel
theorem d_M_listUnbeaten_52 : decode b_M_listUnbeaten 52 = .ok (.ifCond .ne 28, 3) := by decide +kernel
theorem d_M_listUnbeaten_55 : decode b_M_listUnbeaten 55 = .ok (.aload_n 0, 1) := by decide +kernel
theorem d_M_listUnbeaten_56 : decode b_M_listUnbeaten 56 = .ok (.getfield 32, 3) := by decide +kernel
theorem d_M_listUnbeaten_59 : decode b_M_listUnbeaten 59 = .ok (.aload_n 0, 1) := by decide +kernel
theorem d_M_listUnbeaten_60 : decode b_M_listUnbeaten 60 = .ok (.getfield 36, 3) := by decide +kernel
theorem d_M_listUnbeaten_63 : decode b_M_listUnbeaten 63 = .ok (.aload_n 0, 1) := by decide +kernel
theorem d_M_listUnbeaten_64 : decode b_M_listUnbeaten 64 = .ok (.getfield 39, 3) := by decide +kernel
theorem d_M_listUnbeaten_67 : decode b_M_listUnbeaten 67 = .ok (.iload_n 3, 1) := by decide +kernel
theorem d_M_listUnbeaten_68 : decode b_M_listUnbeaten 68 = .ok (.iaload, 1) := by decide +kernel
theorem d_M_listUnbeaten_69 : decode b_M_listUnbeaten 69 = .ok (.iastore, 1) := by decide +kernel
theorem d_M_listUnbeaten_70 : decode b_M_listUnbeaten 70 = .ok (.aload_n 0, 1) := by decide +kernel
theorem d_M_listUnbeaten_71 : decode b_M_listUnbeaten 71 = .ok (.dup, 1) := by decide +kernel
theorem d_M_listUnbeaten_72 : decode b_M_listUnbeaten 72 = .ok (.getfield 36, 3) := by decide +kernel
theorem d_M_listUnbeaten_75 : decode b_M_listUnbeaten 75 = .ok (.iconst 1, 1) := by decide +kernel
theorem d_M_listUnbeaten_76 : decode b_M_listUnbeaten 76 = .ok (.iadd, 1) := by decide +kernel
theorem d_M_listUnbeaten_77 : decode b_M_listUnbeaten 77 = .ok (.putfield 36, 3) := by decide +kernel
theorem d_M_listUnbeaten_80 : decode b_M_listUnbeaten 80 = .ok (.iinc 3 1, 3) := by decide +kernel
theorem d_M_listUnbeaten_83 : decode b_M_listUnbeaten 83 = .ok (.goto (-68), 3) := by decide +kernel
theorem d_M_listUnbeaten_86 : decode b_M_listUnbeaten 86 = .ok (.iinc 2 1, 3) := by decide +kernel
theorem d_M_listUnbeaten_89 : decode b_M_listUnbeaten 89 = .ok (.goto (-82), 3) := by decide +kernel
theorem d_M_listUnbeaten_92 : decode b_M_listUnbeaten 92 = .ok (.return_, 1) := by decide +kernel
theorem d_M_isBeaten_0 : decode b_M_isBeaten 0 = .ok (.aload_n 1, 1) := by decide +kernel
theorem d_M_isBeaten_1 : decode b_M_isBeaten 1 = .ok (.getfield 164, 3) := by decide +kernel
theorem d_M_isBeaten_4 : decode b_M_isBeaten 4 = .ok (.iconst 4, 1) := by decide +kernel
theorem d_M_isBeaten_5 : decode b_M_isBeaten 5 = .ok (.if_icmp .ge 23, 3) := by decide +kernel
theorem d_M_isBeaten_8 : decode b_M_isBeaten 8 = .ok (.aload_n 1, 1) := by decide +kernel
theorem d_M_isBeaten_9 : decode b_M_isBeaten 9 = .ok (.invokevirtual 210, 3) := by decide +kernel
theorem d_M_isBeaten_12 : decode b_M_isBeaten 12 = .ok (.aload_n 0, 1) := by decide +kernel
theorem d_M_isBeaten_13 : decode b_M_isBeaten 13 = .ok (.getfield 42, 3) := by decide +kernel
theorem d_M_isBeaten_16 : decode b_M_isBeaten 16 = .ok (.aload_n 1, 1) := by decide +kernel
theorem d_M_isBeaten_17 : decode b_M_isBeaten 17 = .ok (.getfield 164, 3) := by decide +kernel
theorem d_M_isBeaten_20 : decode b_M_isBeaten 20 = .ok (.iaload, 1) := by decide +kernel
theorem d_M_isBeaten_21 : decode b_M_isBeaten 21 = .ok (.if_icmp .ge 7, 3) := by decide +kernel
theorem d_M_isBeaten_24 : decode b_M_isBeaten 24 = .ok (.iconst 1, 1) := by decide +kernel
theorem d_M_isBeaten_25 : decode b_M_isBeaten 25 = .ok (.goto 4, 3) := by decide +kernel
theorem d_M_isBeaten_28 : decode b_M_isBeaten 28 = .ok (.iconst 0, 1) := by decide +kernel
theorem d_M_isBeaten_29 : decode b_M_isBeaten 29 = .ok (.ireturn, 1) := by decide +kernel
theorem d_M_isLand_0 : decode b_M_isLand 0 = .ok (.iload_n 0, 1) := by decide +kernel
theorem d_M_isLand_1 : decode b_M_isLand 1 = .ok (.ifCond .lt 13, 3) := by decide +kernel
theorem d_M_isLand_4 : decode b_M_isLand 4 = .ok (.iload_n 0, 1) := by decide +kernel
theorem d_M_isLand_5 : decode b_M_isLand 5 = .ok (.bipush 16, 2) := by decide +kernel
theorem d_M_isLand_7 : decode b_M_isLand 7 = .ok (.if_icmp .ge 7, 3) := by decide +kernel
theorem d_M_isLand_10 : decode b_M_isLand 10 = .ok (.iconst 1, 1) := by decide +kernel
theorem d_M_isLand_11 : decode b_M_isLand 11 = .ok (.goto 4, 3) := by decide +kernel
theorem d_M_isLand_14 : decode b_M_isLand 14 = .ok (.iconst 0, 1) := by decide +kernel
theorem d_M_isLand_15 : decode b_M_isLand 15 = .ok (.ireturn, 1) := by decide +kernel
theorem d_M_isGroup_0 : decode b_M_isGroup 0 = .ok (.iload_n 0, 1) := by decide +kernel
theorem d_M_isGroup_1 : decode b_M_isGroup 1 = .ok (.bipush 16, 2) := by decide +kernel
theorem d_M_isGroup_3 : decode b_M_isGroup 3 = .ok (.if_icmp .lt 13, 3) := by decide +kernel
theorem d_M_isGroup_6 : decode b_M_isGroup 6 = .ok (.iload_n 0, 1) := by decide +kernel
theorem d_M_isGroup_7 : decode b_M_isGroup 7 = .ok (.bipush 24, 2) := by decide +kernel
theorem d_M_isGroup_9 : decode b_M_isGroup 9 = .ok (.if_icmp .ge 7, 3) := by decide +kernel
theorem d_M_isGroup_12 : decode b_M_isGroup 12 = .ok (.iconst 1, 1) := by decide +kernel
theorem d_M_isGroup_13 : decode b_M_isGroup 13 = .ok (.goto 4, 3) := by decide +kernel
theorem d_M_isGroup_16 : decode b_M_isGroup 16 = .ok (.iconst 0, 1) := by decide +kernel
theorem d_M_isGroup_17 : decode b_M_isGroup 17 = .ok (.ireturn, 1) := by decide +kernel
theorem d_M_isPlace_0 : decode b_M_isPlace 0 = .ok (.iload_n 0, 1) := by decide +kernel
theorem d_M_isPlace_1 : decode b_M_isPlace 1 = .ok (.invokestatic 49, 3) := by decide +kernel
theorem d_M_isPlace_4 : decode b_M_isPlace 4 = .ok (.ifCond .ne 16, 3) := by decide +kernel
theorem d_M_isPlace_7 : decode b_M_isPlace 7 = .ok (.iload_n 0, 1) := by decide +kernel
theorem d_M_isPlace_8 : decode b_M_isPlace 8 = .ok (.invokestatic 45, 3) := by decide +kernel
theorem d_M_isPlace_11 : decode b_M_isPlace 11 = .ok (.ifCond .ne 9, 3) := by decide +kernel
theorem d_M_isPlace_14 : decode b_M_isPlace 14 = .ok (.iload_n 0, 1) := by decide +kernel
theorem d_M_isPlace_15 : decode b_M_isPlace 15 = .ok (.bipush 31, 2) := by decide +kernel
theorem d_M_isPlace_17 : decode b_M_isPlace 17 = .ok (.if_icmp .ne 7, 3) := by decide +kernel
theorem d_M_isPlace_20 : decode b_M_isPlace 20 = .ok (.iconst 1, 1) := by decide +kernel
theorem d_M_isPlace_21 : decode b_M_isPlace 21 = .ok (.goto 4, 3) := by decide +kernel
theorem d_M_isPlace_24 : decode b_M_isPlace 24 = .ok (.iconst 0, 1) := by decide +kernel
theorem d_M_isPlace_25 : decode b_M_isPlace 25 = .ok (.ireturn, 1) := by decide +kernel
theorem d_M_isDay_0 : decode b_M_isDay 0 = .ok (.iload_n 0, 1) := by decide +kernel
theorem d_M_isDay_1 : decode b_M_isDay 1 = .ok (.ifCond .lt 14, 3) := by decide +kernel
theorem d_M_isDay_4 : decode b_M_isDay 4 = .ok (.iload_n 0, 1) := by decide +kernel
theorem d_M_isDay_5 : decode b_M_isDay 5 = .ok (.sipush 10000, 3) := by decide +kernel
theorem d_M_isDay_8 : decode b_M_isDay 8 = .ok (.if_icmp .gt 7, 3) := by decide +kernel
theorem d_M_isDay_11 : decode b_M_isDay 11 = .ok (.iconst 1, 1) := by decide +kernel
theorem d_M_isDay_12 : decode b_M_isDay 12 = .ok (.goto 4, 3) := by decide +kernel
theorem d_M_isDay_15 : decode b_M_isDay 15 = .ok (.iconst 0, 1) := by decide +kernel
theorem d_M_isDay_16 : decode b_M_isDay 16 = .ok (.ireturn, 1) := by decide +kernel
theorem d_M_isLastDay_0 : decode b_M_isLastDay 0 = .ok (.iload_n 0, 1) := by decide +kernel
theorem d_M_isLastDay_1 : decode b_M_isLastDay 1 = .ok (.invokestatic 83, 3) := by decide +kernel
theorem d_M_isLastDay_4 : decode b_M_isLastDay 4 = .ok (.ifCond .ne 10, 3) := by decide +kernel
theorem d_M_isLastDay_7 : decode b_M_isLastDay 7 = .ok (.iload_n 0, 1) := by decide +kernel
theorem d_M_isLastDay_8 : decode b_M_isLastDay 8 = .ok (.sipush 20000, 3) := by decide +kernel
theorem d_M_isLastDay_11 : decode b_M_isLastDay 11 = .ok (.if_icmp .ne 7, 3) := by decide +kernel
theorem d_M_isLastDay_14 : decode b_M_isLastDay 14 = .ok (.iconst 1, 1) := by decide +kernel
theorem d_M_isLastDay_15 : decode b_M_isLastDay 15 = .ok (.goto 4, 3) := by decide +kernel
theorem d_M_isLastDay_18 : decode b_M_isLastDay 18 = .ok (.iconst 0, 1) := by decide +kernel
theorem d_M_isLastDay_19 : decode b_M_isLastDay 19 = .ok (.ireturn, 1) := by decide +kernel
theorem d_M_levelOf_0 : decode b_M_levelOf 0 = .ok (.iload_n 0, 1) := by decide +kernel
theorem d_M_levelOf_1 : decode b_M_levelOf 1 = .ok (.bipush 10, 2) := by decide +kernel
theorem d_M_levelOf_3 : decode b_M_levelOf 3 = .ok (.if_icmp .lt 11, 3) := by decide +kernel
theorem d_M_levelOf_6 : decode b_M_levelOf 6 = .ok (.iload_n 0, 1) := by decide +kernel
theorem d_M_levelOf_7 : decode b_M_levelOf 7 = .ok (.bipush 99, 2) := by decide +kernel
theorem d_M_levelOf_9 : decode b_M_levelOf 9 = .ok (.if_icmp .gt 5, 3) := by decide +kernel
theorem d_M_levelOf_12 : decode b_M_levelOf 12 = .ok (.iconst 1, 1) := by decide +kernel
theorem d_M_levelOf_13 : decode b_M_levelOf 13 = .ok (.ireturn, 1) := by decide +kernel
theorem d_M_levelOf_14 : decode b_M_levelOf 14 = .ok (.iload_n 0, 1) := by decide +kernel
theorem d_M_levelOf_15 : decode b_M_levelOf 15 = .ok (.sipush 1000, 3) := by decide +kernel
theorem d_M_levelOf_18 : decode b_M_levelOf 18 = .ok (.if_icmp .lt 12, 3) := by decide +kernel
theorem d_M_levelOf_21 : decode b_M_levelOf 21 = .ok (.iload_n 0, 1) := by decide +kernel
theorem d_M_levelOf_22 : decode b_M_levelOf 22 = .ok (.sipush 9999, 3) := by decide +kernel
theorem d_M_levelOf_25 : decode b_M_levelOf 25 = .ok (.if_icmp .gt 5, 3) := by decide +kernel
theorem d_M_levelOf_28 : decode b_M_levelOf 28 = .ok (.iconst 2, 1) := by decide +kernel
theorem d_M_levelOf_29 : decode b_M_levelOf 29 = .ok (.ireturn, 1) := by decide +kernel
theorem d_M_levelOf_30 : decode b_M_levelOf 30 = .ok (.iload_n 0, 1) := by decide +kernel
theorem d_M_levelOf_31 : decode b_M_levelOf 31 = .ok (.ldc 218, 2) := by decide +kernel
theorem d_M_levelOf_33 : decode b_M_levelOf 33 = .ok (.if_icmp .lt 13, 3) := by decide +kernel
theorem d_M_levelOf_36 : decode b_M_levelOf 36 = .ok (.iload_n 0, 1) := by decide +kernel
theorem d_M_levelOf_37 : decode b_M_levelOf 37 = .ok (.ldc 219, 2) := by decide +kernel
theorem d_M_levelOf_39 : decode b_M_levelOf 39 = .ok (.if_icmp .gt 7, 3) := by decide +kernel
theorem d_M_levelOf_42 : decode b_M_levelOf 42 = .ok (.iconst 3, 1) := by decide +kernel
theorem d_M_levelOf_43 : decode b_M_levelOf 43 = .ok (.goto 4, 3) := by decide +kernel
theorem d_M_levelOf_46 : decode b_M_levelOf 46 = .ok (.iconst 0, 1) := by decide +kernel
theorem d_M_levelOf_47 : decode b_M_levelOf 47 = .ok (.ireturn, 1) := by decide +kernel
theorem d_M_isUnder_0 : decode b_M_isUnder 0 = .ok (.iload_n 0, 1) := by decide +kernel
theorem d_M_isUnder_1 : decode b_M_isUnder 1 = .ok (.iload_n 1, 1) := by decide +kernel
theorem d_M_isUnder_2 : decode b_M_isUnder 2 = .ok (.if_icmp .eq 20, 3) := by decide +kernel
theorem d_M_isUnder_5 : decode b_M_isUnder 5 = .ok (.iload_n 0, 1) := by decide +kernel
theorem d_M_isUnder_6 : decode b_M_isUnder 6 = .ok (.bipush 100, 2) := by decide +kernel
theorem d_M_isUnder_8 : decode b_M_isUnder 8 = .ok (.idiv, 1) := by decide +kernel
theorem d_M_isUnder_9 : decode b_M_isUnder 9 = .ok (.iload_n 1, 1) := by decide +kernel
theorem d_M_isUnder_10 : decode b_M_isUnder 10 = .ok (.if_icmp .eq 12, 3) := by decide +kernel
theorem d_M_isUnder_13 : decode b_M_isUnder 13 = .ok (.iload_n 0, 1) := by decide +kernel
theorem d_M_isUnder_14 : decode b_M_isUnder 14 = .ok (.sipush 10000, 3) := by decide +kernel
theorem d_M_isUnder_17 : decode b_M_isUnder 17 = .ok (.idiv, 1) := by decide +kernel
theorem d_M_isUnder_18 : decode b_M_isUnder 18 = .ok (.iload_n 1, 1) := by decide +kernel
theorem d_M_isUnder_19 : decode b_M_isUnder 19 = .ok (.if_icmp .ne 7, 3) := by decide +kernel
theorem d_M_isUnder_22 : decode b_M_isUnder 22 = .ok (.iconst 1, 1) := by decide +kernel
theorem d_M_isUnder_23 : decode b_M_isUnder 23 = .ok (.goto 4, 3) := by decide +kernel
theorem d_M_isUnder_26 : decode b_M_isUnder 26 = .ok (.iconst 0, 1) := by decide +kernel
theorem d_M_isUnder_27 : decode b_M_isUnder 27 = .ok (.ireturn, 1) := by decide +kernel
theorem d_M_hasBit_0 : decode b_M_hasBit 0 = .ok (.iload_n 0, 1) := by decide +kernel
theorem d_M_hasBit_1 : decode b_M_hasBit 1 = .ok (.iload_n 1, 1) := by decide +kernel
theorem d_M_hasBit_2 : decode b_M_hasBit 2 = .ok (.iushr, 1) := by decide +kernel
theorem d_M_hasBit_3 : decode b_M_hasBit 3 = .ok (.iconst 1, 1) := by decide +kernel
theorem d_M_hasBit_4 : decode b_M_hasBit 4 = .ok (.iand, 1) := by decide +kernel
theorem d_M_hasBit_5 : decode b_M_hasBit 5 = .ok (.ifCond .eq 7, 3) := by decide +kernel
theorem d_M_hasBit_8 : decode b_M_hasBit 8 = .ok (.iconst 1, 1) := by decide +kernel
theorem d_M_hasBit_9 : decode b_M_hasBit 9 = .ok (.goto 4, 3) := by decide +kernel
theorem d_M_hasBit_12 : decode b_M_hasBit 12 = .ok (.iconst 0, 1) := by decide +kernel
theorem d_M_hasBit_13 : decode b_M_hasBit 13 = .ok (.ireturn, 1) := by decide +kernel
theorem d_G_init_0 : decode b_G_init 0 = .ok (.aload_n 0, 1) := by decide +kernel
theorem d_G_init_1 : decode b_G_init 1 = .ok (.invokespecial 3, 3) := by decide +kernel
theorem d_G_init_4 : decode b_G_init 4 = .ok (.aload_n 0, 1) := by decide +kernel
theorem d_G_init_5 : decode b_G_init 5 = .ok (.bipush 8, 2) := by decide +kernel
theorem d_G_init_7 : decode b_G_init 7 = .ok (.newarray .int, 2) := by decide +kernel
theorem d_G_init_9 : decode b_G_init 9 = .ok (.putfield 9, 3) := by decide +kernel
theorem d_G_init_12 : decode b_G_init 12 = .ok (.aload_n 0, 1) := by decide +kernel
theorem d_G_init_13 : decode b_G_init 13 = .ok (.bipush 8, 2) := by decide +kernel
theorem d_G_init_15 : decode b_G_init 15 = .ok (.newarray .int, 2) := by decide +kernel
theorem d_G_init_17 : decode b_G_init 17 = .ok (.putfield 15, 3) := by decide +kernel
theorem d_G_init_20 : decode b_G_init 20 = .ok (.return_, 1) := by decide +kernel
theorem d_G_join_0 : decode b_G_join 0 = .ok (.iload_n 1, 1) := by decide +kernel
theorem d_G_join_1 : decode b_G_join 1 = .ok (.invokestatic 18, 3) := by decide +kernel
theorem d_G_join_4 : decode b_G_join 4 = .ok (.ifCond .eq 28, 3) := by decide +kernel
theorem d_G_join_7 : decode b_G_join 7 = .ok (.aload_n 0, 1) := by decide +kernel
theorem d_G_join_8 : decode b_G_join 8 = .ok (.getfield 9, 3) := by decide +kernel
theorem d_G_join_11 : decode b_G_join 11 = .ok (.iload_n 1, 1) := by decide +kernel
theorem d_G_join_12 : decode b_G_join 12 = .ok (.bipush 16, 2) := by decide +kernel
theorem d_G_join_14 : decode b_G_join 14 = .ok (.isub, 1) := by decide +kernel
theorem d_G_join_15 : decode b_G_join 15 = .ok (.iaload, 1) := by decide +kernel
theorem d_G_join_16 : decode b_G_join 16 = .ok (.iload_n 2, 1) := by decide +kernel
theorem d_G_join_17 : decode b_G_join 17 = .ok (.invokestatic 22, 3) := by decide +kernel
theorem d_G_join_20 : decode b_G_join 20 = .ok (.ifCond .ne 12, 3) := by decide +kernel
theorem d_G_join_23 : decode b_G_join 23 = .ok (.aload_n 0, 1) := by decide +kernel
theorem d_G_join_24 : decode b_G_join 24 = .ok (.iload_n 1, 1) := by decide +kernel
theorem d_G_join_25 : decode b_G_join 25 = .ok (.iload_n 2, 1) := by decide +kernel
theorem d_G_join_26 : decode b_G_join 26 = .ok (.invokevirtual 26, 3) := by decide +kernel
theorem d_G_join_29 : decode b_G_join 29 = .ok (.ifCond .eq 5, 3) := by decide +kernel
theorem d_G_join_32 : decode b_G_join 32 = .ok (.iconst 0, 1) := by decide +kernel
theorem d_G_join_33 : decode b_G_join 33 = .ok (.ireturn, 1) := by decide +kernel
theorem d_G_join_34 : decode b_G_join 34 = .ok (.aload_n 0, 1) := by decide +kernel
theorem d_G_join_35 : decode b_G_join 35 = .ok (.getfield 9, 3) := by decide +kernel
theorem d_G_join_38 : decode b_G_join 38 = .ok (.iload_n 1, 1) := by decide +kernel
theorem d_G_join_39 : decode b_G_join 39 = .ok (.bipush 16, 2) := by decide +kernel
theorem d_G_join_41 : decode b_G_join 41 = .ok (.isub, 1) := by decide +kernel
theorem d_G_join_42 : decode b_G_join 42 = .ok (.dup2, 1) := by decide +kernel
theorem d_G_join_43 : decode b_G_join 43 = .ok (.iaload, 1) := by decide +kernel
theorem d_G_join_44 : decode b_G_join 44 = .ok (.iconst 1, 1) := by decide +kernel
theorem d_G_join_45 : decode b_G_join 45 = .ok (.iload_n 2, 1) := by decide +kernel
theorem d_G_join_46 : decode b_G_join 46 = .ok (.ishl, 1) := by decide +kernel
theorem d_G_join_47 : decode b_G_join 47 = .ok (.ior, 1) := by decide +kernel
theorem d_G_join_48 : decode b_G_join 48 = .ok (.iastore, 1) := by decide +kernel
theorem d_G_join_49 : decode b_G_join 49 = .ok (.iconst 1, 1) := by decide +kernel
theorem d_G_join_50 : decode b_G_join 50 = .ok (.iload_n 2, 1) := by decide +kernel
theorem d_G_join_51 : decode b_G_join 51 = .ok (.ishl, 1) := by decide +kernel
theorem d_G_join_52 : decode b_G_join 52 = .ok (.aload_n 0, 1) := by decide +kernel
theorem d_G_join_53 : decode b_G_join 53 = .ok (.iload_n 2, 1) := by decide +kernel
theorem d_G_join_54 : decode b_G_join 54 = .ok (.invokevirtual 29, 3) := by decide +kernel
theorem d_G_join_57 : decode b_G_join 57 = .ok (.ior, 1) := by decide +kernel
theorem d_G_join_58 : decode b_G_join 58 = .ok (.istore_n 3, 1) := by decide +kernel
theorem d_G_join_59 : decode b_G_join 59 = .ok (.iconst 0, 1) := by decide +kernel
theorem d_G_join_60 : decode b_G_join 60 = .ok (.istore 4, 2) := by decide +kernel
theorem d_G_join_62 : decode b_G_join 62 = .ok (.iload 4, 2) := by decide +kernel
theorem d_G_join_64 : decode b_G_join 64 = .ok (.bipush 8, 2) := by decide +kernel
theorem d_G_join_66 : decode b_G_join 66 = .ok (.if_icmp .ge 43, 3) := by decide +kernel
theorem d_G_join_69 : decode b_G_join 69 = .ok (.iload 4, 2) := by decide +kernel
theorem d_G_join_71 : decode b_G_join 71 = .ok (.bipush 16, 2) := by decide +kernel
theorem d_G_join_73 : decode b_G_join 73 = .ok (.iadd, 1) := by decide +kernel
theorem d_G_join_74 : decode b_G_join 74 = .ok (.iload_n 1, 1) := by decide +kernel
theorem d_G_join_75 : decode b_G_join 75 = .ok (.if_icmp .eq 17, 3) := by decide +kernel
theorem d_G_join_78 : decode b_G_join 78 = .ok (.aload_n 0, 1) := by decide +kernel
theorem d_G_join_79 : decode b_G_join 79 = .ok (.getfield 15, 3) := by decide +kernel
theorem d_G_join_82 : decode b_G_join 82 = .ok (.iload 4, 2) := by decide +kernel
theorem d_G_join_84 : decode b_G_join 84 = .ok (.iaload, 1) := by decide +kernel
theorem d_G_join_85 : decode b_G_join 85 = .ok (.iload_n 1, 1) := by decide +kernel
theorem d_G_join_86 : decode b_G_join 86 = .ok (.invokestatic 22, 3) := by decide +kernel
theorem d_G_join_89 : decode b_G_join 89 = .ok (.ifCond .eq 14, 3) := by decide +kernel
theorem d_G_join_92 : decode b_G_join 92 = .ok (.aload_n 0, 1) := by decide +kernel
theorem d_G_join_93 : decode b_G_join 93 = .ok (.getfield 15, 3) := by decide +kernel
theorem d_G_join_96 : decode b_G_join 96 = .ok (.iload 4, 2) := by decide +kernel
theorem d_G_join_98 : decode b_G_join 98 = .ok (.dup2, 1) := by decide +kernel
theorem d_G_join_99 : decode b_G_join 99 = .ok (.iaload, 1) := by decide +kernel
theorem d_G_join_100 : decode b_G_join 100 = .ok (.iload_n 3, 1) := by decide +kernel
theorem d_G_join_101 : decode b_G_join 101 = .ok (.ior, 1) := by decide +kernel
theorem d_G_join_102 : decode b_G_join 102 = .ok (.iastore, 1) := by decide +kernel
theorem d_G_join_103 : decode b_G_join 103 = .ok (.iinc 4 1, 3) := by decide +kernel
theorem d_G_join_106 : decode b_G_join 106 = .ok (.goto (-44), 3) := by decide +kernel
theorem d_G_join_109 : decode b_G_join 109 = .ok (.iconst 1, 1) := by decide +kernel
theorem d_G_join_110 : decode b_G_join 110 = .ok (.ireturn, 1) := by decide +kernel
theorem d_G_wouldRing_0 : decode b_G_wouldRing 0 = .ok (.iload_n 2, 1) := by decide +kernel
theorem d_G_wouldRing_1 : decode b_G_wouldRing 1 = .ok (.iload_n 1, 1) := by decide +kernel
theorem d_G_wouldRing_2 : decode b_G_wouldRing 2 = .ok (.if_icmp .eq 15, 3) := by decide +kernel
theorem d_G_wouldRing_5 : decode b_G_wouldRing 5 = .ok (.aload_n 0, 1) := by decide +kernel
theorem d_G_wouldRing_6 : decode b_G_wouldRing 6 = .ok (.iload_n 2, 1) := by decide +kernel
theorem d_G_wouldRing_7 : decode b_G_wouldRing 7 = .ok (.invokevirtual 29, 3) := by decide +kernel
theorem d_G_wouldRing_10 : decode b_G_wouldRing 10 = .ok (.iload_n 1, 1) := by decide +kernel
theorem d_G_wouldRing_11 : decode b_G_wouldRing 11 = .ok (.invokestatic 22, 3) := by decide +kernel
theorem d_G_wouldRing_14 : decode b_G_wouldRing 14 = .ok (.ifCond .eq 7, 3) := by decide +kernel
theorem d_G_wouldRing_17 : decode b_G_wouldRing 17 = .ok (.iconst 1, 1) := by decide +kernel
theorem d_G_wouldRing_18 : decode b_G_wouldRing 18 = .ok (.goto 4, 3) := by decide +kernel
theorem d_G_wouldRing_21 : decode b_G_wouldRing 21 = .ok (.iconst 0, 1) := by decide +kernel
theorem d_G_wouldRing_22 : decode b_G_wouldRing 22 = .ok (.ireturn, 1) := by decide +kernel
theorem d_G_reaches_0 : decode b_G_reaches 0 = .ok (.iload_n 1, 1) := by decide +kernel
theorem d_G_reaches_1 : decode b_G_reaches 1 = .ok (.bipush 31, 2) := by decide +kernel
theorem d_G_reaches_3 : decode b_G_reaches 3 = .ok (.if_icmp .eq 15, 3) := by decide +kernel
theorem d_G_reaches_6 : decode b_G_reaches 6 = .ok (.aload_n 0, 1) := by decide +kernel
theorem d_G_reaches_7 : decode b_G_reaches 7 = .ok (.iload_n 1, 1) := by decide +kernel
theorem d_G_reaches_8 : decode b_G_reaches 8 = .ok (.invokevirtual 29, 3) := by decide +kernel
theorem d_G_reaches_11 : decode b_G_reaches 11 = .ok (.iload_n 2, 1) := by decide +kernel
theorem d_G_reaches_12 : decode b_G_reaches 12 = .ok (.invokestatic 22, 3) := by decide +kernel
theorem d_G_reaches_15 : decode b_G_reaches 15 = .ok (.ifCond .eq 7, 3) := by decide +kernel
theorem d_G_reaches_18 : decode b_G_reaches 18 = .ok (.iconst 1, 1) := by decide +kernel
theorem d_G_reaches_19 : decode b_G_reaches 19 = .ok (.goto 4, 3) := by decide +kernel
theorem d_G_reaches_22 : decode b_G_reaches 22 = .ok (.iconst 0, 1) := by decide +kernel
theorem d_G_reaches_23 : decode b_G_reaches 23 = .ok (.ireturn, 1) := by decide +kernel
theorem d_G_landsIn_0 : decode b_G_landsIn 0 = .ok (.aload_n 0, 1) := by decide +kernel
theorem d_G_landsIn_1 : decode b_G_landsIn 1 = .ok (.iload_n 1, 1) := by decide +kernel
theorem d_G_landsIn_2 : decode b_G_landsIn 2 = .ok (.invokevirtual 29, 3) := by decide +kernel
theorem d_G_landsIn_5 : decode b_G_landsIn 5 = .ok (.ldc 33, 2) := by decide +kernel
theorem d_G_landsIn_7 : decode b_G_landsIn 7 = .ok (.iand, 1) := by decide +kernel
theorem d_G_landsIn_8 : decode b_G_landsIn 8 = .ok (.invokestatic 34, 3) := by decide +kernel
theorem d_G_landsIn_11 : decode b_G_landsIn 11 = .ok (.ireturn, 1) := by decide +kernel
theorem d_G_insideOf_0 : decode b_G_insideOf 0 = .ok (.iload_n 1, 1) := by decide +kernel
theorem d_G_insideOf_1 : decode b_G_insideOf 1 = .ok (.invokestatic 18, 3) := by decide +kernel
theorem d_G_insideOf_4 : decode b_G_insideOf 4 = .ok (.ifCond .eq 15, 3) := by decide +kernel
theorem d_G_insideOf_7 : decode b_G_insideOf 7 = .ok (.aload_n 0, 1) := by decide +kernel
theorem d_G_insideOf_8 : decode b_G_insideOf 8 = .ok (.getfield 15, 3) := by decide +kernel
theorem d_G_insideOf_11 : decode b_G_insideOf 11 = .ok (.iload_n 1, 1) := by decide +kernel
theorem d_G_insideOf_12 : decode b_G_insideOf 12 = .ok (.bipush 16, 2) := by decide +kernel
theorem d_G_insideOf_14 : decode b_G_insideOf 14 = .ok (.isub, 1) := by decide +kernel
theorem d_G_insideOf_15 : decode b_G_insideOf 15 = .ok (.iaload, 1) := by decide +kernel
theorem d_G_insideOf_16 : decode b_G_insideOf 16 = .ok (.goto 4, 3) := by decide +kernel
theorem d_G_insideOf_19 : decode b_G_insideOf 19 = .ok (.iconst 0, 1) := by decide +kernel
theorem d_G_insideOf_20 : decode b_G_insideOf 20 = .ok (.ireturn, 1) := by decide +kernel
theorem d_R_init_0 : decode b_R_init 0 = .ok (.aload_n 0, 1) := by decide +kernel
theorem d_R_init_1 : decode b_R_init 1 = .ok (.invokespecial 3, 3) := by decide +kernel
theorem d_R_init_4 : decode b_R_init 4 = .ok (.aload_n 0, 1) := by decide +kernel
theorem d_R_init_5 : decode b_R_init 5 = .ok (.iload_n 1, 1) := by decide +kernel
theorem d_R_init_6 : decode b_R_init 6 = .ok (.putfield 9, 3) := by decide +kernel
theorem d_R_init_9 : decode b_R_init 9 = .ok (.aload_n 0, 1) := by decide +kernel
theorem d_R_init_10 : decode b_R_init 10 = .ok (.iload_n 2, 1) := by decide +kernel
theorem d_R_init_11 : decode b_R_init 11 = .ok (.putfield 15, 3) := by decide +kernel
theorem d_R_init_14 : decode b_R_init 14 = .ok (.aload_n 0, 1) := by decide +kernel
theorem d_R_init_15 : decode b_R_init 15 = .ok (.iload_n 3, 1) := by decide +kernel
theorem d_R_init_16 : decode b_R_init 16 = .ok (.putfield 18, 3) := by decide +kernel
theorem d_R_init_19 : decode b_R_init 19 = .ok (.aload_n 0, 1) := by decide +kernel
theorem d_R_init_20 : decode b_R_init 20 = .ok (.iload 5, 2) := by decide +kernel
theorem d_R_init_22 : decode b_R_init 22 = .ok (.putfield 21, 3) := by decide +kernel
theorem d_R_init_25 : decode b_R_init 25 = .ok (.aload_n 0, 1) := by decide +kernel
theorem d_R_init_26 : decode b_R_init 26 = .ok (.iload 6, 2) := by decide +kernel
theorem d_R_init_28 : decode b_R_init 28 = .ok (.putfield 24, 3) := by decide +kernel
theorem d_R_init_31 : decode b_R_init 31 = .ok (.aload_n 0, 1) := by decide +kernel
theorem d_R_init_32 : decode b_R_init 32 = .ok (.iload 7, 2) := by decide +kernel
theorem d_R_init_34 : decode b_R_init 34 = .ok (.putfield 27, 3) := by decide +kernel
theorem d_R_init_37 : decode b_R_init 37 = .ok (.aload_n 0, 1) := by decide +kernel
theorem d_R_init_38 : decode b_R_init 38 = .ok (.iconst 0, 1) := by decide +kernel
theorem d_R_init_39 : decode b_R_init 39 = .ok (.putfield 30, 3) := by decide +kernel
theorem d_R_init_42 : decode b_R_init 42 = .ok (.aload_n 0, 1) := by decide +kernel
theorem d_R_init_43 : decode b_R_init 43 = .ok (.iconst 0, 1) := by decide +kernel
theorem d_R_init_44 : decode b_R_init 44 = .ok (.putfield 33, 3) := by decide +kernel
theorem d_R_init_47 : decode b_R_init 47 = .ok (.aload_n 0, 1) := by decide +kernel
theorem d_R_init_48 : decode b_R_init 48 = .ok (.bipush 8, 2) := by decide +kernel
theorem d_R_init_50 : decode b_R_init 50 = .ok (.newarray .int, 2) := by decide +kernel
theorem d_R_init_52 : decode b_R_init 52 = .ok (.putfield 36, 3) := by decide +kernel
theorem d_R_init_55 : decode b_R_init 55 = .ok (.aload_n 0, 1) := by decide +kernel
theorem d_R_init_56 : decode b_R_init 56 = .ok (.bipush 8, 2) := by decide +kernel
theorem d_R_init_58 : decode b_R_init 58 = .ok (.newarray .int, 2) := by decide +kernel
theorem d_R_init_60 : decode b_R_init 60 = .ok (.putfield 40, 3) := by decide +kernel
theorem d_R_init_63 : decode b_R_init 63 = .ok (.aload_n 0, 1) := by decide +kernel
theorem d_R_init_64 : decode b_R_init 64 = .ok (.getfield 36, 3) := by decide +kernel
theorem d_R_init_67 : decode b_R_init 67 = .ok (.iconst 0, 1) := by decide +kernel
theorem d_R_init_68 : decode b_R_init 68 = .ok (.iload 4, 2) := by decide +kernel
theorem d_R_init_70 : decode b_R_init 70 = .ok (.iastore, 1) := by decide +kernel
theorem d_R_init_71 : decode b_R_init 71 = .ok (.aload_n 0, 1) := by decide +kernel
theorem d_R_init_72 : decode b_R_init 72 = .ok (.getfield 40, 3) := by decide +kernel
theorem d_R_init_75 : decode b_R_init 75 = .ok (.iconst 0, 1) := by decide +kernel
theorem d_R_init_76 : decode b_R_init 76 = .ok (.iload 7, 2) := by decide +kernel
theorem d_R_init_78 : decode b_R_init 78 = .ok (.iastore, 1) := by decide +kernel
theorem d_R_init_79 : decode b_R_init 79 = .ok (.aload_n 0, 1) := by decide +kernel
theorem d_R_init_80 : decode b_R_init 80 = .ok (.iconst 1, 1) := by decide +kernel
theorem d_R_init_81 : decode b_R_init 81 = .ok (.putfield 43, 3) := by decide +kernel
theorem d_R_init_84 : decode b_R_init 84 = .ok (.return_, 1) := by decide +kernel
theorem d_R_leaveOut_0 : decode b_R_leaveOut 0 = .ok (.aload_n 0, 1) := by decide +kernel
theorem d_R_leaveOut_1 : decode b_R_leaveOut 1 = .ok (.getfield 30, 3) := by decide +kernel
theorem d_R_leaveOut_4 : decode b_R_leaveOut 4 = .ok (.iload_n 1, 1) := by decide +kernel
theorem d_R_leaveOut_5 : decode b_R_leaveOut 5 = .ok (.invokestatic 46, 3) := by decide +kernel
theorem d_R_leaveOut_8 : decode b_R_leaveOut 8 = .ok (.ifCond .ne 5, 3) := by decide +kernel
theorem d_R_leaveOut_11 : decode b_R_leaveOut 11 = .ok (.iconst 0, 1) := by decide +kernel
theorem d_R_leaveOut_12 : decode b_R_leaveOut 12 = .ok (.ireturn, 1) := by decide +kernel
theorem d_R_leaveOut_13 : decode b_R_leaveOut 13 = .ok (.aload_n 0, 1) := by decide +kernel
theorem d_R_leaveOut_14 : decode b_R_leaveOut 14 = .ok (.dup, 1) := by decide +kernel
theorem d_R_leaveOut_15 : decode b_R_leaveOut 15 = .ok (.getfield 30, 3) := by decide +kernel
theorem d_R_leaveOut_18 : decode b_R_leaveOut 18 = .ok (.iconst 1, 1) := by decide +kernel
theorem d_R_leaveOut_19 : decode b_R_leaveOut 19 = .ok (.iload_n 1, 1) := by decide +kernel
theorem d_R_leaveOut_20 : decode b_R_leaveOut 20 = .ok (.ishl, 1) := by decide +kernel
theorem d_R_leaveOut_21 : decode b_R_leaveOut 21 = .ok (.ior, 1) := by decide +kernel
theorem d_R_leaveOut_22 : decode b_R_leaveOut 22 = .ok (.putfield 30, 3) := by decide +kernel
theorem d_R_leaveOut_25 : decode b_R_leaveOut 25 = .ok (.iconst 1, 1) := by decide +kernel
theorem d_R_leaveOut_26 : decode b_R_leaveOut 26 = .ok (.ireturn, 1) := by decide +kernel
theorem d_R_want_0 : decode b_R_want 0 = .ok (.aload_n 0, 1) := by decide +kernel
theorem d_R_want_1 : decode b_R_want 1 = .ok (.getfield 33, 3) := by decide +kernel
theorem d_R_want_4 : decode b_R_want 4 = .ok (.iload_n 1, 1) := by decide +kernel
theorem d_R_want_5 : decode b_R_want 5 = .ok (.invokestatic 46, 3) := by decide +kernel
theorem d_R_want_8 : decode b_R_want 8 = .ok (.ifCond .ne 5, 3) := by decide +kernel
theorem d_R_want_11 : decode b_R_want 11 = .ok (.iconst 0, 1) := by decide +kernel
theorem d_R_want_12 : decode b_R_want 12 = .ok (.ireturn, 1) := by decide +kernel
theorem d_R_want_13 : decode b_R_want 13 = .ok (.aload_n 0, 1) := by decide +kernel
theorem d_R_want_14 : decode b_R_want 14 = .ok (.dup, 1) := by decide +kernel
theorem d_R_want_15 : decode b_R_want 15 = .ok (.getfield 33, 3) := by decide +kernel
theorem d_R_want_18 : decode b_R_want 18 = .ok (.iconst 1, 1) := by decide +kernel
theorem d_R_want_19 : decode b_R_want 19 = .ok (.iload_n 1, 1) := by decide +kernel
theorem d_R_want_20 : decode b_R_want 20 = .ok (.ishl, 1) := by decide +kernel
theorem d_R_want_21 : decode b_R_want 21 = .ok (.ior, 1) := by decide +kernel
theorem d_R_want_22 : decode b_R_want 22 = .ok (.putfield 33, 3) := by decide +kernel
theorem d_R_want_25 : decode b_R_want 25 = .ok (.iconst 1, 1) := by decide +kernel
theorem d_R_want_26 : decode b_R_want 26 = .ok (.ireturn, 1) := by decide +kernel
theorem d_R_mayMark_0 : decode b_R_mayMark 0 = .ok (.iload_n 0, 1) := by decide +kernel
theorem d_R_mayMark_1 : decode b_R_mayMark 1 = .ok (.iload_n 1, 1) := by decide +kernel
theorem d_R_mayMark_2 : decode b_R_mayMark 2 = .ok (.invokestatic 50, 3) := by decide +kernel
theorem d_R_mayMark_5 : decode b_R_mayMark 5 = .ok (.ifCond .ne 15, 3) := by decide +kernel
theorem d_R_mayMark_8 : decode b_R_mayMark 8 = .ok (.iload_n 0, 1) := by decide +kernel
theorem d_R_mayMark_9 : decode b_R_mayMark 9 = .ok (.invokestatic 53, 3) := by decide +kernel
theorem d_R_mayMark_12 : decode b_R_mayMark 12 = .ok (.iconst 4, 1) := by decide +kernel
theorem d_R_mayMark_13 : decode b_R_mayMark 13 = .ok (.if_icmp .ge 7, 3) := by decide +kernel
theorem d_R_mayMark_16 : decode b_R_mayMark 16 = .ok (.iconst 1, 1) := by decide +kernel
theorem d_R_mayMark_17 : decode b_R_mayMark 17 = .ok (.goto 4, 3) := by decide +kernel
theorem d_R_mayMark_20 : decode b_R_mayMark 20 = .ok (.iconst 0, 1) := by decide +kernel
theorem d_R_mayMark_21 : decode b_R_mayMark 21 = .ok (.ireturn, 1) := by decide +kernel
theorem d_R_tell_0 : decode b_R_tell 0 = .ok (.aload_n 0, 1) := by decide +kernel
theorem d_R_tell_1 : decode b_R_tell 1 = .ok (.getfield 43, 3) := by decide +kernel
theorem d_R_tell_4 : decode b_R_tell 4 = .ok (.bipush 8, 2) := by decide +kernel
theorem d_R_tell_6 : decode b_R_tell 6 = .ok (.if_icmp .ge 33, 3) := by decide +kernel
theorem d_R_tell_9 : decode b_R_tell 9 = .ok (.aload_n 0, 1) := by decide +kernel
theorem d_R_tell_10 : decode b_R_tell 10 = .ok (.getfield 36, 3) := by decide +kernel
theorem d_R_tell_13 : decode b_R_tell 13 = .ok (.aload_n 0, 1) := by decide +kernel
theorem d_R_tell_14 : decode b_R_tell 14 = .ok (.getfield 43, 3) := by decide +kernel
theorem d_R_tell_17 : decode b_R_tell 17 = .ok (.iload_n 1, 1) := by decide +kernel
theorem d_R_tell_18 : decode b_R_tell 18 = .ok (.iastore, 1) := by decide +kernel
theorem d_R_tell_19 : decode b_R_tell 19 = .ok (.aload_n 0, 1) := by decide +kernel
theorem d_R_tell_20 : decode b_R_tell 20 = .ok (.getfield 40, 3) := by decide +kernel
theorem d_R_tell_23 : decode b_R_tell 23 = .ok (.aload_n 0, 1) := by decide +kernel
theorem d_R_tell_24 : decode b_R_tell 24 = .ok (.getfield 43, 3) := by decide +kernel
theorem d_R_tell_27 : decode b_R_tell 27 = .ok (.iload_n 2, 1) := by decide +kernel
theorem d_R_tell_28 : decode b_R_tell 28 = .ok (.iastore, 1) := by decide +kernel
theorem d_R_tell_29 : decode b_R_tell 29 = .ok (.aload_n 0, 1) := by decide +kernel
theorem d_R_tell_30 : decode b_R_tell 30 = .ok (.dup, 1) := by decide +kernel
theorem d_R_tell_31 : decode b_R_tell 31 = .ok (.getfield 43, 3) := by decide +kernel
theorem d_R_tell_34 : decode b_R_tell 34 = .ok (.iconst 1, 1) := by decide +kernel
theorem d_R_tell_35 : decode b_R_tell 35 = .ok (.iadd, 1) := by decide +kernel
theorem d_R_tell_36 : decode b_R_tell 36 = .ok (.putfield 43, 3) := by decide +kernel
theorem d_R_tell_39 : decode b_R_tell 39 = .ok (.return_, 1) := by decide +kernel
theorem d_R_lastDayAsOf_0 : decode b_R_lastDayAsOf 0 = .ok (.iconst (-1), 1) := by decide +kernel
theorem d_R_lastDayAsOf_1 : decode b_R_lastDayAsOf 1 = .ok (.istore_n 2, 1) := by decide +kernel
theorem d_R_lastDayAsOf_2 : decode b_R_lastDayAsOf 2 = .ok (.iconst (-1), 1) := by decide +kernel
theorem d_R_lastDayAsOf_3 : decode b_R_lastDayAsOf 3 = .ok (.istore_n 3, 1) := by decide +kernel
theorem d_R_lastDayAsOf_4 : decode b_R_lastDayAsOf 4 = .ok (.iconst 0, 1) := by decide +kernel
theorem d_R_lastDayAsOf_5 : decode b_R_lastDayAsOf 5 = .ok (.istore 4, 2) := by decide +kernel
theorem d_R_lastDayAsOf_7 : decode b_R_lastDayAsOf 7 = .ok (.iload 4, 2) := by decide +kernel
theorem d_R_lastDayAsOf_9 : decode b_R_lastDayAsOf 9 = .ok (.aload_n 0, 1) := by decide +kernel
theorem d_R_lastDayAsOf_10 : decode b_R_lastDayAsOf 10 = .ok (.getfield 43, 3) := by decide +kernel
theorem d_R_lastDayAsOf_13 : decode b_R_lastDayAsOf 13 = .ok (.if_icmp .ge 47, 3) := by decide +kernel
theorem d_R_lastDayAsOf_16 : decode b_R_lastDayAsOf 16 = .ok (.aload_n 0, 1) := by decide +kernel
theorem d_R_lastDayAsOf_17 : decode b_R_lastDayAsOf 17 = .ok (.getfield 40, 3) := by decide +kernel
theorem d_R_lastDayAsOf_20 : decode b_R_lastDayAsOf 20 = .ok (.iload 4, 2) := by decide +kernel
theorem d_R_lastDayAsOf_22 : decode b_R_lastDayAsOf 22 = .ok (.iaload, 1) := by decide +kernel
theorem d_R_lastDayAsOf_23 : decode b_R_lastDayAsOf 23 = .ok (.iload_n 1, 1) := by decide +kernel
theorem d_R_lastDayAsOf_24 : decode b_R_lastDayAsOf 24 = .ok (.if_icmp .gt 30, 3) := by decide +kernel
theorem d_R_lastDayAsOf_27 : decode b_R_lastDayAsOf 27 = .ok (.aload_n 0, 1) := by decide +kernel
theorem d_R_lastDayAsOf_28 : decode b_R_lastDayAsOf 28 = .ok (.getfield 40, 3) := by decide +kernel
theorem d_R_lastDayAsOf_31 : decode b_R_lastDayAsOf 31 = .ok (.iload 4, 2) := by decide +kernel
theorem d_R_lastDayAsOf_33 : decode b_R_lastDayAsOf 33 = .ok (.iaload, 1) := by decide +kernel
theorem d_R_lastDayAsOf_34 : decode b_R_lastDayAsOf 34 = .ok (.iload_n 3, 1) := by decide +kernel
theorem d_R_lastDayAsOf_35 : decode b_R_lastDayAsOf 35 = .ok (.if_icmp .lt 19, 3) := by decide +kernel
theorem d_R_lastDayAsOf_38 : decode b_R_lastDayAsOf 38 = .ok (.aload_n 0, 1) := by decide +kernel
theorem d_R_lastDayAsOf_39 : decode b_R_lastDayAsOf 39 = .ok (.getfield 40, 3) := by decide +kernel
theorem d_R_lastDayAsOf_42 : decode b_R_lastDayAsOf 42 = .ok (.iload 4, 2) := by decide +kernel
theorem d_R_lastDayAsOf_44 : decode b_R_lastDayAsOf 44 = .ok (.iaload, 1) := by decide +kernel
theorem d_R_lastDayAsOf_45 : decode b_R_lastDayAsOf 45 = .ok (.istore_n 3, 1) := by decide +kernel
theorem d_R_lastDayAsOf_46 : decode b_R_lastDayAsOf 46 = .ok (.aload_n 0, 1) := by decide +kernel
theorem d_R_lastDayAsOf_47 : decode b_R_lastDayAsOf 47 = .ok (.getfield 36, 3) := by decide +kernel
theorem d_R_lastDayAsOf_50 : decode b_R_lastDayAsOf 50 = .ok (.iload 4, 2) := by decide +kernel
theorem d_R_lastDayAsOf_52 : decode b_R_lastDayAsOf 52 = .ok (.iaload, 1) := by decide +kernel
theorem d_R_lastDayAsOf_53 : decode b_R_lastDayAsOf 53 = .ok (.istore_n 2, 1) := by decide +kernel
theorem d_R_lastDayAsOf_54 : decode b_R_lastDayAsOf 54 = .ok (.iinc 4 1, 3) := by decide +kernel
theorem d_R_lastDayAsOf_57 : decode b_R_lastDayAsOf 57 = .ok (.goto (-50), 3) := by decide +kernel
theorem d_R_lastDayAsOf_60 : decode b_R_lastDayAsOf 60 = .ok (.iload_n 2, 1) := by decide +kernel
theorem d_R_lastDayAsOf_61 : decode b_R_lastDayAsOf 61 = .ok (.ireturn, 1) := by decide +kernel
theorem d_R_lastsOn_0 : decode b_R_lastsOn 0 = .ok (.aload_n 0, 1) := by decide +kernel
theorem d_R_lastsOn_1 : decode b_R_lastsOn 1 = .ok (.iload_n 1, 1) := by decide +kernel
theorem d_R_lastsOn_2 : decode b_R_lastsOn 2 = .ok (.iload_n 1, 1) := by decide +kernel
theorem d_R_lastsOn_3 : decode b_R_lastsOn 3 = .ok (.iload_n 2, 1) := by decide +kernel
theorem d_R_lastsOn_4 : decode b_R_lastsOn 4 = .ok (.invokevirtual 59, 3) := by decide +kernel
theorem d_R_lastsOn_7 : decode b_R_lastsOn 7 = .ok (.ireturn, 1) := by decide +kernel
theorem d_R_meets_0 : decode b_R_meets 0 = .ok (.aload_n 0, 1) := by decide +kernel
theorem d_R_meets_1 : decode b_R_meets 1 = .ok (.getfield 18, 3) := by decide +kernel
theorem d_R_meets_4 : decode b_R_meets 4 = .ok (.iload_n 2, 1) := by decide +kernel
theorem d_R_meets_5 : decode b_R_meets 5 = .ok (.if_icmp .gt 16, 3) := by decide +kernel
theorem d_R_meets_8 : decode b_R_meets 8 = .ok (.iload_n 1, 1) := by decide +kernel
theorem d_R_meets_9 : decode b_R_meets 9 = .ok (.aload_n 0, 1) := by decide +kernel
theorem d_R_meets_10 : decode b_R_meets 10 = .ok (.iload_n 3, 1) := by decide +kernel
theorem d_R_meets_11 : decode b_R_meets 11 = .ok (.invokevirtual 63, 3) := by decide +kernel
theorem d_R_meets_14 : decode b_R_meets 14 = .ok (.if_icmp .gt 7, 3) := by decide +kernel
theorem d_R_meets_17 : decode b_R_meets 17 = .ok (.iconst 1, 1) := by decide +kernel
theorem d_R_meets_18 : decode b_R_meets 18 = .ok (.goto 4, 3) := by decide +kernel
theorem d_R_meets_21 : decode b_R_meets 21 = .ok (.iconst 0, 1) := by decide +kernel
theorem d_R_meets_22 : decode b_R_meets 22 = .ok (.ireturn, 1) := by decide +kernel
theorem d_R_isAlike_0 : decode b_R_isAlike 0 = .ok (.aload_n 0, 1) := by decide +kernel
theorem d_R_isAlike_1 : decode b_R_isAlike 1 = .ok (.getfield 9, 3) := by decide +kernel
theorem d_R_isAlike_4 : decode b_R_isAlike 4 = .ok (.iload_n 1, 1) := by decide +kernel
theorem d_R_isAlike_5 : decode b_R_isAlike 5 = .ok (.if_icmp .ne 32, 3) := by decide +kernel
theorem d_R_isAlike_8 : decode b_R_isAlike 8 = .ok (.aload_n 0, 1) := by decide +kernel
theorem d_R_isAlike_9 : decode b_R_isAlike 9 = .ok (.getfield 15, 3) := by decide +kernel
theorem d_R_isAlike_12 : decode b_R_isAlike 12 = .ok (.iload_n 2, 1) := by decide +kernel
theorem d_R_isAlike_13 : decode b_R_isAlike 13 = .ok (.if_icmp .ne 24, 3) := by decide +kernel
theorem d_R_isAlike_16 : decode b_R_isAlike 16 = .ok (.aload_n 0, 1) := by decide +kernel
theorem d_R_isAlike_17 : decode b_R_isAlike 17 = .ok (.getfield 21, 3) := by decide +kernel
theorem d_R_isAlike_20 : decode b_R_isAlike 20 = .ok (.iload_n 3, 1) := by decide +kernel
theorem d_R_isAlike_21 : decode b_R_isAlike 21 = .ok (.if_icmp .ne 16, 3) := by decide +kernel
theorem d_R_isAlike_24 : decode b_R_isAlike 24 = .ok (.aload_n 0, 1) := by decide +kernel
theorem d_R_isAlike_25 : decode b_R_isAlike 25 = .ok (.getfield 24, 3) := by decide +kernel
theorem d_R_isAlike_28 : decode b_R_isAlike 28 = .ok (.iload 4, 2) := by decide +kernel
theorem d_R_isAlike_30 : decode b_R_isAlike 30 = .ok (.if_icmp .ne 7, 3) := by decide +kernel
theorem d_R_isAlike_33 : decode b_R_isAlike 33 = .ok (.iconst 1, 1) := by decide +kernel
theorem d_R_isAlike_34 : decode b_R_isAlike 34 = .ok (.goto 4, 3) := by decide +kernel
theorem d_R_isAlike_37 : decode b_R_isAlike 37 = .ok (.iconst 0, 1) := by decide +kernel
theorem d_R_isAlike_38 : decode b_R_isAlike 38 = .ok (.ireturn, 1) := by decide +kernel
theorem d_R_leavesOut_0 : decode b_R_leavesOut 0 = .ok (.aload_n 0, 1) := by decide +kernel
theorem d_R_leavesOut_1 : decode b_R_leavesOut 1 = .ok (.getfield 30, 3) := by decide +kernel
theorem d_R_leavesOut_4 : decode b_R_leavesOut 4 = .ok (.iload_n 1, 1) := by decide +kernel
theorem d_R_leavesOut_5 : decode b_R_leavesOut 5 = .ok (.invokestatic 50, 3) := by decide +kernel
theorem d_R_leavesOut_8 : decode b_R_leavesOut 8 = .ok (.ireturn, 1) := by decide +kernel
theorem d_R_isContentWith_0 : decode b_R_isContentWith 0 = .ok (.aload_n 0, 1) := by decide +kernel
theorem d_R_isContentWith_1 : decode b_R_isContentWith 1 = .ok (.getfield 33, 3) := by decide +kernel
theorem d_R_isContentWith_4 : decode b_R_isContentWith 4 = .ok (.ifCond .eq 12, 3) := by decide +kernel
theorem d_R_isContentWith_7 : decode b_R_isContentWith 7 = .ok (.aload_n 0, 1) := by decide +kernel
theorem d_R_isContentWith_8 : decode b_R_isContentWith 8 = .ok (.getfield 33, 3) := by decide +kernel
theorem d_R_isContentWith_11 : decode b_R_isContentWith 11 = .ok (.iload_n 1, 1) := by decide +kernel
theorem d_R_isContentWith_12 : decode b_R_isContentWith 12 = .ok (.iand, 1) := by decide +kernel
theorem d_R_isContentWith_13 : decode b_R_isContentWith 13 = .ok (.ifCond .eq 7, 3) := by decide +kernel
theorem d_R_isContentWith_16 : decode b_R_isContentWith 16 = .ok (.iconst 1, 1) := by decide +kernel
theorem d_R_isContentWith_17 : decode b_R_isContentWith 17 = .ok (.goto 4, 3) := by decide +kernel
theorem d_R_isContentWith_20 : decode b_R_isContentWith 20 = .ok (.iconst 0, 1) := by decide +kernel
theorem d_R_isContentWith_21 : decode b_R_isContentWith 21 = .ok (.ireturn, 1) := by decide +kernel
theorem d_R_weight_0 : decode b_R_weight 0 = .ok (.aload_n 0, 1) := by decide +kernel
theorem d_R_weight_1 : decode b_R_weight 1 = .ok (.getfield 9, 3) := by decide +kernel
theorem d_R_weight_4 : decode b_R_weight 4 = .ok (.invokestatic 66, 3) := by decide +kernel
theorem d_R_weight_7 : decode b_R_weight 7 = .ok (.bipush 10, 2) := by decide +kernel
theorem d_R_weight_9 : decode b_R_weight 9 = .ok (.imul, 1) := by decide +kernel
theorem d_R_weight_10 : decode b_R_weight 10 = .ok (.aload_n 0, 1) := by decide +kernel
theorem d_R_weight_11 : decode b_R_weight 11 = .ok (.getfield 24, 3) := by decide +kernel
theorem d_R_weight_14 : decode b_R_weight 14 = .ok (.iadd, 1) := by decide +kernel
theorem d_R_weight_15 : decode b_R_weight 15 = .ok (.ireturn, 1) := by decide +kernel
end
section
theorem d_D_init_0 : decode b_D_init 0 = .ok (.aload_n 0, 1) := by decide +kernel
theorem d_D_init_1 : decode b_D_init 1 = .ok (.invokespecial 1, 3) := by decide +kernel
theorem d_D_init_4 : decode b_D_init 4 = .ok (.aload_n 0, 1) := by decide +kernel
theorem d_D_init_5 : decode b_D_init 5 = .ok (.bipush 8, 2) := by decide +kernel
theorem d_D_init_7 : decode b_D_init 7 = .ok (.newarray .int, 2) := by decide +kernel
theorem d_D_init_9 : decode b_D_init 9 = .ok (.putfield 7, 3) := by decide +kernel
theorem d_D_init_12 : decode b_D_init 12 = .ok (.aload_n 0, 1) := by decide +kernel
theorem d_D_init_13 : decode b_D_init 13 = .ok (.bipush 81, 2) := by decide +kernel
theorem d_D_init_15 : decode b_D_init 15 = .ok (.newarray .int, 2) := by decide +kernel
theorem d_D_init_17 : decode b_D_init 17 = .ok (.putfield 13, 3) := by decide +kernel
theorem d_D_init_20 : decode b_D_init 20 = .ok (.aload_n 0, 1) := by decide +kernel
theorem d_D_init_21 : decode b_D_init 21 = .ok (.bipush 81, 2) := by decide +kernel
theorem d_D_init_23 : decode b_D_init 23 = .ok (.newarray .int, 2) := by decide +kernel
theorem d_D_init_25 : decode b_D_init 25 = .ok (.putfield 16, 3) := by decide +kernel
theorem d_D_init_28 : decode b_D_init 28 = .ok (.aload_n 0, 1) := by decide +kernel
theorem d_D_init_29 : decode b_D_init 29 = .ok (.bipush 81, 2) := by decide +kernel
theorem d_D_init_31 : decode b_D_init 31 = .ok (.newarray .int, 2) := by decide +kernel
theorem d_D_init_33 : decode b_D_init 33 = .ok (.putfield 19, 3) := by decide +kernel
theorem d_D_init_36 : decode b_D_init 36 = .ok (.aload_n 0, 1) := by decide +kernel
theorem d_D_init_37 : decode b_D_init 37 = .ok (.bipush 81, 2) := by decide +kernel
theorem d_D_init_39 : decode b_D_init 39 = .ok (.newarray .int, 2) := by decide +kernel
theorem d_D_init_41 : decode b_D_init 41 = .ok (.putfield 22, 3) := by decide +kernel
theorem d_D_init_44 : decode b_D_init 44 = .ok (.aload_n 0, 1) := by decide +kernel
theorem d_D_init_45 : decode b_D_init 45 = .ok (.bipush 81, 2) := by decide +kernel
theorem d_D_init_47 : decode b_D_init 47 = .ok (.newarray .int, 2) := by decide +kernel
theorem d_D_init_49 : decode b_D_init 49 = .ok (.putfield 25, 3) := by decide +kernel
theorem d_D_init_52 : decode b_D_init 52 = .ok (.aload_n 0, 1) := by decide +kernel
theorem d_D_init_53 : decode b_D_init 53 = .ok (.bipush 81, 2) := by decide +kernel
theorem d_D_init_55 : decode b_D_init 55 = .ok (.newarray .int, 2) := by decide +kernel
theorem d_D_init_57 : decode b_D_init 57 = .ok (.putfield 28, 3) := by decide +kernel
theorem d_D_init_60 : decode b_D_init 60 = .ok (.aload_n 0, 1) := by decide +kernel
theorem d_D_init_61 : decode b_D_init 61 = .ok (.bipush 81, 2) := by decide +kernel
theorem d_D_init_63 : decode b_D_init 63 = .ok (.newarray .int, 2) := by decide +kernel
theorem d_D_init_65 : decode b_D_init 65 = .ok (.putfield 31, 3) := by decide +kernel
theorem d_D_init_68 : decode b_D_init 68 = .ok (.aload_n 0, 1) := by decide +kernel
theorem d_D_init_69 : decode b_D_init 69 = .ok (.bipush 81, 2) := by decide +kernel
theorem d_D_init_71 : decode b_D_init 71 = .ok (.newarray .int, 2) := by decide +kernel
theorem d_D_init_73 : decode b_D_init 73 = .ok (.putfield 34, 3) := by decide +kernel
theorem d_D_init_76 : decode b_D_init 76 = .ok (.aload_n 0, 1) := by decide +kernel
theorem d_D_init_77 : decode b_D_init 77 = .ok (.bipush 81, 2) := by decide +kernel
theorem d_D_init_79 : decode b_D_init 79 = .ok (.newarray .int, 2) := by decide +kernel
theorem d_D_init_81 : decode b_D_init 81 = .ok (.putfield 37, 3) := by decide +kernel
theorem d_D_init_84 : decode b_D_init 84 = .ok (.aload_n 0, 1) := by decide +kernel
theorem d_D_init_85 : decode b_D_init 85 = .ok (.sipush 648, 3) := by decide +kernel
theorem d_D_init_88 : decode b_D_init 88 = .ok (.newarray .int, 2) := by decide +kernel
theorem d_D_init_90 : decode b_D_init 90 = .ok (.putfield 40, 3) := by decide +kernel
theorem d_D_init_93 : decode b_D_init 93 = .ok (.aload_n 0, 1) := by decide +kernel
theorem d_D_init_94 : decode b_D_init 94 = .ok (.sipush 648, 3) := by decide +kernel
theorem d_D_init_97 : decode b_D_init 97 = .ok (.newarray .int, 2) := by decide +kernel
theorem d_D_init_99 : decode b_D_init 99 = .ok (.putfield 43, 3) := by decide +kernel
theorem d_D_init_102 : decode b_D_init 102 = .ok (.aload_n 0, 1) := by decide +kernel
theorem d_D_init_103 : decode b_D_init 103 = .ok (.bipush 80, 2) := by decide +kernel
theorem d_D_init_105 : decode b_D_init 105 = .ok (.newarray .int, 2) := by decide +kernel
theorem d_D_init_107 : decode b_D_init 107 = .ok (.putfield 46, 3) := by decide +kernel
theorem d_D_init_110 : decode b_D_init 110 = .ok (.aload_n 0, 1) := by decide +kernel
theorem d_D_init_111 : decode b_D_init 111 = .ok (.bipush 81, 2) := by decide +kernel
theorem d_D_init_113 : decode b_D_init 113 = .ok (.newarray .boolean, 2) := by decide +kernel
theorem d_D_init_115 : decode b_D_init 115 = .ok (.putfield 49, 3) := by decide +kernel
theorem d_D_init_118 : decode b_D_init 118 = .ok (.return_, 1) := by decide +kernel
theorem d_D_thrown_0 : decode b_D_thrown 0 = .ok (.aload_n 0, 1) := by decide +kernel
theorem d_D_thrown_1 : decode b_D_thrown 1 = .ok (.getfield 53, 3) := by decide +kernel
theorem d_D_thrown_4 : decode b_D_thrown 4 = .ok (.ireturn, 1) := by decide +kernel
theorem d_D_fails_0 : decode b_D_fails 0 = .ok (.aload_n 0, 1) := by decide +kernel
theorem d_D_fails_1 : decode b_D_fails 1 = .ok (.iload_n 1, 1) := by decide +kernel
theorem d_D_fails_2 : decode b_D_fails 2 = .ok (.putfield 53, 3) := by decide +kernel
theorem d_D_fails_5 : decode b_D_fails 5 = .ok (.iconst 0, 1) := by decide +kernel
theorem d_D_fails_6 : decode b_D_fails 6 = .ok (.ireturn, 1) := by decide +kernel
theorem d_D_in_0 : decode b_D_in 0 = .ok (.iload_n 0, 1) := by decide +kernel
theorem d_D_in_1 : decode b_D_in 1 = .ok (.iload_n 1, 1) := by decide +kernel
theorem d_D_in_2 : decode b_D_in 2 = .ok (.if_icmp .lt 12, 3) := by decide +kernel
theorem d_D_in_5 : decode b_D_in 5 = .ok (.iload_n 0, 1) := by decide +kernel
theorem d_D_in_6 : decode b_D_in 6 = .ok (.iload_n 2, 1) := by decide +kernel
theorem d_D_in_7 : decode b_D_in 7 = .ok (.if_icmp .gt 7, 3) := by decide +kernel
theorem d_D_in_10 : decode b_D_in 10 = .ok (.iconst 1, 1) := by decide +kernel
theorem d_D_in_11 : decode b_D_in 11 = .ok (.goto 4, 3) := by decide +kernel
theorem d_D_in_14 : decode b_D_in 14 = .ok (.iconst 0, 1) := by decide +kernel
theorem d_D_in_15 : decode b_D_in 15 = .ok (.ireturn, 1) := by decide +kernel
theorem d_D_isGroup_0 : decode b_D_isGroup 0 = .ok (.iload_n 0, 1) := by decide +kernel
theorem d_D_isGroup_1 : decode b_D_isGroup 1 = .ok (.bipush 16, 2) := by decide +kernel
theorem d_D_isGroup_3 : decode b_D_isGroup 3 = .ok (.bipush 23, 2) := by decide +kernel
theorem d_D_isGroup_5 : decode b_D_isGroup 5 = .ok (.invokestatic 57, 3) := by decide +kernel
theorem d_D_isGroup_8 : decode b_D_isGroup 8 = .ok (.ireturn, 1) := by decide +kernel
theorem d_D_isLand_0 : decode b_D_isLand 0 = .ok (.iload_n 0, 1) := by decide +kernel
theorem d_D_isLand_1 : decode b_D_isLand 1 = .ok (.iconst 0, 1) := by decide +kernel
theorem d_D_isLand_2 : decode b_D_isLand 2 = .ok (.bipush 15, 2) := by decide +kernel
theorem d_D_isLand_4 : decode b_D_isLand 4 = .ok (.invokestatic 57, 3) := by decide +kernel
theorem d_D_isLand_7 : decode b_D_isLand 7 = .ok (.ireturn, 1) := by decide +kernel
theorem d_D_isDay_0 : decode b_D_isDay 0 = .ok (.iload_n 0, 1) := by decide +kernel
theorem d_D_isDay_1 : decode b_D_isDay 1 = .ok (.iconst 0, 1) := by decide +kernel
theorem d_D_isDay_2 : decode b_D_isDay 2 = .ok (.sipush 10000, 3) := by decide +kernel
theorem d_D_isDay_5 : decode b_D_isDay 5 = .ok (.invokestatic 57, 3) := by decide +kernel
theorem d_D_isDay_8 : decode b_D_isDay 8 = .ok (.ireturn, 1) := by decide +kernel
theorem d_D_digits_0 : decode b_D_digits 0 = .ok (.iload_n 0, 1) := by decide +kernel
theorem d_D_digits_1 : decode b_D_digits 1 = .ok (.bipush 10, 2) := by decide +kernel
theorem d_D_digits_3 : decode b_D_digits 3 = .ok (.bipush 99, 2) := by decide +kernel
theorem d_D_digits_5 : decode b_D_digits 5 = .ok (.invokestatic 57, 3) := by decide +kernel
theorem d_D_digits_8 : decode b_D_digits 8 = .ok (.ifCond .eq 7, 3) := by decide +kernel
theorem d_D_digits_11 : decode b_D_digits 11 = .ok (.iconst 2, 1) := by decide +kernel
theorem d_D_digits_12 : decode b_D_digits 12 = .ok (.goto 37, 3) := by decide +kernel
theorem d_D_digits_15 : decode b_D_digits 15 = .ok (.iload_n 0, 1) := by decide +kernel
theorem d_D_digits_16 : decode b_D_digits 16 = .ok (.sipush 1000, 3) := by decide +kernel
theorem d_D_digits_19 : decode b_D_digits 19 = .ok (.sipush 9999, 3) := by decide +kernel
theorem d_D_digits_22 : decode b_D_digits 22 = .ok (.invokestatic 57, 3) := by decide +kernel
theorem d_D_digits_25 : decode b_D_digits 25 = .ok (.ifCond .eq 7, 3) := by decide +kernel
theorem d_D_digits_28 : decode b_D_digits 28 = .ok (.iconst 4, 1) := by decide +kernel
theorem d_D_digits_29 : decode b_D_digits 29 = .ok (.goto 20, 3) := by decide +kernel
theorem d_D_digits_32 : decode b_D_digits 32 = .ok (.iload_n 0, 1) := by decide +kernel
theorem d_D_digits_33 : decode b_D_digits 33 = .ok (.ldc 61, 2) := by decide +kernel
theorem d_D_digits_35 : decode b_D_digits 35 = .ok (.ldc 62, 2) := by decide +kernel
theorem d_D_digits_37 : decode b_D_digits 37 = .ok (.invokestatic 57, 3) := by decide +kernel
theorem d_D_digits_40 : decode b_D_digits 40 = .ok (.ifCond .eq 8, 3) := by decide +kernel
theorem d_D_digits_43 : decode b_D_digits 43 = .ok (.bipush 6, 2) := by decide +kernel
theorem d_D_digits_45 : decode b_D_digits 45 = .ok (.goto 4, 3) := by decide +kernel
theorem d_D_digits_48 : decode b_D_digits 48 = .ok (.iconst 0, 1) := by decide +kernel
theorem d_D_digits_49 : decode b_D_digits 49 = .ok (.ireturn, 1) := by decide +kernel
theorem d_D_bits_0 : decode b_D_bits 0 = .ok (.iconst 0, 1) := by decide +kernel
theorem d_D_bits_1 : decode b_D_bits 1 = .ok (.istore_n 1, 1) := by decide +kernel
theorem d_D_bits_2 : decode b_D_bits 2 = .ok (.iconst 0, 1) := by decide +kernel
theorem d_D_bits_3 : decode b_D_bits 3 = .ok (.istore_n 2, 1) := by decide +kernel
theorem d_D_bits_4 : decode b_D_bits 4 = .ok (.iload_n 2, 1) := by decide +kernel
theorem d_D_bits_5 : decode b_D_bits 5 = .ok (.bipush 32, 2) := by decide +kernel
theorem d_D_bits_7 : decode b_D_bits 7 = .ok (.if_icmp .ge 17, 3) := by decide +kernel
theorem d_D_bits_10 : decode b_D_bits 10 = .ok (.iload_n 1, 1) := by decide +kernel
theorem d_D_bits_11 : decode b_D_bits 11 = .ok (.iload_n 0, 1) := by decide +kernel
theorem d_D_bits_12 : decode b_D_bits 12 = .ok (.iload_n 2, 1) := by decide +kernel
theorem d_D_bits_13 : decode b_D_bits 13 = .ok (.ishr, 1) := by decide +kernel
theorem d_D_bits_14 : decode b_D_bits 14 = .ok (.iconst 1, 1) := by decide +kernel
theorem d_D_bits_15 : decode b_D_bits 15 = .ok (.iand, 1) := by decide +kernel
theorem d_D_bits_16 : decode b_D_bits 16 = .ok (.iadd, 1) := by decide +kernel
theorem d_D_bits_17 : decode b_D_bits 17 = .ok (.istore_n 1, 1) := by decide +kernel
theorem d_D_bits_18 : decode b_D_bits 18 = .ok (.iinc 2 1, 3) := by decide +kernel
theorem d_D_bits_21 : decode b_D_bits 21 = .ok (.goto (-17), 3) := by decide +kernel
theorem d_D_bits_24 : decode b_D_bits 24 = .ok (.iload_n 1, 1) := by decide +kernel
theorem d_D_bits_25 : decode b_D_bits 25 = .ok (.ireturn, 1) := by decide +kernel
theorem d_D_all_0 : decode b_D_all 0 = .ok (.aload_n 0, 1) := by decide +kernel
theorem d_D_all_1 : decode b_D_all 1 = .ok (.getfield 7, 3) := by decide +kernel
theorem d_D_all_4 : decode b_D_all 4 = .ok (.iload_n 1, 1) := by decide +kernel
theorem d_D_all_5 : decode b_D_all 5 = .ok (.bipush 16, 2) := by decide +kernel
theorem d_D_all_7 : decode b_D_all 7 = .ok (.isub, 1) := by decide +kernel
theorem d_D_all_8 : decode b_D_all 8 = .ok (.iaload, 1) := by decide +kernel
theorem d_D_all_9 : decode b_D_all 9 = .ok (.istore_n 2, 1) := by decide +kernel
theorem d_D_all_10 : decode b_D_all 10 = .ok (.iconst 0, 1) := by decide +kernel
theorem d_D_all_11 : decode b_D_all 11 = .ok (.istore_n 3, 1) := by decide +kernel
theorem d_D_all_12 : decode b_D_all 12 = .ok (.iload_n 3, 1) := by decide +kernel
theorem d_D_all_13 : decode b_D_all 13 = .ok (.bipush 8, 2) := by decide +kernel
theorem d_D_all_15 : decode b_D_all 15 = .ok (.if_icmp .ge 48, 3) := by decide +kernel
theorem d_D_all_18 : decode b_D_all 18 = .ok (.iconst 0, 1) := by decide +kernel
theorem d_D_all_19 : decode b_D_all 19 = .ok (.istore 4, 2) := by decide +kernel
theorem d_D_all_21 : decode b_D_all 21 = .ok (.iload 4, 2) := by decide +kernel
theorem d_D_all_23 : decode b_D_all 23 = .ok (.bipush 8, 2) := by decide +kernel
theorem d_D_all_25 : decode b_D_all 25 = .ok (.if_icmp .ge 32, 3) := by decide +kernel
theorem d_D_all_28 : decode b_D_all 28 = .ok (.iload_n 2, 1) := by decide +kernel
theorem d_D_all_29 : decode b_D_all 29 = .ok (.bipush 16, 2) := by decide +kernel
theorem d_D_all_31 : decode b_D_all 31 = .ok (.iload 4, 2) := by decide +kernel
theorem d_D_all_33 : decode b_D_all 33 = .ok (.iadd, 1) := by decide +kernel
theorem d_D_all_34 : decode b_D_all 34 = .ok (.ishr, 1) := by decide +kernel
theorem d_D_all_35 : decode b_D_all 35 = .ok (.iconst 1, 1) := by decide +kernel
theorem d_D_all_36 : decode b_D_all 36 = .ok (.iand, 1) := by decide +kernel
theorem d_D_all_37 : decode b_D_all 37 = .ok (.iconst 1, 1) := by decide +kernel
theorem d_D_all_38 : decode b_D_all 38 = .ok (.if_icmp .ne 13, 3) := by decide +kernel
theorem d_D_all_41 : decode b_D_all 41 = .ok (.iload_n 2, 1) := by decide +kernel
theorem d_D_all_42 : decode b_D_all 42 = .ok (.aload_n 0, 1) := by decide +kernel
theorem d_D_all_43 : decode b_D_all 43 = .ok (.getfield 7, 3) := by decide +kernel
theorem d_D_all_46 : decode b_D_all 46 = .ok (.iload 4, 2) := by decide +kernel
theorem d_D_all_48 : decode b_D_all 48 = .ok (.iaload, 1) := by decide +kernel
theorem d_D_all_49 : decode b_D_all 49 = .ok (.ior, 1) := by decide +kernel
theorem d_D_all_50 : decode b_D_all 50 = .ok (.istore_n 2, 1) := by decide +kernel
theorem d_D_all_51 : decode b_D_all 51 = .ok (.iinc 4 1, 3) := by decide +kernel
theorem d_D_all_54 : decode b_D_all 54 = .ok (.goto (-33), 3) := by decide +kernel
theorem d_D_all_57 : decode b_D_all 57 = .ok (.iinc 3 1, 3) := by decide +kernel
theorem d_D_all_60 : decode b_D_all 60 = .ok (.goto (-48), 3) := by decide +kernel
theorem d_D_all_63 : decode b_D_all 63 = .ok (.iload_n 2, 1) := by decide +kernel
theorem d_D_all_64 : decode b_D_all 64 = .ok (.ireturn, 1) := by decide +kernel
theorem d_D_rings_0 : decode b_D_rings 0 = .ok (.iload_n 1, 1) := by decide +kernel
theorem d_D_rings_1 : decode b_D_rings 1 = .ok (.iload_n 2, 1) := by decide +kernel
theorem d_D_rings_2 : decode b_D_rings 2 = .ok (.if_icmp .eq 16, 3) := by decide +kernel
theorem d_D_rings_5 : decode b_D_rings 5 = .ok (.aload_n 0, 1) := by decide +kernel
theorem d_D_rings_6 : decode b_D_rings 6 = .ok (.iload_n 2, 1) := by decide +kernel
theorem d_D_rings_7 : decode b_D_rings 7 = .ok (.invokevirtual 63, 3) := by decide +kernel
theorem d_D_rings_10 : decode b_D_rings 10 = .ok (.iload_n 1, 1) := by decide +kernel
theorem d_D_rings_11 : decode b_D_rings 11 = .ok (.ishr, 1) := by decide +kernel
theorem d_D_rings_12 : decode b_D_rings 12 = .ok (.iconst 1, 1) := by decide +kernel
theorem d_D_rings_13 : decode b_D_rings 13 = .ok (.iand, 1) := by decide +kernel
theorem d_D_rings_14 : decode b_D_rings 14 = .ok (.iconst 1, 1) := by decide +kernel
theorem d_D_rings_15 : decode b_D_rings 15 = .ok (.if_icmp .ne 7, 3) := by decide +kernel
theorem d_D_rings_18 : decode b_D_rings 18 = .ok (.iconst 1, 1) := by decide +kernel
theorem d_D_rings_19 : decode b_D_rings 19 = .ok (.goto 4, 3) := by decide +kernel
theorem d_D_rings_22 : decode b_D_rings 22 = .ok (.iconst 0, 1) := by decide +kernel
theorem d_D_rings_23 : decode b_D_rings 23 = .ok (.ireturn, 1) := by decide +kernel
theorem d_D_isIn_0 : decode b_D_isIn 0 = .ok (.iload_n 2, 1) := by decide +kernel
theorem d_D_isIn_1 : decode b_D_isIn 1 = .ok (.bipush 31, 2) := by decide +kernel
theorem d_D_isIn_3 : decode b_D_isIn 3 = .ok (.if_icmp .eq 28, 3) := by decide +kernel
theorem d_D_isIn_6 : decode b_D_isIn 6 = .ok (.iload_n 2, 1) := by decide +kernel
theorem d_D_isIn_7 : decode b_D_isIn 7 = .ok (.iload_n 1, 1) := by decide +kernel
theorem d_D_isIn_8 : decode b_D_isIn 8 = .ok (.if_icmp .eq 23, 3) := by decide +kernel
theorem d_D_isIn_11 : decode b_D_isIn 11 = .ok (.iload_n 2, 1) := by decide +kernel
theorem d_D_isIn_12 : decode b_D_isIn 12 = .ok (.invokestatic 67, 3) := by decide +kernel
theorem d_D_isIn_15 : decode b_D_isIn 15 = .ok (.ifCond .eq 20, 3) := by decide +kernel
theorem d_D_isIn_18 : decode b_D_isIn 18 = .ok (.aload_n 0, 1) := by decide +kernel
theorem d_D_isIn_19 : decode b_D_isIn 19 = .ok (.iload_n 2, 1) := by decide +kernel
theorem d_D_isIn_20 : decode b_D_isIn 20 = .ok (.invokevirtual 63, 3) := by decide +kernel
theorem d_D_isIn_23 : decode b_D_isIn 23 = .ok (.iload_n 1, 1) := by decide +kernel
theorem d_D_isIn_24 : decode b_D_isIn 24 = .ok (.ishr, 1) := by decide +kernel
theorem d_D_isIn_25 : decode b_D_isIn 25 = .ok (.iconst 1, 1) := by decide +kernel
theorem d_D_isIn_26 : decode b_D_isIn 26 = .ok (.iand, 1) := by decide +kernel
theorem d_D_isIn_27 : decode b_D_isIn 27 = .ok (.iconst 1, 1) := by decide +kernel
theorem d_D_isIn_28 : decode b_D_isIn 28 = .ok (.if_icmp .ne 7, 3) := by decide +kernel
theorem d_D_isIn_31 : decode b_D_isIn 31 = .ok (.iconst 1, 1) := by decide +kernel
theorem d_D_isIn_32 : decode b_D_isIn 32 = .ok (.goto 4, 3) := by decide +kernel
theorem d_D_isIn_35 : decode b_D_isIn 35 = .ok (.iconst 0, 1) := by decide +kernel
theorem d_D_isIn_36 : decode b_D_isIn 36 = .ok (.ireturn, 1) := by decide +kernel
theorem d_D_member_0 : decode b_D_member 0 = .ok (.aload_n 0, 1) := by decide +kernel
theorem d_D_member_1 : decode b_D_member 1 = .ok (.iconst 0, 1) := by decide +kernel
theorem d_D_member_2 : decode b_D_member 2 = .ok (.putfield 53, 3) := by decide +kernel
theorem d_D_member_5 : decode b_D_member 5 = .ok (.iload_n 1, 1) := by decide +kernel
theorem d_D_member_6 : decode b_D_member 6 = .ok (.invokestatic 67, 3) := by decide +kernel
theorem d_D_member_9 : decode b_D_member 9 = .ok (.ifCond .eq 50, 3) := by decide +kernel
theorem d_D_member_12 : decode b_D_member 12 = .ok (.iload_n 2, 1) := by decide +kernel
theorem d_D_member_13 : decode b_D_member 13 = .ok (.invokestatic 71, 3) := by decide +kernel
theorem d_D_member_16 : decode b_D_member 16 = .ok (.ifCond .ne 10, 3) := by decide +kernel
theorem d_D_member_19 : decode b_D_member 19 = .ok (.iload_n 2, 1) := by decide +kernel
theorem d_D_member_20 : decode b_D_member 20 = .ok (.invokestatic 67, 3) := by decide +kernel
theorem d_D_member_23 : decode b_D_member 23 = .ok (.ifCond .eq 36, 3) := by decide +kernel
theorem d_D_member_26 : decode b_D_member 26 = .ok (.aload_n 0, 1) := by decide +kernel
theorem d_D_member_27 : decode b_D_member 27 = .ok (.getfield 7, 3) := by decide +kernel
theorem d_D_member_30 : decode b_D_member 30 = .ok (.iload_n 1, 1) := by decide +kernel
theorem d_D_member_31 : decode b_D_member 31 = .ok (.bipush 16, 2) := by decide +kernel
theorem d_D_member_33 : decode b_D_member 33 = .ok (.isub, 1) := by decide +kernel
theorem d_D_member_34 : decode b_D_member 34 = .ok (.iaload, 1) := by decide +kernel
theorem d_D_member_35 : decode b_D_member 35 = .ok (.iload_n 2, 1) := by decide +kernel
theorem d_D_member_36 : decode b_D_member 36 = .ok (.ishr, 1) := by decide +kernel
theorem d_D_member_37 : decode b_D_member 37 = .ok (.iconst 1, 1) := by decide +kernel
theorem d_D_member_38 : decode b_D_member 38 = .ok (.iand, 1) := by decide +kernel
theorem d_D_member_39 : decode b_D_member 39 = .ok (.iconst 1, 1) := by decide +kernel
theorem d_D_member_40 : decode b_D_member 40 = .ok (.if_icmp .eq 19, 3) := by decide +kernel
theorem d_D_member_43 : decode b_D_member 43 = .ok (.iload_n 2, 1) := by decide +kernel
theorem d_D_member_44 : decode b_D_member 44 = .ok (.invokestatic 67, 3) := by decide +kernel
theorem d_D_member_47 : decode b_D_member 47 = .ok (.ifCond .eq 14, 3) := by decide +kernel
theorem d_D_member_50 : decode b_D_member 50 = .ok (.aload_n 0, 1) := by decide +kernel
theorem d_D_member_51 : decode b_D_member 51 = .ok (.iload_n 1, 1) := by decide +kernel
theorem d_D_member_52 : decode b_D_member 52 = .ok (.iload_n 2, 1) := by decide +kernel
theorem d_D_member_53 : decode b_D_member 53 = .ok (.invokevirtual 74, 3) := by decide +kernel
theorem d_D_member_56 : decode b_D_member 56 = .ok (.ifCond .eq 5, 3) := by decide +kernel
theorem d_D_member_59 : decode b_D_member 59 = .ok (.iconst 0, 1) := by decide +kernel
theorem d_D_member_60 : decode b_D_member 60 = .ok (.ireturn, 1) := by decide +kernel
theorem d_D_member_61 : decode b_D_member 61 = .ok (.aload_n 0, 1) := by decide +kernel
theorem d_D_member_62 : decode b_D_member 62 = .ok (.getfield 7, 3) := by decide +kernel
theorem d_D_member_65 : decode b_D_member 65 = .ok (.iload_n 1, 1) := by decide +kernel
theorem d_D_member_66 : decode b_D_member 66 = .ok (.bipush 16, 2) := by decide +kernel
theorem d_D_member_68 : decode b_D_member 68 = .ok (.isub, 1) := by decide +kernel
theorem d_D_member_69 : decode b_D_member 69 = .ok (.dup2, 1) := by decide +kernel
theorem d_D_member_70 : decode b_D_member 70 = .ok (.iaload, 1) := by decide +kernel
theorem d_D_member_71 : decode b_D_member 71 = .ok (.iconst 1, 1) := by decide +kernel
theorem d_D_member_72 : decode b_D_member 72 = .ok (.iload_n 2, 1) := by decide +kernel
theorem d_D_member_73 : decode b_D_member 73 = .ok (.ishl, 1) := by decide +kernel
theorem d_D_member_74 : decode b_D_member 74 = .ok (.ior, 1) := by decide +kernel
theorem d_D_member_75 : decode b_D_member 75 = .ok (.iastore, 1) := by decide +kernel
theorem d_D_member_76 : decode b_D_member 76 = .ok (.iconst 1, 1) := by decide +kernel
theorem d_D_member_77 : decode b_D_member 77 = .ok (.ireturn, 1) := by decide +kernel
theorem d_D_ring_0 : decode b_D_ring 0 = .ok (.aload_n 0, 1) := by decide +kernel
theorem d_D_ring_1 : decode b_D_ring 1 = .ok (.iload_n 1, 1) := by decide +kernel
theorem d_D_ring_2 : decode b_D_ring 2 = .ok (.invokestatic 67, 3) := by decide +kernel
theorem d_D_ring_5 : decode b_D_ring 5 = .ok (.ifCond .eq 14, 3) := by decide +kernel
theorem d_D_ring_8 : decode b_D_ring 8 = .ok (.iload_n 2, 1) := by decide +kernel
theorem d_D_ring_9 : decode b_D_ring 9 = .ok (.invokestatic 67, 3) := by decide +kernel
theorem d_D_ring_12 : decode b_D_ring 12 = .ok (.ifCond .eq 7, 3) := by decide +kernel
theorem d_D_ring_15 : decode b_D_ring 15 = .ok (.iconst 0, 1) := by decide +kernel
theorem d_D_ring_16 : decode b_D_ring 16 = .ok (.goto 4, 3) := by decide +kernel
theorem d_D_ring_19 : decode b_D_ring 19 = .ok (.iconst 1, 1) := by decide +kernel
theorem d_D_ring_20 : decode b_D_ring 20 = .ok (.putfield 53, 3) := by decide +kernel
theorem d_D_ring_23 : decode b_D_ring 23 = .ok (.aload_n 0, 1) := by decide +kernel
theorem d_D_ring_24 : decode b_D_ring 24 = .ok (.getfield 53, 3) := by decide +kernel
theorem d_D_ring_27 : decode b_D_ring 27 = .ok (.ifCond .ne 16, 3) := by decide +kernel
theorem d_D_ring_30 : decode b_D_ring 30 = .ok (.aload_n 0, 1) := by decide +kernel
theorem d_D_ring_31 : decode b_D_ring 31 = .ok (.iload_n 1, 1) := by decide +kernel
theorem d_D_ring_32 : decode b_D_ring 32 = .ok (.iload_n 2, 1) := by decide +kernel
theorem d_D_ring_33 : decode b_D_ring 33 = .ok (.invokevirtual 74, 3) := by decide +kernel
theorem d_D_ring_36 : decode b_D_ring 36 = .ok (.ifCond .eq 7, 3) := by decide +kernel
theorem d_D_ring_39 : decode b_D_ring 39 = .ok (.iconst 1, 1) := by decide +kernel
theorem d_D_ring_40 : decode b_D_ring 40 = .ok (.goto 4, 3) := by decide +kernel
theorem d_D_ring_43 : decode b_D_ring 43 = .ok (.iconst 0, 1) := by decide +kernel
theorem d_D_ring_44 : decode b_D_ring 44 = .ok (.ireturn, 1) := by decide +kernel
theorem d_D_has_0 : decode b_D_has 0 = .ok (.aload_n 0, 1) := by decide +kernel
theorem d_D_has_1 : decode b_D_has 1 = .ok (.iload_n 1, 1) := by decide +kernel
theorem d_D_has_2 : decode b_D_has 2 = .ok (.invokestatic 67, 3) := by decide +kernel
theorem d_D_has_5 : decode b_D_has 5 = .ok (.ifCond .ne 9, 3) := by decide +kernel
theorem d_D_has_8 : decode b_D_has 8 = .ok (.iload_n 1, 1) := by decide +kernel
theorem d_D_has_9 : decode b_D_has 9 = .ok (.bipush 31, 2) := by decide +kernel
theorem d_D_has_11 : decode b_D_has 11 = .ok (.if_icmp .ne 14, 3) := by decide +kernel
theorem d_D_has_14 : decode b_D_has 14 = .ok (.iload_n 2, 1) := by decide +kernel
theorem d_D_has_15 : decode b_D_has 15 = .ok (.invokestatic 71, 3) := by decide +kernel
theorem d_D_has_18 : decode b_D_has 18 = .ok (.ifCond .eq 7, 3) := by decide +kernel
theorem d_D_has_21 : decode b_D_has 21 = .ok (.iconst 0, 1) := by decide +kernel
theorem d_D_has_22 : decode b_D_has 22 = .ok (.goto 4, 3) := by decide +kernel
theorem d_D_has_25 : decode b_D_has 25 = .ok (.iconst 1, 1) := by decide +kernel
theorem d_D_has_26 : decode b_D_has 26 = .ok (.putfield 53, 3) := by decide +kernel
theorem d_D_has_29 : decode b_D_has 29 = .ok (.aload_n 0, 1) := by decide +kernel
theorem d_D_has_30 : decode b_D_has 30 = .ok (.getfield 53, 3) := by decide +kernel
theorem d_D_has_33 : decode b_D_has 33 = .ok (.ifCond .ne 16, 3) := by decide +kernel
theorem d_D_has_36 : decode b_D_has 36 = .ok (.aload_n 0, 1) := by decide +kernel
theorem d_D_has_37 : decode b_D_has 37 = .ok (.iload_n 2, 1) := by decide +kernel
theorem d_D_has_38 : decode b_D_has 38 = .ok (.iload_n 1, 1) := by decide +kernel
theorem d_D_has_39 : decode b_D_has 39 = .ok (.invokevirtual 78, 3) := by decide +kernel
theorem d_D_has_42 : decode b_D_has 42 = .ok (.ifCond .eq 7, 3) := by decide +kernel
theorem d_D_has_45 : decode b_D_has 45 = .ok (.iconst 1, 1) := by decide +kernel
theorem d_D_has_46 : decode b_D_has 46 = .ok (.goto 4, 3) := by decide +kernel
theorem d_D_has_49 : decode b_D_has 49 = .ok (.iconst 0, 1) := by decide +kernel
theorem d_D_has_50 : decode b_D_has 50 = .ok (.ireturn, 1) := by decide +kernel
theorem d_D_isRow_0 : decode b_D_isRow 0 = .ok (.iload_n 1, 1) := by decide +kernel
theorem d_D_isRow_1 : decode b_D_isRow 1 = .ok (.iconst 1, 1) := by decide +kernel
theorem d_D_isRow_2 : decode b_D_isRow 2 = .ok (.if_icmp .lt 15, 3) := by decide +kernel
theorem d_D_isRow_5 : decode b_D_isRow 5 = .ok (.iload_n 1, 1) := by decide +kernel
theorem d_D_isRow_6 : decode b_D_isRow 6 = .ok (.aload_n 0, 1) := by decide +kernel
theorem d_D_isRow_7 : decode b_D_isRow 7 = .ok (.getfield 81, 3) := by decide +kernel
theorem d_D_isRow_10 : decode b_D_isRow 10 = .ok (.if_icmp .gt 7, 3) := by decide +kernel
theorem d_D_isRow_13 : decode b_D_isRow 13 = .ok (.iconst 1, 1) := by decide +kernel
theorem d_D_isRow_14 : decode b_D_isRow 14 = .ok (.goto 4, 3) := by decide +kernel
theorem d_D_isRow_17 : decode b_D_isRow 17 = .ok (.iconst 0, 1) := by decide +kernel
theorem d_D_isRow_18 : decode b_D_isRow 18 = .ok (.ireturn, 1) := by decide +kernel
theorem d_D_lastOf_0 : decode b_D_lastOf 0 = .ok (.iconst 0, 1) := by decide +kernel
theorem d_D_lastOf_1 : decode b_D_lastOf 1 = .ok (.istore_n 3, 1) := by decide +kernel
theorem d_D_lastOf_2 : decode b_D_lastOf 2 = .ok (.iconst 1, 1) := by decide +kernel
theorem d_D_lastOf_3 : decode b_D_lastOf 3 = .ok (.istore 4, 2) := by decide +kernel
theorem d_D_lastOf_5 : decode b_D_lastOf 5 = .ok (.iload 4, 2) := by decide +kernel
theorem d_D_lastOf_7 : decode b_D_lastOf 7 = .ok (.aload_n 0, 1) := by decide +kernel
theorem d_D_lastOf_8 : decode b_D_lastOf 8 = .ok (.getfield 37, 3) := by decide +kernel
theorem d_D_lastOf_11 : decode b_D_lastOf 11 = .ok (.iload_n 1, 1) := by decide +kernel
theorem d_D_lastOf_12 : decode b_D_lastOf 12 = .ok (.iaload, 1) := by decide +kernel
theorem d_D_lastOf_13 : decode b_D_lastOf 13 = .ok (.if_icmp .ge 72, 3) := by decide +kernel
theorem d_D_lastOf_16 : decode b_D_lastOf 16 = .ok (.bipush 8, 2) := by decide +kernel
theorem d_D_lastOf_18 : decode b_D_lastOf 18 = .ok (.iload_n 1, 1) := by decide +kernel
theorem d_D_lastOf_19 : decode b_D_lastOf 19 = .ok (.imul, 1) := by decide +kernel
theorem d_D_lastOf_20 : decode b_D_lastOf 20 = .ok (.iload 4, 2) := by decide +kernel
theorem d_D_lastOf_22 : decode b_D_lastOf 22 = .ok (.iadd, 1) := by decide +kernel
theorem d_D_lastOf_23 : decode b_D_lastOf 23 = .ok (.istore 5, 2) := by decide +kernel
theorem d_D_lastOf_25 : decode b_D_lastOf 25 = .ok (.aload_n 0, 1) := by decide +kernel
theorem d_D_lastOf_26 : decode b_D_lastOf 26 = .ok (.getfield 43, 3) := by decide +kernel
theorem d_D_lastOf_29 : decode b_D_lastOf 29 = .ok (.iload 5, 2) := by decide +kernel
theorem d_D_lastOf_31 : decode b_D_lastOf 31 = .ok (.iaload, 1) := by decide +kernel
theorem d_D_lastOf_32 : decode b_D_lastOf 32 = .ok (.iload_n 2, 1) := by decide +kernel
theorem d_D_lastOf_33 : decode b_D_lastOf 33 = .ok (.if_icmp .gt 44, 3) := by decide +kernel
theorem d_D_lastOf_36 : decode b_D_lastOf 36 = .ok (.aload_n 0, 1) := by decide +kernel
theorem d_D_lastOf_37 : decode b_D_lastOf 37 = .ok (.getfield 43, 3) := by decide +kernel
theorem d_D_lastOf_40 : decode b_D_lastOf 40 = .ok (.bipush 8, 2) := by decide +kernel
theorem d_D_lastOf_42 : decode b_D_lastOf 42 = .ok (.iload_n 1, 1) := by decide +kernel
theorem d_D_lastOf_43 : decode b_D_lastOf 43 = .ok (.imul, 1) := by decide +kernel
theorem d_D_lastOf_44 : decode b_D_lastOf 44 = .ok (.iload_n 3, 1) := by decide +kernel
theorem d_D_lastOf_45 : decode b_D_lastOf 45 = .ok (.iadd, 1) := by decide +kernel
theorem d_D_lastOf_46 : decode b_D_lastOf 46 = .ok (.iaload, 1) := by decide +kernel
theorem d_D_lastOf_47 : decode b_D_lastOf 47 = .ok (.iload_n 2, 1) := by decide +kernel
theorem d_D_lastOf_48 : decode b_D_lastOf 48 = .ok (.if_icmp .gt 24, 3) := by decide +kernel
theorem d_D_lastOf_51 : decode b_D_lastOf 51 = .ok (.aload_n 0, 1) := by decide +kernel
theorem d_D_lastOf_52 : decode b_D_lastOf 52 = .ok (.getfield 43, 3) := by decide +kernel
theorem d_D_lastOf_55 : decode b_D_lastOf 55 = .ok (.iload 5, 2) := by decide +kernel
theorem d_D_lastOf_57 : decode b_D_lastOf 57 = .ok (.iaload, 1) := by decide +kernel
theorem d_D_lastOf_58 : decode b_D_lastOf 58 = .ok (.aload_n 0, 1) := by decide +kernel
theorem d_D_lastOf_59 : decode b_D_lastOf 59 = .ok (.getfield 43, 3) := by decide +kernel
theorem d_D_lastOf_62 : decode b_D_lastOf 62 = .ok (.bipush 8, 2) := by decide +kernel
theorem d_D_lastOf_64 : decode b_D_lastOf 64 = .ok (.iload_n 1, 1) := by decide +kernel
theorem d_D_lastOf_65 : decode b_D_lastOf 65 = .ok (.imul, 1) := by decide +kernel
theorem d_D_lastOf_66 : decode b_D_lastOf 66 = .ok (.iload_n 3, 1) := by decide +kernel
theorem d_D_lastOf_67 : decode b_D_lastOf 67 = .ok (.iadd, 1) := by decide +kernel
theorem d_D_lastOf_68 : decode b_D_lastOf 68 = .ok (.iaload, 1) := by decide +kernel
theorem d_D_lastOf_69 : decode b_D_lastOf 69 = .ok (.if_icmp .lt 8, 3) := by decide +kernel
theorem d_D_lastOf_72 : decode b_D_lastOf 72 = .ok (.iload 4, 2) := by decide +kernel
theorem d_D_lastOf_74 : decode b_D_lastOf 74 = .ok (.goto 4, 3) := by decide +kernel
theorem d_D_lastOf_77 : decode b_D_lastOf 77 = .ok (.iload_n 3, 1) := by decide +kernel
theorem d_D_lastOf_78 : decode b_D_lastOf 78 = .ok (.istore_n 3, 1) := by decide +kernel
theorem d_D_lastOf_79 : decode b_D_lastOf 79 = .ok (.iinc 4 1, 3) := by decide +kernel
theorem d_D_lastOf_82 : decode b_D_lastOf 82 = .ok (.goto (-77), 3) := by decide +kernel
theorem d_D_lastOf_85 : decode b_D_lastOf 85 = .ok (.aload_n 0, 1) := by decide +kernel
theorem d_D_lastOf_86 : decode b_D_lastOf 86 = .ok (.getfield 40, 3) := by decide +kernel
theorem d_D_lastOf_89 : decode b_D_lastOf 89 = .ok (.bipush 8, 2) := by decide +kernel
theorem d_D_lastOf_91 : decode b_D_lastOf 91 = .ok (.iload_n 1, 1) := by decide +kernel
theorem d_D_lastOf_92 : decode b_D_lastOf 92 = .ok (.imul, 1) := by decide +kernel
theorem d_D_lastOf_93 : decode b_D_lastOf 93 = .ok (.iload_n 3, 1) := by decide +kernel
theorem d_D_lastOf_94 : decode b_D_lastOf 94 = .ok (.iadd, 1) := by decide +kernel
theorem d_D_lastOf_95 : decode b_D_lastOf 95 = .ok (.iaload, 1) := by decide +kernel
theorem d_D_lastOf_96 : decode b_D_lastOf 96 = .ok (.ireturn, 1) := by decide +kernel
theorem d_D_clashes_0 : decode b_D_clashes 0 = .ok (.aload_n 0, 1) := by decide +kernel
theorem d_D_clashes_1 : decode b_D_clashes 1 = .ok (.getfield 13, 3) := by decide +kernel
theorem d_D_clashes_4 : decode b_D_clashes 4 = .ok (.iload_n 1, 1) := by decide +kernel
theorem d_D_clashes_5 : decode b_D_clashes 5 = .ok (.iaload, 1) := by decide +kernel
theorem d_D_clashes_6 : decode b_D_clashes 6 = .ok (.iload_n 2, 1) := by decide +kernel
theorem d_D_clashes_7 : decode b_D_clashes 7 = .ok (.if_icmp .ne 64, 3) := by decide +kernel
theorem d_D_clashes_10 : decode b_D_clashes 10 = .ok (.aload_n 0, 1) := by decide +kernel
theorem d_D_clashes_11 : decode b_D_clashes 11 = .ok (.getfield 16, 3) := by decide +kernel
theorem d_D_clashes_14 : decode b_D_clashes 14 = .ok (.iload_n 1, 1) := by decide +kernel
theorem d_D_clashes_15 : decode b_D_clashes 15 = .ok (.iaload, 1) := by decide +kernel
theorem d_D_clashes_16 : decode b_D_clashes 16 = .ok (.iload_n 3, 1) := by decide +kernel
theorem d_D_clashes_17 : decode b_D_clashes 17 = .ok (.if_icmp .ne 54, 3) := by decide +kernel
theorem d_D_clashes_20 : decode b_D_clashes 20 = .ok (.aload_n 0, 1) := by decide +kernel
theorem d_D_clashes_21 : decode b_D_clashes 21 = .ok (.getfield 22, 3) := by decide +kernel
theorem d_D_clashes_24 : decode b_D_clashes 24 = .ok (.iload_n 1, 1) := by decide +kernel
theorem d_D_clashes_25 : decode b_D_clashes 25 = .ok (.iaload, 1) := by decide +kernel
theorem d_D_clashes_26 : decode b_D_clashes 26 = .ok (.iload 6, 2) := by decide +kernel
theorem d_D_clashes_28 : decode b_D_clashes 28 = .ok (.if_icmp .ne 43, 3) := by decide +kernel
theorem d_D_clashes_31 : decode b_D_clashes 31 = .ok (.aload_n 0, 1) := by decide +kernel
theorem d_D_clashes_32 : decode b_D_clashes 32 = .ok (.getfield 25, 3) := by decide +kernel
theorem d_D_clashes_35 : decode b_D_clashes 35 = .ok (.iload_n 1, 1) := by decide +kernel
theorem d_D_clashes_36 : decode b_D_clashes 36 = .ok (.iaload, 1) := by decide +kernel
theorem d_D_clashes_37 : decode b_D_clashes 37 = .ok (.iload 7, 2) := by decide +kernel
theorem d_D_clashes_39 : decode b_D_clashes 39 = .ok (.if_icmp .ne 32, 3) := by decide +kernel
theorem d_D_clashes_42 : decode b_D_clashes 42 = .ok (.aload_n 0, 1) := by decide +kernel
theorem d_D_clashes_43 : decode b_D_clashes 43 = .ok (.getfield 19, 3) := by decide +kernel
theorem d_D_clashes_46 : decode b_D_clashes 46 = .ok (.iload_n 1, 1) := by decide +kernel
theorem d_D_clashes_47 : decode b_D_clashes 47 = .ok (.iaload, 1) := by decide +kernel
theorem d_D_clashes_48 : decode b_D_clashes 48 = .ok (.iload 5, 2) := by decide +kernel
theorem d_D_clashes_50 : decode b_D_clashes 50 = .ok (.if_icmp .gt 21, 3) := by decide +kernel
theorem d_D_clashes_53 : decode b_D_clashes 53 = .ok (.iload 4, 2) := by decide +kernel
theorem d_D_clashes_55 : decode b_D_clashes 55 = .ok (.aload_n 0, 1) := by decide +kernel
theorem d_D_clashes_56 : decode b_D_clashes 56 = .ok (.iload_n 1, 1) := by decide +kernel
theorem d_D_clashes_57 : decode b_D_clashes 57 = .ok (.aload_n 0, 1) := by decide +kernel
theorem d_D_clashes_58 : decode b_D_clashes 58 = .ok (.getfield 84, 3) := by decide +kernel
theorem d_D_clashes_61 : decode b_D_clashes 61 = .ok (.invokevirtual 87, 3) := by decide +kernel
theorem d_D_clashes_64 : decode b_D_clashes 64 = .ok (.if_icmp .gt 7, 3) := by decide +kernel
theorem d_D_clashes_67 : decode b_D_clashes 67 = .ok (.iconst 1, 1) := by decide +kernel
theorem d_D_clashes_68 : decode b_D_clashes 68 = .ok (.goto 4, 3) := by decide +kernel
theorem d_D_clashes_71 : decode b_D_clashes 71 = .ok (.iconst 0, 1) := by decide +kernel
theorem d_D_clashes_72 : decode b_D_clashes 72 = .ok (.ireturn, 1) := by decide +kernel
theorem d_D_row_0 : decode b_D_row 0 = .ok (.iload_n 1, 1) := by decide +kernel
theorem d_D_row_1 : decode b_D_row 1 = .ok (.invokestatic 91, 3) := by decide +kernel
theorem d_D_row_4 : decode b_D_row 4 = .ok (.ifCond .eq 78, 3) := by decide +kernel
theorem d_D_row_7 : decode b_D_row 7 = .ok (.iload_n 2, 1) := by decide +kernel
theorem d_D_row_8 : decode b_D_row 8 = .ok (.iconst 0, 1) := by decide +kernel
theorem d_D_row_9 : decode b_D_row 9 = .ok (.bipush 23, 2) := by decide +kernel
theorem d_D_row_11 : decode b_D_row 11 = .ok (.invokestatic 57, 3) := by decide +kernel
theorem d_D_row_14 : decode b_D_row 14 = .ok (.ifCond .ne 9, 3) := by decide +kernel
theorem d_D_row_17 : decode b_D_row 17 = .ok (.iload_n 2, 1) := by decide +kernel
theorem d_D_row_18 : decode b_D_row 18 = .ok (.bipush 31, 2) := by decide +kernel
theorem d_D_row_20 : decode b_D_row 20 = .ok (.if_icmp .ne 62, 3) := by decide +kernel
theorem d_D_row_23 : decode b_D_row 23 = .ok (.iload_n 3, 1) := by decide +kernel
theorem d_D_row_24 : decode b_D_row 24 = .ok (.invokestatic 94, 3) := by decide +kernel
theorem d_D_row_27 : decode b_D_row 27 = .ok (.ifCond .eq 55, 3) := by decide +kernel
theorem d_D_row_30 : decode b_D_row 30 = .ok (.iload 4, 2) := by decide +kernel
theorem d_D_row_32 : decode b_D_row 32 = .ok (.invokestatic 94, 3) := by decide +kernel
theorem d_D_row_35 : decode b_D_row 35 = .ok (.ifCond .ne 11, 3) := by decide +kernel
theorem d_D_row_38 : decode b_D_row 38 = .ok (.iload 4, 2) := by decide +kernel
theorem d_D_row_40 : decode b_D_row 40 = .ok (.sipush 20000, 3) := by decide +kernel
theorem d_D_row_43 : decode b_D_row 43 = .ok (.if_icmp .ne 39, 3) := by decide +kernel
theorem d_D_row_46 : decode b_D_row 46 = .ok (.iload 4, 2) := by decide +kernel
theorem d_D_row_48 : decode b_D_row 48 = .ok (.iload_n 3, 1) := by decide +kernel
theorem d_D_row_49 : decode b_D_row 49 = .ok (.if_icmp .lt 33, 3) := by decide +kernel
theorem d_D_row_52 : decode b_D_row 52 = .ok (.iload 5, 2) := by decide +kernel
theorem d_D_row_54 : decode b_D_row 54 = .ok (.iconst 0, 1) := by decide +kernel
theorem d_D_row_55 : decode b_D_row 55 = .ok (.bipush 7, 2) := by decide +kernel
theorem d_D_row_57 : decode b_D_row 57 = .ok (.invokestatic 57, 3) := by decide +kernel
theorem d_D_row_60 : decode b_D_row 60 = .ok (.ifCond .eq 22, 3) := by decide +kernel
theorem d_D_row_63 : decode b_D_row 63 = .ok (.iload 6, 2) := by decide +kernel
theorem d_D_row_65 : decode b_D_row 65 = .ok (.iconst 0, 1) := by decide +kernel
theorem d_D_row_66 : decode b_D_row 66 = .ok (.bipush 9, 2) := by decide +kernel
theorem d_D_row_68 : decode b_D_row 68 = .ok (.invokestatic 57, 3) := by decide +kernel
theorem d_D_row_71 : decode b_D_row 71 = .ok (.ifCond .eq 11, 3) := by decide +kernel
theorem d_D_row_74 : decode b_D_row 74 = .ok (.iload 7, 2) := by decide +kernel
theorem d_D_row_76 : decode b_D_row 76 = .ok (.invokestatic 94, 3) := by decide +kernel
theorem d_D_row_79 : decode b_D_row 79 = .ok (.ifCond .ne 9, 3) := by decide +kernel
theorem d_D_row_82 : decode b_D_row 82 = .ok (.aload_n 0, 1) := by decide +kernel
theorem d_D_row_83 : decode b_D_row 83 = .ok (.iconst 1, 1) := by decide +kernel
theorem d_D_row_84 : decode b_D_row 84 = .ok (.invokevirtual 97, 3) := by decide +kernel
theorem d_D_row_87 : decode b_D_row 87 = .ok (.ireturn, 1) := by decide +kernel
theorem d_D_row_88 : decode b_D_row 88 = .ok (.aload_n 0, 1) := by decide +kernel
theorem d_D_row_89 : decode b_D_row 89 = .ok (.getfield 81, 3) := by decide +kernel
theorem d_D_row_92 : decode b_D_row 92 = .ok (.bipush 80, 2) := by decide +kernel
theorem d_D_row_94 : decode b_D_row 94 = .ok (.if_icmp .ne 9, 3) := by decide +kernel
theorem d_D_row_97 : decode b_D_row 97 = .ok (.aload_n 0, 1) := by decide +kernel
theorem d_D_row_98 : decode b_D_row 98 = .ok (.iconst 2, 1) := by decide +kernel
theorem d_D_row_99 : decode b_D_row 99 = .ok (.invokevirtual 97, 3) := by decide +kernel
theorem d_D_row_102 : decode b_D_row 102 = .ok (.ireturn, 1) := by decide +kernel
theorem d_D_row_103 : decode b_D_row 103 = .ok (.aload_n 0, 1) := by decide +kernel
theorem d_D_row_104 : decode b_D_row 104 = .ok (.iconst 0, 1) := by decide +kernel
theorem d_D_row_105 : decode b_D_row 105 = .ok (.putfield 53, 3) := by decide +kernel
theorem d_D_row_108 : decode b_D_row 108 = .ok (.iconst 1, 1) := by decide +kernel
theorem d_D_row_109 : decode b_D_row 109 = .ok (.istore 8, 2) := by decide +kernel
theorem d_D_row_111 : decode b_D_row 111 = .ok (.iload 8, 2) := by decide +kernel
theorem d_D_row_113 : decode b_D_row 113 = .ok (.aload_n 0, 1) := by decide +kernel
theorem d_D_row_114 : decode b_D_row 114 = .ok (.getfield 81, 3) := by decide +kernel
theorem d_D_row_117 : decode b_D_row 117 = .ok (.if_icmp .gt 32, 3) := by decide +kernel
theorem d_D_row_120 : decode b_D_row 120 = .ok (.aload_n 0, 1) := by decide +kernel
theorem d_D_row_121 : decode b_D_row 121 = .ok (.iload 8, 2) := by decide +kernel
theorem d_D_row_123 : decode b_D_row 123 = .ok (.iload_n 1, 1) := by decide +kernel
theorem d_D_row_124 : decode b_D_row 124 = .ok (.iload_n 2, 1) := by decide +kernel
theorem d_D_row_125 : decode b_D_row 125 = .ok (.iload_n 3, 1) := by decide +kernel
theorem d_D_row_126 : decode b_D_row 126 = .ok (.iload 4, 2) := by decide +kernel
theorem d_D_row_128 : decode b_D_row 128 = .ok (.iload 5, 2) := by decide +kernel
theorem d_D_row_130 : decode b_D_row 130 = .ok (.iload 6, 2) := by decide +kernel
theorem d_D_row_132 : decode b_D_row 132 = .ok (.invokevirtual 100, 3) := by decide +kernel
theorem d_D_row_135 : decode b_D_row 135 = .ok (.ifCond .eq 8, 3) := by decide +kernel
theorem d_D_row_138 : decode b_D_row 138 = .ok (.iconst (-1), 1) := by decide +kernel
theorem d_D_row_139 : decode b_D_row 139 = .ok (.iload 8, 2) := by decide +kernel
theorem d_D_row_141 : decode b_D_row 141 = .ok (.isub, 1) := by decide +kernel
theorem d_D_row_142 : decode b_D_row 142 = .ok (.ireturn, 1) := by decide +kernel
theorem d_D_row_143 : decode b_D_row 143 = .ok (.iinc 8 1, 3) := by decide +kernel
theorem d_D_row_146 : decode b_D_row 146 = .ok (.goto (-35), 3) := by decide +kernel
theorem d_D_row_149 : decode b_D_row 149 = .ok (.aload_n 0, 1) := by decide +kernel
theorem d_D_row_150 : decode b_D_row 150 = .ok (.dup, 1) := by decide +kernel
theorem d_D_row_151 : decode b_D_row 151 = .ok (.getfield 81, 3) := by decide +kernel
theorem d_D_row_154 : decode b_D_row 154 = .ok (.iconst 1, 1) := by decide +kernel
theorem d_D_row_155 : decode b_D_row 155 = .ok (.iadd, 1) := by decide +kernel
theorem d_D_row_156 : decode b_D_row 156 = .ok (.putfield 81, 3) := by decide +kernel
theorem d_D_row_159 : decode b_D_row 159 = .ok (.aload_n 0, 1) := by decide +kernel
theorem d_D_row_160 : decode b_D_row 160 = .ok (.getfield 13, 3) := by decide +kernel
theorem d_D_row_163 : decode b_D_row 163 = .ok (.aload_n 0, 1) := by decide +kernel
theorem d_D_row_164 : decode b_D_row 164 = .ok (.getfield 81, 3) := by decide +kernel
theorem d_D_row_167 : decode b_D_row 167 = .ok (.iload_n 1, 1) := by decide +kernel
theorem d_D_row_168 : decode b_D_row 168 = .ok (.iastore, 1) := by decide +kernel
theorem d_D_row_169 : decode b_D_row 169 = .ok (.aload_n 0, 1) := by decide +kernel
theorem d_D_row_170 : decode b_D_row 170 = .ok (.getfield 16, 3) := by decide +kernel
theorem d_D_row_173 : decode b_D_row 173 = .ok (.aload_n 0, 1) := by decide +kernel
theorem d_D_row_174 : decode b_D_row 174 = .ok (.getfield 81, 3) := by decide +kernel
theorem d_D_row_177 : decode b_D_row 177 = .ok (.iload_n 2, 1) := by decide +kernel
theorem d_D_row_178 : decode b_D_row 178 = .ok (.iastore, 1) := by decide +kernel
theorem d_D_row_179 : decode b_D_row 179 = .ok (.aload_n 0, 1) := by decide +kernel
theorem d_D_row_180 : decode b_D_row 180 = .ok (.getfield 19, 3) := by decide +kernel
theorem d_D_row_183 : decode b_D_row 183 = .ok (.aload_n 0, 1) := by decide +kernel
theorem d_D_row_184 : decode b_D_row 184 = .ok (.getfield 81, 3) := by decide +kernel
theorem d_D_row_187 : decode b_D_row 187 = .ok (.iload_n 3, 1) := by decide +kernel
theorem d_D_row_188 : decode b_D_row 188 = .ok (.iastore, 1) := by decide +kernel
theorem d_D_row_189 : decode b_D_row 189 = .ok (.aload_n 0, 1) := by decide +kernel
theorem d_D_row_190 : decode b_D_row 190 = .ok (.getfield 22, 3) := by decide +kernel
theorem d_D_row_193 : decode b_D_row 193 = .ok (.aload_n 0, 1) := by decide +kernel
theorem d_D_row_194 : decode b_D_row 194 = .ok (.getfield 81, 3) := by decide +kernel
theorem d_D_row_197 : decode b_D_row 197 = .ok (.iload 5, 2) := by decide +kernel
theorem d_D_row_199 : decode b_D_row 199 = .ok (.iastore, 1) := by decide +kernel
theorem d_D_row_200 : decode b_D_row 200 = .ok (.aload_n 0, 1) := by decide +kernel
theorem d_D_row_201 : decode b_D_row 201 = .ok (.getfield 25, 3) := by decide +kernel
theorem d_D_row_204 : decode b_D_row 204 = .ok (.aload_n 0, 1) := by decide +kernel
theorem d_D_row_205 : decode b_D_row 205 = .ok (.getfield 81, 3) := by decide +kernel
theorem d_D_row_208 : decode b_D_row 208 = .ok (.iload 6, 2) := by decide +kernel
theorem d_D_row_210 : decode b_D_row 210 = .ok (.iastore, 1) := by decide +kernel
theorem d_D_row_211 : decode b_D_row 211 = .ok (.aload_n 0, 1) := by decide +kernel
theorem d_D_row_212 : decode b_D_row 212 = .ok (.getfield 28, 3) := by decide +kernel
theorem d_D_row_215 : decode b_D_row 215 = .ok (.aload_n 0, 1) := by decide +kernel
theorem d_D_row_216 : decode b_D_row 216 = .ok (.getfield 81, 3) := by decide +kernel
theorem d_D_row_219 : decode b_D_row 219 = .ok (.iload 7, 2) := by decide +kernel
theorem d_D_row_221 : decode b_D_row 221 = .ok (.iastore, 1) := by decide +kernel
theorem d_D_row_222 : decode b_D_row 222 = .ok (.aload_n 0, 1) := by decide +kernel
theorem d_D_row_223 : decode b_D_row 223 = .ok (.getfield 37, 3) := by decide +kernel
theorem d_D_row_226 : decode b_D_row 226 = .ok (.aload_n 0, 1) := by decide +kernel
theorem d_D_row_227 : decode b_D_row 227 = .ok (.getfield 81, 3) := by decide +kernel
theorem d_D_row_230 : decode b_D_row 230 = .ok (.iconst 1, 1) := by decide +kernel
theorem d_D_row_231 : decode b_D_row 231 = .ok (.iastore, 1) := by decide +kernel
theorem d_D_row_232 : decode b_D_row 232 = .ok (.aload_n 0, 1) := by decide +kernel
theorem d_D_row_233 : decode b_D_row 233 = .ok (.getfield 40, 3) := by decide +kernel
theorem d_D_row_236 : decode b_D_row 236 = .ok (.bipush 8, 2) := by decide +kernel
theorem d_D_row_238 : decode b_D_row 238 = .ok (.aload_n 0, 1) := by decide +kernel
theorem d_D_row_239 : decode b_D_row 239 = .ok (.getfield 81, 3) := by decide +kernel
theorem d_D_row_242 : decode b_D_row 242 = .ok (.imul, 1) := by decide +kernel
theorem d_D_row_243 : decode b_D_row 243 = .ok (.iload 4, 2) := by decide +kernel
theorem d_D_row_245 : decode b_D_row 245 = .ok (.iastore, 1) := by decide +kernel
theorem d_D_row_246 : decode b_D_row 246 = .ok (.aload_n 0, 1) := by decide +kernel
theorem d_D_row_247 : decode b_D_row 247 = .ok (.getfield 43, 3) := by decide +kernel
theorem d_D_row_250 : decode b_D_row 250 = .ok (.bipush 8, 2) := by decide +kernel
theorem d_D_row_252 : decode b_D_row 252 = .ok (.aload_n 0, 1) := by decide +kernel
theorem d_D_row_253 : decode b_D_row 253 = .ok (.getfield 81, 3) := by decide +kernel
theorem d_D_row_256 : decode b_D_row 256 = .ok (.imul, 1) := by decide +kernel
theorem d_D_row_257 : decode b_D_row 257 = .ok (.iload 7, 2) := by decide +kernel
theorem d_D_row_259 : decode b_D_row 259 = .ok (.iastore, 1) := by decide +kernel
theorem d_D_row_260 : decode b_D_row 260 = .ok (.aload_n 0, 1) := by decide +kernel
theorem d_D_row_261 : decode b_D_row 261 = .ok (.iload 7, 2) := by decide +kernel
theorem d_D_row_263 : decode b_D_row 263 = .ok (.aload_n 0, 1) := by decide +kernel
theorem d_D_row_264 : decode b_D_row 264 = .ok (.getfield 84, 3) := by decide +kernel
theorem d_D_row_267 : decode b_D_row 267 = .ok (.if_icmp .le 8, 3) := by decide +kernel
theorem d_D_row_270 : decode b_D_row 270 = .ok (.iload 7, 2) := by decide +kernel
theorem d_D_row_272 : decode b_D_row 272 = .ok (.goto 7, 3) := by decide +kernel
theorem d_D_row_275 : decode b_D_row 275 = .ok (.aload_n 0, 1) := by decide +kernel
theorem d_D_row_276 : decode b_D_row 276 = .ok (.getfield 84, 3) := by decide +kernel
theorem d_D_row_279 : decode b_D_row 279 = .ok (.putfield 84, 3) := by decide +kernel
theorem d_D_row_282 : decode b_D_row 282 = .ok (.aload_n 0, 1) := by decide +kernel
theorem d_D_row_283 : decode b_D_row 283 = .ok (.getfield 81, 3) := by decide +kernel
theorem d_D_row_286 : decode b_D_row 286 = .ok (.ireturn, 1) := by decide +kernel
theorem d_D_exclude_0 : decode b_D_exclude 0 = .ok (.aload_n 0, 1) := by decide +kernel
theorem d_D_exclude_1 : decode b_D_exclude 1 = .ok (.iconst 0, 1) := by decide +kernel
theorem d_D_exclude_2 : decode b_D_exclude 2 = .ok (.putfield 53, 3) := by decide +kernel
theorem d_D_exclude_5 : decode b_D_exclude 5 = .ok (.aload_n 0, 1) := by decide +kernel
theorem d_D_exclude_6 : decode b_D_exclude 6 = .ok (.iload_n 1, 1) := by decide +kernel
theorem d_D_exclude_7 : decode b_D_exclude 7 = .ok (.invokevirtual 104, 3) := by decide +kernel
theorem d_D_exclude_10 : decode b_D_exclude 10 = .ok (.ifCond .eq 37, 3) := by decide +kernel
theorem d_D_exclude_13 : decode b_D_exclude 13 = .ok (.iload_n 2, 1) := by decide +kernel
theorem d_D_exclude_14 : decode b_D_exclude 14 = .ok (.invokestatic 71, 3) := by decide +kernel
theorem d_D_exclude_17 : decode b_D_exclude 17 = .ok (.ifCond .eq 30, 3) := by decide +kernel
theorem d_D_exclude_20 : decode b_D_exclude 20 = .ok (.aload_n 0, 1) := by decide +kernel
theorem d_D_exclude_21 : decode b_D_exclude 21 = .ok (.getfield 31, 3) := by decide +kernel
theorem d_D_exclude_24 : decode b_D_exclude 24 = .ok (.iload_n 1, 1) := by decide +kernel
theorem d_D_exclude_25 : decode b_D_exclude 25 = .ok (.iaload, 1) := by decide +kernel
theorem d_D_exclude_26 : decode b_D_exclude 26 = .ok (.iload_n 2, 1) := by decide +kernel
theorem d_D_exclude_27 : decode b_D_exclude 27 = .ok (.ishr, 1) := by decide +kernel
theorem d_D_exclude_28 : decode b_D_exclude 28 = .ok (.iconst 1, 1) := by decide +kernel
theorem d_D_exclude_29 : decode b_D_exclude 29 = .ok (.iand, 1) := by decide +kernel
theorem d_D_exclude_30 : decode b_D_exclude 30 = .ok (.iconst 1, 1) := by decide +kernel
theorem d_D_exclude_31 : decode b_D_exclude 31 = .ok (.if_icmp .eq 16, 3) := by decide +kernel
theorem d_D_exclude_34 : decode b_D_exclude 34 = .ok (.aload_n 0, 1) := by decide +kernel
theorem d_D_exclude_35 : decode b_D_exclude 35 = .ok (.getfield 31, 3) := by decide +kernel
theorem d_D_exclude_38 : decode b_D_exclude 38 = .ok (.iload_n 1, 1) := by decide +kernel
theorem d_D_exclude_39 : decode b_D_exclude 39 = .ok (.iaload, 1) := by decide +kernel
theorem d_D_exclude_40 : decode b_D_exclude 40 = .ok (.invokestatic 107, 3) := by decide +kernel
theorem d_D_exclude_43 : decode b_D_exclude 43 = .ok (.iconst 4, 1) := by decide +kernel
theorem d_D_exclude_44 : decode b_D_exclude 44 = .ok (.if_icmp .ne 5, 3) := by decide +kernel
theorem d_D_exclude_47 : decode b_D_exclude 47 = .ok (.iconst 0, 1) := by decide +kernel
theorem d_D_exclude_48 : decode b_D_exclude 48 = .ok (.ireturn, 1) := by decide +kernel
theorem d_D_exclude_49 : decode b_D_exclude 49 = .ok (.aload_n 0, 1) := by decide +kernel
theorem d_D_exclude_50 : decode b_D_exclude 50 = .ok (.getfield 31, 3) := by decide +kernel
theorem d_D_exclude_53 : decode b_D_exclude 53 = .ok (.iload_n 1, 1) := by decide +kernel
theorem d_D_exclude_54 : decode b_D_exclude 54 = .ok (.dup2, 1) := by decide +kernel
theorem d_D_exclude_55 : decode b_D_exclude 55 = .ok (.iaload, 1) := by decide +kernel
theorem d_D_exclude_56 : decode b_D_exclude 56 = .ok (.iconst 1, 1) := by decide +kernel
theorem d_D_exclude_57 : decode b_D_exclude 57 = .ok (.iload_n 2, 1) := by decide +kernel
theorem d_D_exclude_58 : decode b_D_exclude 58 = .ok (.ishl, 1) := by decide +kernel
theorem d_D_exclude_59 : decode b_D_exclude 59 = .ok (.ior, 1) := by decide +kernel
theorem d_D_exclude_60 : decode b_D_exclude 60 = .ok (.iastore, 1) := by decide +kernel
theorem d_D_exclude_61 : decode b_D_exclude 61 = .ok (.iconst 1, 1) := by decide +kernel
theorem d_D_exclude_62 : decode b_D_exclude 62 = .ok (.ireturn, 1) := by decide +kernel
theorem d_D_condition_0 : decode b_D_condition 0 = .ok (.aload_n 0, 1) := by decide +kernel
theorem d_D_condition_1 : decode b_D_condition 1 = .ok (.iconst 0, 1) := by decide +kernel
theorem d_D_condition_2 : decode b_D_condition 2 = .ok (.putfield 53, 3) := by decide +kernel
theorem d_D_condition_5 : decode b_D_condition 5 = .ok (.aload_n 0, 1) := by decide +kernel
theorem d_D_condition_6 : decode b_D_condition 6 = .ok (.iload_n 1, 1) := by decide +kernel
theorem d_D_condition_7 : decode b_D_condition 7 = .ok (.invokevirtual 104, 3) := by decide +kernel
theorem d_D_condition_10 : decode b_D_condition 10 = .ok (.ifCond .eq 40, 3) := by decide +kernel
theorem d_D_condition_13 : decode b_D_condition 13 = .ok (.iload_n 2, 1) := by decide +kernel
theorem d_D_condition_14 : decode b_D_condition 14 = .ok (.iconst 0, 1) := by decide +kernel
theorem d_D_condition_15 : decode b_D_condition 15 = .ok (.bipush 15, 2) := by decide +kernel
theorem d_D_condition_17 : decode b_D_condition 17 = .ok (.invokestatic 57, 3) := by decide +kernel
theorem d_D_condition_20 : decode b_D_condition 20 = .ok (.ifCond .eq 30, 3) := by decide +kernel
theorem d_D_condition_23 : decode b_D_condition 23 = .ok (.aload_n 0, 1) := by decide +kernel
theorem d_D_condition_24 : decode b_D_condition 24 = .ok (.getfield 34, 3) := by decide +kernel
theorem d_D_condition_27 : decode b_D_condition 27 = .ok (.iload_n 1, 1) := by decide +kernel
theorem d_D_condition_28 : decode b_D_condition 28 = .ok (.iaload, 1) := by decide +kernel
theorem d_D_condition_29 : decode b_D_condition 29 = .ok (.iload_n 2, 1) := by decide +kernel
theorem d_D_condition_30 : decode b_D_condition 30 = .ok (.ishr, 1) := by decide +kernel
theorem d_D_condition_31 : decode b_D_condition 31 = .ok (.iconst 1, 1) := by decide +kernel
theorem d_D_condition_32 : decode b_D_condition 32 = .ok (.iand, 1) := by decide +kernel
theorem d_D_condition_33 : decode b_D_condition 33 = .ok (.iconst 1, 1) := by decide +kernel
theorem d_D_condition_34 : decode b_D_condition 34 = .ok (.if_icmp .eq 16, 3) := by decide +kernel
theorem d_D_condition_37 : decode b_D_condition 37 = .ok (.aload_n 0, 1) := by decide +kernel
theorem d_D_condition_38 : decode b_D_condition 38 = .ok (.getfield 34, 3) := by decide +kernel
theorem d_D_condition_41 : decode b_D_condition 41 = .ok (.iload_n 1, 1) := by decide +kernel
theorem d_D_condition_42 : decode b_D_condition 42 = .ok (.iaload, 1) := by decide +kernel
theorem d_D_condition_43 : decode b_D_condition 43 = .ok (.invokestatic 107, 3) := by decide +kernel
theorem d_D_condition_46 : decode b_D_condition 46 = .ok (.iconst 4, 1) := by decide +kernel
theorem d_D_condition_47 : decode b_D_condition 47 = .ok (.if_icmp .ne 5, 3) := by decide +kernel
theorem d_D_condition_50 : decode b_D_condition 50 = .ok (.iconst 0, 1) := by decide +kernel
theorem d_D_condition_51 : decode b_D_condition 51 = .ok (.ireturn, 1) := by decide +kernel
theorem d_D_condition_52 : decode b_D_condition 52 = .ok (.aload_n 0, 1) := by decide +kernel
theorem d_D_condition_53 : decode b_D_condition 53 = .ok (.getfield 34, 3) := by decide +kernel
theorem d_D_condition_56 : decode b_D_condition 56 = .ok (.iload_n 1, 1) := by decide +kernel
theorem d_D_condition_57 : decode b_D_condition 57 = .ok (.dup2, 1) := by decide +kernel
theorem d_D_condition_58 : decode b_D_condition 58 = .ok (.iaload, 1) := by decide +kernel
theorem d_D_condition_59 : decode b_D_condition 59 = .ok (.iconst 1, 1) := by decide +kernel
theorem d_D_condition_60 : decode b_D_condition 60 = .ok (.iload_n 2, 1) := by decide +kernel
theorem d_D_condition_61 : decode b_D_condition 61 = .ok (.ishl, 1) := by decide +kernel
theorem d_D_condition_62 : decode b_D_condition 62 = .ok (.ior, 1) := by decide +kernel
theorem d_D_condition_63 : decode b_D_condition 63 = .ok (.iastore, 1) := by decide +kernel
theorem d_D_condition_64 : decode b_D_condition 64 = .ok (.iconst 1, 1) := by decide +kernel
theorem d_D_condition_65 : decode b_D_condition 65 = .ok (.ireturn, 1) := by decide +kernel
theorem d_D_end_0 : decode b_D_end 0 = .ok (.aload_n 0, 1) := by decide +kernel
theorem d_D_end_1 : decode b_D_end 1 = .ok (.iload_n 1, 1) := by decide +kernel
theorem d_D_end_2 : decode b_D_end 2 = .ok (.invokevirtual 104, 3) := by decide +kernel
theorem d_D_end_5 : decode b_D_end 5 = .ok (.ifCond .ne 9, 3) := by decide +kernel
theorem d_D_end_8 : decode b_D_end 8 = .ok (.aload_n 0, 1) := by decide +kernel
theorem d_D_end_9 : decode b_D_end 9 = .ok (.iconst 1, 1) := by decide +kernel
theorem d_D_end_10 : decode b_D_end 10 = .ok (.invokevirtual 97, 3) := by decide +kernel
theorem d_D_end_13 : decode b_D_end 13 = .ok (.ireturn, 1) := by decide +kernel
theorem d_D_end_14 : decode b_D_end 14 = .ok (.iload_n 2, 1) := by decide +kernel
theorem d_D_end_15 : decode b_D_end 15 = .ok (.invokestatic 94, 3) := by decide +kernel
theorem d_D_end_18 : decode b_D_end 18 = .ok (.ifCond .ne 10, 3) := by decide +kernel
theorem d_D_end_21 : decode b_D_end 21 = .ok (.iload_n 2, 1) := by decide +kernel
theorem d_D_end_22 : decode b_D_end 22 = .ok (.sipush 20000, 3) := by decide +kernel
theorem d_D_end_25 : decode b_D_end 25 = .ok (.if_icmp .ne 10, 3) := by decide +kernel
theorem d_D_end_28 : decode b_D_end 28 = .ok (.iload_n 3, 1) := by decide +kernel
theorem d_D_end_29 : decode b_D_end 29 = .ok (.invokestatic 94, 3) := by decide +kernel
theorem d_D_end_32 : decode b_D_end 32 = .ok (.ifCond .ne 9, 3) := by decide +kernel
theorem d_D_end_35 : decode b_D_end 35 = .ok (.aload_n 0, 1) := by decide +kernel
theorem d_D_end_36 : decode b_D_end 36 = .ok (.iconst 2, 1) := by decide +kernel
theorem d_D_end_37 : decode b_D_end 37 = .ok (.invokevirtual 97, 3) := by decide +kernel
theorem d_D_end_40 : decode b_D_end 40 = .ok (.ireturn, 1) := by decide +kernel
theorem d_D_end_41 : decode b_D_end 41 = .ok (.aload_n 0, 1) := by decide +kernel
theorem d_D_end_42 : decode b_D_end 42 = .ok (.getfield 37, 3) := by decide +kernel
theorem d_D_end_45 : decode b_D_end 45 = .ok (.iload_n 1, 1) := by decide +kernel
theorem d_D_end_46 : decode b_D_end 46 = .ok (.iaload, 1) := by decide +kernel
theorem d_D_end_47 : decode b_D_end 47 = .ok (.bipush 8, 2) := by decide +kernel
theorem d_D_end_49 : decode b_D_end 49 = .ok (.if_icmp .ne 9, 3) := by decide +kernel
theorem d_D_end_52 : decode b_D_end 52 = .ok (.aload_n 0, 1) := by decide +kernel
theorem d_D_end_53 : decode b_D_end 53 = .ok (.iconst 3, 1) := by decide +kernel
theorem d_D_end_54 : decode b_D_end 54 = .ok (.invokevirtual 97, 3) := by decide +kernel
theorem d_D_end_57 : decode b_D_end 57 = .ok (.ireturn, 1) := by decide +kernel
theorem d_D_end_58 : decode b_D_end 58 = .ok (.aload_n 0, 1) := by decide +kernel
theorem d_D_end_59 : decode b_D_end 59 = .ok (.iconst 0, 1) := by decide +kernel
theorem d_D_end_60 : decode b_D_end 60 = .ok (.putfield 53, 3) := by decide +kernel
theorem d_D_end_63 : decode b_D_end 63 = .ok (.iload_n 2, 1) := by decide +kernel
theorem d_D_end_64 : decode b_D_end 64 = .ok (.aload_n 0, 1) := by decide +kernel
theorem d_D_end_65 : decode b_D_end 65 = .ok (.getfield 19, 3) := by decide +kernel
theorem d_D_end_68 : decode b_D_end 68 = .ok (.iload_n 1, 1) := by decide +kernel
theorem d_D_end_69 : decode b_D_end 69 = .ok (.iaload, 1) := by decide +kernel
theorem d_D_end_70 : decode b_D_end 70 = .ok (.if_icmp .ge 5, 3) := by decide +kernel
theorem d_D_end_73 : decode b_D_end 73 = .ok (.iconst 0, 1) := by decide +kernel
theorem d_D_end_74 : decode b_D_end 74 = .ok (.ireturn, 1) := by decide +kernel
theorem d_D_end_75 : decode b_D_end 75 = .ok (.aload_n 0, 1) := by decide +kernel
theorem d_D_end_76 : decode b_D_end 76 = .ok (.getfield 40, 3) := by decide +kernel
theorem d_D_end_79 : decode b_D_end 79 = .ok (.bipush 8, 2) := by decide +kernel
theorem d_D_end_81 : decode b_D_end 81 = .ok (.iload_n 1, 1) := by decide +kernel
theorem d_D_end_82 : decode b_D_end 82 = .ok (.imul, 1) := by decide +kernel
theorem d_D_end_83 : decode b_D_end 83 = .ok (.aload_n 0, 1) := by decide +kernel
theorem d_D_end_84 : decode b_D_end 84 = .ok (.getfield 37, 3) := by decide +kernel
theorem d_D_end_87 : decode b_D_end 87 = .ok (.iload_n 1, 1) := by decide +kernel
theorem d_D_end_88 : decode b_D_end 88 = .ok (.iaload, 1) := by decide +kernel
theorem d_D_end_89 : decode b_D_end 89 = .ok (.iadd, 1) := by decide +kernel
theorem d_D_end_90 : decode b_D_end 90 = .ok (.iload_n 2, 1) := by decide +kernel
theorem d_D_end_91 : decode b_D_end 91 = .ok (.iastore, 1) := by decide +kernel
theorem d_D_end_92 : decode b_D_end 92 = .ok (.aload_n 0, 1) := by decide +kernel
theorem d_D_end_93 : decode b_D_end 93 = .ok (.getfield 43, 3) := by decide +kernel
theorem d_D_end_96 : decode b_D_end 96 = .ok (.bipush 8, 2) := by decide +kernel
theorem d_D_end_98 : decode b_D_end 98 = .ok (.iload_n 1, 1) := by decide +kernel
theorem d_D_end_99 : decode b_D_end 99 = .ok (.imul, 1) := by decide +kernel
theorem d_D_end_100 : decode b_D_end 100 = .ok (.aload_n 0, 1) := by decide +kernel
theorem d_D_end_101 : decode b_D_end 101 = .ok (.getfield 37, 3) := by decide +kernel
theorem d_D_end_104 : decode b_D_end 104 = .ok (.iload_n 1, 1) := by decide +kernel
theorem d_D_end_105 : decode b_D_end 105 = .ok (.iaload, 1) := by decide +kernel
theorem d_D_end_106 : decode b_D_end 106 = .ok (.iadd, 1) := by decide +kernel
theorem d_D_end_107 : decode b_D_end 107 = .ok (.iload_n 3, 1) := by decide +kernel
theorem d_D_end_108 : decode b_D_end 108 = .ok (.iastore, 1) := by decide +kernel
theorem d_D_end_109 : decode b_D_end 109 = .ok (.aload_n 0, 1) := by decide +kernel
theorem d_D_end_110 : decode b_D_end 110 = .ok (.getfield 37, 3) := by decide +kernel
theorem d_D_end_113 : decode b_D_end 113 = .ok (.iload_n 1, 1) := by decide +kernel
theorem d_D_end_114 : decode b_D_end 114 = .ok (.dup2, 1) := by decide +kernel
theorem d_D_end_115 : decode b_D_end 115 = .ok (.iaload, 1) := by decide +kernel
theorem d_D_end_116 : decode b_D_end 116 = .ok (.iconst 1, 1) := by decide +kernel
theorem d_D_end_117 : decode b_D_end 117 = .ok (.iadd, 1) := by decide +kernel
theorem d_D_end_118 : decode b_D_end 118 = .ok (.iastore, 1) := by decide +kernel
theorem d_D_end_119 : decode b_D_end 119 = .ok (.aload_n 0, 1) := by decide +kernel
theorem d_D_end_120 : decode b_D_end 120 = .ok (.iload_n 3, 1) := by decide +kernel
theorem d_D_end_121 : decode b_D_end 121 = .ok (.aload_n 0, 1) := by decide +kernel
theorem d_D_end_122 : decode b_D_end 122 = .ok (.getfield 84, 3) := by decide +kernel
theorem d_D_end_125 : decode b_D_end 125 = .ok (.if_icmp .le 7, 3) := by decide +kernel
theorem d_D_end_128 : decode b_D_end 128 = .ok (.iload_n 3, 1) := by decide +kernel
theorem d_D_end_129 : decode b_D_end 129 = .ok (.goto 7, 3) := by decide +kernel
theorem d_D_end_132 : decode b_D_end 132 = .ok (.aload_n 0, 1) := by decide +kernel
theorem d_D_end_133 : decode b_D_end 133 = .ok (.getfield 84, 3) := by decide +kernel
theorem d_D_end_136 : decode b_D_end 136 = .ok (.putfield 84, 3) := by decide +kernel
theorem d_D_end_139 : decode b_D_end 139 = .ok (.aload_n 0, 1) := by decide +kernel
theorem d_D_end_140 : decode b_D_end 140 = .ok (.getfield 37, 3) := by decide +kernel
theorem d_D_end_143 : decode b_D_end 143 = .ok (.iload_n 1, 1) := by decide +kernel
theorem d_D_end_144 : decode b_D_end 144 = .ok (.iaload, 1) := by decide +kernel
theorem d_D_end_145 : decode b_D_end 145 = .ok (.ireturn, 1) := by decide +kernel
theorem d_D_papers_0 : decode b_D_papers 0 = .ok (.aload_n 0, 1) := by decide +kernel
theorem d_D_papers_1 : decode b_D_papers 1 = .ok (.iconst 0, 1) := by decide +kernel
theorem d_D_papers_2 : decode b_D_papers 2 = .ok (.putfield 53, 3) := by decide +kernel
theorem d_D_papers_5 : decode b_D_papers 5 = .ok (.aload_n 0, 1) := by decide +kernel
theorem d_D_papers_6 : decode b_D_papers 6 = .ok (.iload_n 1, 1) := by decide +kernel
theorem d_D_papers_7 : decode b_D_papers 7 = .ok (.ldc 110, 2) := by decide +kernel
theorem d_D_papers_9 : decode b_D_papers 9 = .ok (.iand, 1) := by decide +kernel
theorem d_D_papers_10 : decode b_D_papers 10 = .ok (.putfield 111, 3) := by decide +kernel
theorem d_D_papers_13 : decode b_D_papers 13 = .ok (.return_, 1) := by decide +kernel
theorem d_D_isUnder_0 : decode b_D_isUnder 0 = .ok (.iload_n 0, 1) := by decide +kernel
theorem d_D_isUnder_1 : decode b_D_isUnder 1 = .ok (.istore_n 2, 1) := by decide +kernel
theorem d_D_isUnder_2 : decode b_D_isUnder 2 = .ok (.iload_n 2, 1) := by decide +kernel
theorem d_D_isUnder_3 : decode b_D_isUnder 3 = .ok (.iload_n 1, 1) := by decide +kernel
theorem d_D_isUnder_4 : decode b_D_isUnder 4 = .ok (.if_icmp .le 11, 3) := by decide +kernel
theorem d_D_isUnder_7 : decode b_D_isUnder 7 = .ok (.iload_n 2, 1) := by decide +kernel
theorem d_D_isUnder_8 : decode b_D_isUnder 8 = .ok (.bipush 100, 2) := by decide +kernel
theorem d_D_isUnder_10 : decode b_D_isUnder 10 = .ok (.idiv, 1) := by decide +kernel
theorem d_D_isUnder_11 : decode b_D_isUnder 11 = .ok (.istore_n 2, 1) := by decide +kernel
theorem d_D_isUnder_12 : decode b_D_isUnder 12 = .ok (.goto (-10), 3) := by decide +kernel
theorem d_D_isUnder_15 : decode b_D_isUnder 15 = .ok (.iload_n 2, 1) := by decide +kernel
theorem d_D_isUnder_16 : decode b_D_isUnder 16 = .ok (.iload_n 1, 1) := by decide +kernel
theorem d_D_isUnder_17 : decode b_D_isUnder 17 = .ok (.if_icmp .ne 7, 3) := by decide +kernel
theorem d_D_isUnder_20 : decode b_D_isUnder 20 = .ok (.iconst 1, 1) := by decide +kernel
theorem d_D_isUnder_21 : decode b_D_isUnder 21 = .ok (.goto 4, 3) := by decide +kernel
theorem d_D_isUnder_24 : decode b_D_isUnder 24 = .ok (.iconst 0, 1) := by decide +kernel
theorem d_D_isUnder_25 : decode b_D_isUnder 25 = .ok (.ireturn, 1) := by decide +kernel
theorem d_D_lasts_0 : decode b_D_lasts 0 = .ok (.iload_n 2, 1) := by decide +kernel
theorem d_D_lasts_1 : decode b_D_lasts 1 = .ok (.aload_n 0, 1) := by decide +kernel
theorem d_D_lasts_2 : decode b_D_lasts 2 = .ok (.getfield 19, 3) := by decide +kernel
theorem d_D_lasts_5 : decode b_D_lasts 5 = .ok (.iload_n 1, 1) := by decide +kernel
theorem d_D_lasts_6 : decode b_D_lasts 6 = .ok (.iaload, 1) := by decide +kernel
theorem d_D_lasts_7 : decode b_D_lasts 7 = .ok (.if_icmp .lt 17, 3) := by decide +kernel
theorem d_D_lasts_10 : decode b_D_lasts 10 = .ok (.iload_n 2, 1) := by decide +kernel
theorem d_D_lasts_11 : decode b_D_lasts 11 = .ok (.aload_n 0, 1) := by decide +kernel
theorem d_D_lasts_12 : decode b_D_lasts 12 = .ok (.iload_n 1, 1) := by decide +kernel
theorem d_D_lasts_13 : decode b_D_lasts 13 = .ok (.iload_n 3, 1) := by decide +kernel
theorem d_D_lasts_14 : decode b_D_lasts 14 = .ok (.invokevirtual 87, 3) := by decide +kernel
theorem d_D_lasts_17 : decode b_D_lasts 17 = .ok (.if_icmp .gt 7, 3) := by decide +kernel
theorem d_D_lasts_20 : decode b_D_lasts 20 = .ok (.iconst 1, 1) := by decide +kernel
theorem d_D_lasts_21 : decode b_D_lasts 21 = .ok (.goto 4, 3) := by decide +kernel
theorem d_D_lasts_24 : decode b_D_lasts 24 = .ok (.iconst 0, 1) := by decide +kernel
theorem d_D_lasts_25 : decode b_D_lasts 25 = .ok (.ireturn, 1) := by decide +kernel
theorem d_D_isOf_0 : decode b_D_isOf 0 = .ok (.aload_n 0, 1) := by decide +kernel
theorem d_D_isOf_1 : decode b_D_isOf 1 = .ok (.getfield 28, 3) := by decide +kernel
theorem d_D_isOf_4 : decode b_D_isOf 4 = .ok (.iload_n 1, 1) := by decide +kernel
theorem d_D_isOf_5 : decode b_D_isOf 5 = .ok (.iaload, 1) := by decide +kernel
theorem d_D_isOf_6 : decode b_D_isOf 6 = .ok (.iload 5, 2) := by decide +kernel
theorem d_D_isOf_8 : decode b_D_isOf 8 = .ok (.if_icmp .gt 59, 3) := by decide +kernel
theorem d_D_isOf_11 : decode b_D_isOf 11 = .ok (.iload_n 2, 1) := by decide +kernel
theorem d_D_isOf_12 : decode b_D_isOf 12 = .ok (.aload_n 0, 1) := by decide +kernel
theorem d_D_isOf_13 : decode b_D_isOf 13 = .ok (.getfield 13, 3) := by decide +kernel
theorem d_D_isOf_16 : decode b_D_isOf 16 = .ok (.iload_n 1, 1) := by decide +kernel
theorem d_D_isOf_17 : decode b_D_isOf 17 = .ok (.iaload, 1) := by decide +kernel
theorem d_D_isOf_18 : decode b_D_isOf 18 = .ok (.invokestatic 114, 3) := by decide +kernel
theorem d_D_isOf_21 : decode b_D_isOf 21 = .ok (.ifCond .eq 46, 3) := by decide +kernel
theorem d_D_isOf_24 : decode b_D_isOf 24 = .ok (.aload_n 0, 1) := by decide +kernel
theorem d_D_isOf_25 : decode b_D_isOf 25 = .ok (.iload_n 3, 1) := by decide +kernel
theorem d_D_isOf_26 : decode b_D_isOf 26 = .ok (.aload_n 0, 1) := by decide +kernel
theorem d_D_isOf_27 : decode b_D_isOf 27 = .ok (.getfield 16, 3) := by decide +kernel
theorem d_D_isOf_30 : decode b_D_isOf 30 = .ok (.iload_n 1, 1) := by decide +kernel
theorem d_D_isOf_31 : decode b_D_isOf 31 = .ok (.iaload, 1) := by decide +kernel
theorem d_D_isOf_32 : decode b_D_isOf 32 = .ok (.invokevirtual 78, 3) := by decide +kernel
theorem d_D_isOf_35 : decode b_D_isOf 35 = .ok (.ifCond .eq 32, 3) := by decide +kernel
theorem d_D_isOf_38 : decode b_D_isOf 38 = .ok (.aload_n 0, 1) := by decide +kernel
theorem d_D_isOf_39 : decode b_D_isOf 39 = .ok (.getfield 31, 3) := by decide +kernel
theorem d_D_isOf_42 : decode b_D_isOf 42 = .ok (.iload_n 1, 1) := by decide +kernel
theorem d_D_isOf_43 : decode b_D_isOf 43 = .ok (.iaload, 1) := by decide +kernel
theorem d_D_isOf_44 : decode b_D_isOf 44 = .ok (.iload_n 3, 1) := by decide +kernel
theorem d_D_isOf_45 : decode b_D_isOf 45 = .ok (.ishr, 1) := by decide +kernel
theorem d_D_isOf_46 : decode b_D_isOf 46 = .ok (.iconst 1, 1) := by decide +kernel
theorem d_D_isOf_47 : decode b_D_isOf 47 = .ok (.iand, 1) := by decide +kernel
theorem d_D_isOf_48 : decode b_D_isOf 48 = .ok (.ifCond .ne 19, 3) := by decide +kernel
theorem d_D_isOf_51 : decode b_D_isOf 51 = .ok (.aload_n 0, 1) := by decide +kernel
theorem d_D_isOf_52 : decode b_D_isOf 52 = .ok (.iload_n 1, 1) := by decide +kernel
theorem d_D_isOf_53 : decode b_D_isOf 53 = .ok (.iload 4, 2) := by decide +kernel
theorem d_D_isOf_55 : decode b_D_isOf 55 = .ok (.iload 5, 2) := by decide +kernel
theorem d_D_isOf_57 : decode b_D_isOf 57 = .ok (.invokevirtual 117, 3) := by decide +kernel
theorem d_D_isOf_60 : decode b_D_isOf 60 = .ok (.ifCond .eq 7, 3) := by decide +kernel
theorem d_D_isOf_63 : decode b_D_isOf 63 = .ok (.iconst 1, 1) := by decide +kernel
theorem d_D_isOf_64 : decode b_D_isOf 64 = .ok (.goto 4, 3) := by decide +kernel
theorem d_D_isOf_67 : decode b_D_isOf 67 = .ok (.iconst 0, 1) := by decide +kernel
theorem d_D_isOf_68 : decode b_D_isOf 68 = .ok (.ireturn, 1) := by decide +kernel
theorem d_D_beats_0 : decode b_D_beats 0 = .ok (.aload_n 0, 1) := by decide +kernel
theorem d_D_beats_1 : decode b_D_beats 1 = .ok (.getfield 13, 3) := by decide +kernel
theorem d_D_beats_4 : decode b_D_beats 4 = .ok (.iload_n 1, 1) := by decide +kernel
theorem d_D_beats_5 : decode b_D_beats 5 = .ok (.iaload, 1) := by decide +kernel
theorem d_D_beats_6 : decode b_D_beats 6 = .ok (.invokestatic 91, 3) := by decide +kernel
theorem d_D_beats_9 : decode b_D_beats 9 = .ok (.istore_n 3, 1) := by decide +kernel
theorem d_D_beats_10 : decode b_D_beats 10 = .ok (.aload_n 0, 1) := by decide +kernel
theorem d_D_beats_11 : decode b_D_beats 11 = .ok (.getfield 13, 3) := by decide +kernel
theorem d_D_beats_14 : decode b_D_beats 14 = .ok (.iload_n 2, 1) := by decide +kernel
theorem d_D_beats_15 : decode b_D_beats 15 = .ok (.iaload, 1) := by decide +kernel
theorem d_D_beats_16 : decode b_D_beats 16 = .ok (.invokestatic 91, 3) := by decide +kernel
theorem d_D_beats_19 : decode b_D_beats 19 = .ok (.istore 4, 2) := by decide +kernel
theorem d_D_beats_21 : decode b_D_beats 21 = .ok (.aload_n 0, 1) := by decide +kernel
theorem d_D_beats_22 : decode b_D_beats 22 = .ok (.getfield 22, 3) := by decide +kernel
theorem d_D_beats_25 : decode b_D_beats 25 = .ok (.iload_n 1, 1) := by decide +kernel
theorem d_D_beats_26 : decode b_D_beats 26 = .ok (.iaload, 1) := by decide +kernel
theorem d_D_beats_27 : decode b_D_beats 27 = .ok (.aload_n 0, 1) := by decide +kernel
theorem d_D_beats_28 : decode b_D_beats 28 = .ok (.getfield 22, 3) := by decide +kernel
theorem d_D_beats_31 : decode b_D_beats 31 = .ok (.iload_n 2, 1) := by decide +kernel
theorem d_D_beats_32 : decode b_D_beats 32 = .ok (.iaload, 1) := by decide +kernel
theorem d_D_beats_33 : decode b_D_beats 33 = .ok (.if_icmp .ne 34, 3) := by decide +kernel
theorem d_D_beats_36 : decode b_D_beats 36 = .ok (.iload_n 3, 1) := by decide +kernel
theorem d_D_beats_37 : decode b_D_beats 37 = .ok (.iload 4, 2) := by decide +kernel
theorem d_D_beats_39 : decode b_D_beats 39 = .ok (.if_icmp .gt 24, 3) := by decide +kernel
theorem d_D_beats_42 : decode b_D_beats 42 = .ok (.iload_n 3, 1) := by decide +kernel
theorem d_D_beats_43 : decode b_D_beats 43 = .ok (.iload 4, 2) := by decide +kernel
theorem d_D_beats_45 : decode b_D_beats 45 = .ok (.if_icmp .ne 22, 3) := by decide +kernel
theorem d_D_beats_48 : decode b_D_beats 48 = .ok (.aload_n 0, 1) := by decide +kernel
theorem d_D_beats_49 : decode b_D_beats 49 = .ok (.getfield 25, 3) := by decide +kernel
theorem d_D_beats_52 : decode b_D_beats 52 = .ok (.iload_n 1, 1) := by decide +kernel
theorem d_D_beats_53 : decode b_D_beats 53 = .ok (.iaload, 1) := by decide +kernel
theorem d_D_beats_54 : decode b_D_beats 54 = .ok (.aload_n 0, 1) := by decide +kernel
theorem d_D_beats_55 : decode b_D_beats 55 = .ok (.getfield 25, 3) := by decide +kernel
theorem d_D_beats_58 : decode b_D_beats 58 = .ok (.iload_n 2, 1) := by decide +kernel
theorem d_D_beats_59 : decode b_D_beats 59 = .ok (.iaload, 1) := by decide +kernel
theorem d_D_beats_60 : decode b_D_beats 60 = .ok (.if_icmp .le 7, 3) := by decide +kernel
theorem d_D_beats_63 : decode b_D_beats 63 = .ok (.iconst 1, 1) := by decide +kernel
theorem d_D_beats_64 : decode b_D_beats 64 = .ok (.goto 4, 3) := by decide +kernel
theorem d_D_beats_67 : decode b_D_beats 67 = .ok (.iconst 0, 1) := by decide +kernel
theorem d_D_beats_68 : decode b_D_beats 68 = .ok (.ireturn, 1) := by decide +kernel
theorem d_D_apply_0 : decode b_D_apply 0 = .ok (.iload_n 1, 1) := by decide +kernel
theorem d_D_apply_1 : decode b_D_apply 1 = .ok (.invokestatic 91, 3) := by decide +kernel
theorem d_D_apply_4 : decode b_D_apply 4 = .ok (.bipush 6, 2) := by decide +kernel
theorem d_D_apply_6 : decode b_D_apply 6 = .ok (.if_icmp .ne 25, 3) := by decide +kernel
theorem d_D_apply_9 : decode b_D_apply 9 = .ok (.iload_n 2, 1) := by decide +kernel
theorem d_D_apply_10 : decode b_D_apply 10 = .ok (.invokestatic 71, 3) := by decide +kernel
theorem d_D_apply_13 : decode b_D_apply 13 = .ok (.ifCond .eq 18, 3) := by decide +kernel
theorem d_D_apply_16 : decode b_D_apply 16 = .ok (.iload_n 3, 1) := by decide +kernel
theorem d_D_apply_17 : decode b_D_apply 17 = .ok (.invokestatic 94, 3) := by decide +kernel
theorem d_D_apply_20 : decode b_D_apply 20 = .ok (.ifCond .eq 11, 3) := by decide +kernel
theorem d_D_apply_23 : decode b_D_apply 23 = .ok (.iload 4, 2) := by decide +kernel
theorem d_D_apply_25 : decode b_D_apply 25 = .ok (.invokestatic 94, 3) := by decide +kernel
theorem d_D_apply_28 : decode b_D_apply 28 = .ok (.ifCond .ne 9, 3) := by decide +kernel
theorem d_D_apply_31 : decode b_D_apply 31 = .ok (.aload_n 0, 1) := by decide +kernel
theorem d_D_apply_32 : decode b_D_apply 32 = .ok (.iconst 1, 1) := by decide +kernel
theorem d_D_apply_33 : decode b_D_apply 33 = .ok (.invokevirtual 97, 3) := by decide +kernel
theorem d_D_apply_36 : decode b_D_apply 36 = .ok (.ireturn, 1) := by decide +kernel
theorem d_D_apply_37 : decode b_D_apply 37 = .ok (.aload_n 0, 1) := by decide +kernel
theorem d_D_apply_38 : decode b_D_apply 38 = .ok (.iconst 0, 1) := by decide +kernel
theorem d_D_apply_39 : decode b_D_apply 39 = .ok (.putfield 53, 3) := by decide +kernel
theorem d_D_apply_42 : decode b_D_apply 42 = .ok (.iconst 1, 1) := by decide +kernel
theorem d_D_apply_43 : decode b_D_apply 43 = .ok (.istore 5, 2) := by decide +kernel
theorem d_D_apply_45 : decode b_D_apply 45 = .ok (.iload 5, 2) := by decide +kernel
theorem d_D_apply_47 : decode b_D_apply 47 = .ok (.aload_n 0, 1) := by decide +kernel
theorem d_D_apply_48 : decode b_D_apply 48 = .ok (.getfield 81, 3) := by decide +kernel
theorem d_D_apply_51 : decode b_D_apply 51 = .ok (.if_icmp .gt 60, 3) := by decide +kernel
theorem d_D_apply_54 : decode b_D_apply 54 = .ok (.aload_n 0, 1) := by decide +kernel
theorem d_D_apply_55 : decode b_D_apply 55 = .ok (.getfield 49, 3) := by decide +kernel
theorem d_D_apply_58 : decode b_D_apply 58 = .ok (.iload 5, 2) := by decide +kernel
theorem d_D_apply_60 : decode b_D_apply 60 = .ok (.aload_n 0, 1) := by decide +kernel
theorem d_D_apply_61 : decode b_D_apply 61 = .ok (.iload 5, 2) := by decide +kernel
theorem d_D_apply_63 : decode b_D_apply 63 = .ok (.iload_n 1, 1) := by decide +kernel
theorem d_D_apply_64 : decode b_D_apply 64 = .ok (.iload_n 2, 1) := by decide +kernel
theorem d_D_apply_65 : decode b_D_apply 65 = .ok (.iload_n 3, 1) := by decide +kernel
theorem d_D_apply_66 : decode b_D_apply 66 = .ok (.iload 4, 2) := by decide +kernel
theorem d_D_apply_68 : decode b_D_apply 68 = .ok (.invokevirtual 120, 3) := by decide +kernel
theorem d_D_apply_71 : decode b_D_apply 71 = .ok (.ifCond .eq 32, 3) := by decide +kernel
theorem d_D_apply_74 : decode b_D_apply 74 = .ok (.aload_n 0, 1) := by decide +kernel
theorem d_D_apply_75 : decode b_D_apply 75 = .ok (.getfield 34, 3) := by decide +kernel
theorem d_D_apply_78 : decode b_D_apply 78 = .ok (.iload 5, 2) := by decide +kernel
theorem d_D_apply_80 : decode b_D_apply 80 = .ok (.iaload, 1) := by decide +kernel
theorem d_D_apply_81 : decode b_D_apply 81 = .ok (.ifCond .eq 18, 3) := by decide +kernel
theorem d_D_apply_84 : decode b_D_apply 84 = .ok (.aload_n 0, 1) := by decide +kernel
theorem d_D_apply_85 : decode b_D_apply 85 = .ok (.getfield 34, 3) := by decide +kernel
theorem d_D_apply_88 : decode b_D_apply 88 = .ok (.iload 5, 2) := by decide +kernel
theorem d_D_apply_90 : decode b_D_apply 90 = .ok (.iaload, 1) := by decide +kernel
theorem d_D_apply_91 : decode b_D_apply 91 = .ok (.aload_n 0, 1) := by decide +kernel
theorem d_D_apply_92 : decode b_D_apply 92 = .ok (.getfield 111, 3) := by decide +kernel
theorem d_D_apply_95 : decode b_D_apply 95 = .ok (.iand, 1) := by decide +kernel
theorem d_D_apply_96 : decode b_D_apply 96 = .ok (.ifCond .eq 7, 3) := by decide +kernel
theorem d_D_apply_99 : decode b_D_apply 99 = .ok (.iconst 1, 1) := by decide +kernel
theorem d_D_apply_100 : decode b_D_apply 100 = .ok (.goto 4, 3) := by decide +kernel
theorem d_D_apply_103 : decode b_D_apply 103 = .ok (.iconst 0, 1) := by decide +kernel
theorem d_D_apply_104 : decode b_D_apply 104 = .ok (.bastore, 1) := by decide +kernel
theorem d_D_apply_105 : decode b_D_apply 105 = .ok (.iinc 5 1, 3) := by decide +kernel
theorem d_D_apply_108 : decode b_D_apply 108 = .ok (.goto (-63), 3) := by decide +kernel
theorem d_D_apply_111 : decode b_D_apply 111 = .ok (.aload_n 0, 1) := by decide +kernel
theorem d_D_apply_112 : decode b_D_apply 112 = .ok (.iconst 0, 1) := by decide +kernel
theorem d_D_apply_113 : decode b_D_apply 113 = .ok (.putfield 124, 3) := by decide +kernel
theorem d_D_apply_116 : decode b_D_apply 116 = .ok (.iconst 0, 1) := by decide +kernel
theorem d_D_apply_117 : decode b_D_apply 117 = .ok (.istore 5, 2) := by decide +kernel
theorem d_D_apply_119 : decode b_D_apply 119 = .ok (.iload 5, 2) := by decide +kernel
theorem d_D_apply_121 : decode b_D_apply 121 = .ok (.bipush 8, 2) := by decide +kernel
theorem d_D_apply_123 : decode b_D_apply 123 = .ok (.if_icmp .ge 139, 3) := by decide +kernel
theorem d_D_apply_126 : decode b_D_apply 126 = .ok (.iconst 1, 1) := by decide +kernel
theorem d_D_apply_127 : decode b_D_apply 127 = .ok (.istore 6, 2) := by decide +kernel
theorem d_D_apply_129 : decode b_D_apply 129 = .ok (.iload 6, 2) := by decide +kernel
theorem d_D_apply_131 : decode b_D_apply 131 = .ok (.aload_n 0, 1) := by decide +kernel
theorem d_D_apply_132 : decode b_D_apply 132 = .ok (.getfield 81, 3) := by decide +kernel
theorem d_D_apply_135 : decode b_D_apply 135 = .ok (.if_icmp .gt 121, 3) := by decide +kernel
theorem d_D_apply_138 : decode b_D_apply 138 = .ok (.aload_n 0, 1) := by decide +kernel
theorem d_D_apply_139 : decode b_D_apply 139 = .ok (.getfield 49, 3) := by decide +kernel
theorem d_D_apply_142 : decode b_D_apply 142 = .ok (.iload 6, 2) := by decide +kernel
theorem d_D_apply_144 : decode b_D_apply 144 = .ok (.baload, 1) := by decide +kernel
theorem d_D_apply_145 : decode b_D_apply 145 = .ok (.ifCond .eq 19, 3) := by decide +kernel
theorem d_D_apply_148 : decode b_D_apply 148 = .ok (.aload_n 0, 1) := by decide +kernel
theorem d_D_apply_149 : decode b_D_apply 149 = .ok (.getfield 22, 3) := by decide +kernel
theorem d_D_apply_152 : decode b_D_apply 152 = .ok (.iload 6, 2) := by decide +kernel
theorem d_D_apply_154 : decode b_D_apply 154 = .ok (.iaload, 1) := by decide +kernel
theorem d_D_apply_155 : decode b_D_apply 155 = .ok (.iload 5, 2) := by decide +kernel
theorem d_D_apply_157 : decode b_D_apply 157 = .ok (.if_icmp .ne 7, 3) := by decide +kernel
theorem d_D_apply_160 : decode b_D_apply 160 = .ok (.iconst 1, 1) := by decide +kernel
theorem d_D_apply_161 : decode b_D_apply 161 = .ok (.goto 4, 3) := by decide +kernel
theorem d_D_apply_164 : decode b_D_apply 164 = .ok (.iconst 0, 1) := by decide +kernel
theorem d_D_apply_165 : decode b_D_apply 165 = .ok (.istore 7, 2) := by decide +kernel
theorem d_D_apply_167 : decode b_D_apply 167 = .ok (.iconst 1, 1) := by decide +kernel
theorem d_D_apply_168 : decode b_D_apply 168 = .ok (.istore 8, 2) := by decide +kernel
theorem d_D_apply_170 : decode b_D_apply 170 = .ok (.iload 8, 2) := by decide +kernel
theorem d_D_apply_172 : decode b_D_apply 172 = .ok (.aload_n 0, 1) := by decide +kernel
theorem d_D_apply_173 : decode b_D_apply 173 = .ok (.getfield 81, 3) := by decide +kernel
theorem d_D_apply_176 : decode b_D_apply 176 = .ok (.if_icmp .gt 48, 3) := by decide +kernel
theorem d_D_apply_179 : decode b_D_apply 179 = .ok (.iload 5, 2) := by decide +kernel
theorem d_D_apply_181 : decode b_D_apply 181 = .ok (.iconst 4, 1) := by decide +kernel
theorem d_D_apply_182 : decode b_D_apply 182 = .ok (.if_icmp .ge 42, 3) := by decide +kernel
theorem d_D_apply_185 : decode b_D_apply 185 = .ok (.iload 7, 2) := by decide +kernel
theorem d_D_apply_187 : decode b_D_apply 187 = .ok (.ifCond .eq 28, 3) := by decide +kernel
theorem d_D_apply_190 : decode b_D_apply 190 = .ok (.aload_n 0, 1) := by decide +kernel
theorem d_D_apply_191 : decode b_D_apply 191 = .ok (.getfield 49, 3) := by decide +kernel
theorem d_D_apply_194 : decode b_D_apply 194 = .ok (.iload 8, 2) := by decide +kernel
theorem d_D_apply_196 : decode b_D_apply 196 = .ok (.baload, 1) := by decide +kernel
theorem d_D_apply_197 : decode b_D_apply 197 = .ok (.ifCond .eq 14, 3) := by decide +kernel
theorem d_D_apply_200 : decode b_D_apply 200 = .ok (.aload_n 0, 1) := by decide +kernel
theorem d_D_apply_201 : decode b_D_apply 201 = .ok (.iload 8, 2) := by decide +kernel
theorem d_D_apply_203 : decode b_D_apply 203 = .ok (.iload 6, 2) := by decide +kernel
theorem d_D_apply_205 : decode b_D_apply 205 = .ok (.invokevirtual 127, 3) := by decide +kernel
theorem d_D_apply_208 : decode b_D_apply 208 = .ok (.ifCond .ne 7, 3) := by decide +kernel
theorem d_D_apply_211 : decode b_D_apply 211 = .ok (.iconst 1, 1) := by decide +kernel
theorem d_D_apply_212 : decode b_D_apply 212 = .ok (.goto 4, 3) := by decide +kernel
theorem d_D_apply_215 : decode b_D_apply 215 = .ok (.iconst 0, 1) := by decide +kernel
theorem d_D_apply_216 : decode b_D_apply 216 = .ok (.istore 7, 2) := by decide +kernel
theorem d_D_apply_218 : decode b_D_apply 218 = .ok (.iinc 8 1, 3) := by decide +kernel
theorem d_D_apply_221 : decode b_D_apply 221 = .ok (.goto (-51), 3) := by decide +kernel
theorem d_D_apply_224 : decode b_D_apply 224 = .ok (.iload 7, 2) := by decide +kernel
theorem d_D_apply_226 : decode b_D_apply 226 = .ok (.ifCond .eq 24, 3) := by decide +kernel
theorem d_D_apply_229 : decode b_D_apply 229 = .ok (.aload_n 0, 1) := by decide +kernel
theorem d_D_apply_230 : decode b_D_apply 230 = .ok (.getfield 46, 3) := by decide +kernel
theorem d_D_apply_233 : decode b_D_apply 233 = .ok (.aload_n 0, 1) := by decide +kernel
theorem d_D_apply_234 : decode b_D_apply 234 = .ok (.getfield 124, 3) := by decide +kernel
theorem d_D_apply_237 : decode b_D_apply 237 = .ok (.iload 6, 2) := by decide +kernel
theorem d_D_apply_239 : decode b_D_apply 239 = .ok (.iastore, 1) := by decide +kernel
theorem d_D_apply_240 : decode b_D_apply 240 = .ok (.aload_n 0, 1) := by decide +kernel
theorem d_D_apply_241 : decode b_D_apply 241 = .ok (.dup, 1) := by decide +kernel
theorem d_D_apply_242 : decode b_D_apply 242 = .ok (.getfield 124, 3) := by decide +kernel
theorem d_D_apply_245 : decode b_D_apply 245 = .ok (.iconst 1, 1) := by decide +kernel
theorem d_D_apply_246 : decode b_D_apply 246 = .ok (.iadd, 1) := by decide +kernel
theorem d_D_apply_247 : decode b_D_apply 247 = .ok (.putfield 124, 3) := by decide +kernel
theorem d_D_apply_250 : decode b_D_apply 250 = .ok (.iinc 6 1, 3) := by decide +kernel
theorem d_D_apply_253 : decode b_D_apply 253 = .ok (.goto (-124), 3) := by decide +kernel
theorem d_D_apply_256 : decode b_D_apply 256 = .ok (.iinc 5 1, 3) := by decide +kernel
theorem d_D_apply_259 : decode b_D_apply 259 = .ok (.goto (-140), 3) := by decide +kernel
theorem d_D_apply_262 : decode b_D_apply 262 = .ok (.aload_n 0, 1) := by decide +kernel
theorem d_D_apply_263 : decode b_D_apply 263 = .ok (.getfield 124, 3) := by decide +kernel
theorem d_D_apply_266 : decode b_D_apply 266 = .ok (.ireturn, 1) := by decide +kernel
theorem d_D_at_0 : decode b_D_at 0 = .ok (.aload_n 0, 1) := by decide +kernel
theorem d_D_at_1 : decode b_D_at 1 = .ok (.iconst 0, 1) := by decide +kernel
theorem d_D_at_2 : decode b_D_at 2 = .ok (.putfield 53, 3) := by decide +kernel
theorem d_D_at_5 : decode b_D_at 5 = .ok (.iload_n 1, 1) := by decide +kernel
theorem d_D_at_6 : decode b_D_at 6 = .ok (.ifCond .lt 20, 3) := by decide +kernel
theorem d_D_at_9 : decode b_D_at 9 = .ok (.iload_n 1, 1) := by decide +kernel
theorem d_D_at_10 : decode b_D_at 10 = .ok (.aload_n 0, 1) := by decide +kernel
theorem d_D_at_11 : decode b_D_at 11 = .ok (.getfield 124, 3) := by decide +kernel
theorem d_D_at_14 : decode b_D_at 14 = .ok (.if_icmp .ge 12, 3) := by decide +kernel
theorem d_D_at_17 : decode b_D_at 17 = .ok (.aload_n 0, 1) := by decide +kernel
theorem d_D_at_18 : decode b_D_at 18 = .ok (.getfield 46, 3) := by decide +kernel
theorem d_D_at_21 : decode b_D_at 21 = .ok (.iload_n 1, 1) := by decide +kernel
theorem d_D_at_22 : decode b_D_at 22 = .ok (.iaload, 1) := by decide +kernel
theorem d_D_at_23 : decode b_D_at 23 = .ok (.goto 4, 3) := by decide +kernel
theorem d_D_at_26 : decode b_D_at 26 = .ok (.iconst (-1), 1) := by decide +kernel
theorem d_D_at_27 : decode b_D_at 27 = .ok (.ireturn, 1) := by decide +kernel
theorem d_D_scan_0 : decode b_D_scan 0 = .ok (.iload_n 1, 1) := by decide +kernel
theorem d_D_scan_1 : decode b_D_scan 1 = .ok (.invokestatic 91, 3) := by decide +kernel
theorem d_D_scan_4 : decode b_D_scan 4 = .ok (.ifCond .eq 17, 3) := by decide +kernel
theorem d_D_scan_7 : decode b_D_scan 7 = .ok (.iload_n 2, 1) := by decide +kernel
theorem d_D_scan_8 : decode b_D_scan 8 = .ok (.invokestatic 71, 3) := by decide +kernel
theorem d_D_scan_11 : decode b_D_scan 11 = .ok (.ifCond .eq 10, 3) := by decide +kernel
theorem d_D_scan_14 : decode b_D_scan 14 = .ok (.iload_n 3, 1) := by decide +kernel
theorem d_D_scan_15 : decode b_D_scan 15 = .ok (.invokestatic 94, 3) := by decide +kernel
theorem d_D_scan_18 : decode b_D_scan 18 = .ok (.ifCond .ne 9, 3) := by decide +kernel
theorem d_D_scan_21 : decode b_D_scan 21 = .ok (.aload_n 0, 1) := by decide +kernel
theorem d_D_scan_22 : decode b_D_scan 22 = .ok (.iconst 1, 1) := by decide +kernel
theorem d_D_scan_23 : decode b_D_scan 23 = .ok (.invokevirtual 97, 3) := by decide +kernel
theorem d_D_scan_26 : decode b_D_scan 26 = .ok (.ireturn, 1) := by decide +kernel
theorem d_D_scan_27 : decode b_D_scan 27 = .ok (.aload_n 0, 1) := by decide +kernel
theorem d_D_scan_28 : decode b_D_scan 28 = .ok (.iconst 0, 1) := by decide +kernel
theorem d_D_scan_29 : decode b_D_scan 29 = .ok (.putfield 53, 3) := by decide +kernel
theorem d_D_scan_32 : decode b_D_scan 32 = .ok (.aload_n 0, 1) := by decide +kernel
theorem d_D_scan_33 : decode b_D_scan 33 = .ok (.iconst 0, 1) := by decide +kernel
theorem d_D_scan_34 : decode b_D_scan 34 = .ok (.putfield 124, 3) := by decide +kernel
theorem d_D_scan_37 : decode b_D_scan 37 = .ok (.iconst 1, 1) := by decide +kernel
theorem d_D_scan_38 : decode b_D_scan 38 = .ok (.istore 4, 2) := by decide +kernel
theorem d_D_scan_40 : decode b_D_scan 40 = .ok (.iload 4, 2) := by decide +kernel
theorem d_D_scan_42 : decode b_D_scan 42 = .ok (.aload_n 0, 1) := by decide +kernel
theorem d_D_scan_43 : decode b_D_scan 43 = .ok (.getfield 81, 3) := by decide +kernel
theorem d_D_scan_46 : decode b_D_scan 46 = .ok (.if_icmp .gt 46, 3) := by decide +kernel
theorem d_D_scan_49 : decode b_D_scan 49 = .ok (.aload_n 0, 1) := by decide +kernel
theorem d_D_scan_50 : decode b_D_scan 50 = .ok (.iload 4, 2) := by decide +kernel
theorem d_D_scan_52 : decode b_D_scan 52 = .ok (.iload_n 1, 1) := by decide +kernel
theorem d_D_scan_53 : decode b_D_scan 53 = .ok (.iload_n 2, 1) := by decide +kernel
theorem d_D_scan_54 : decode b_D_scan 54 = .ok (.iload_n 3, 1) := by decide +kernel
theorem d_D_scan_55 : decode b_D_scan 55 = .ok (.aload_n 0, 1) := by decide +kernel
theorem d_D_scan_56 : decode b_D_scan 56 = .ok (.getfield 84, 3) := by decide +kernel
theorem d_D_scan_59 : decode b_D_scan 59 = .ok (.invokevirtual 120, 3) := by decide +kernel
theorem d_D_scan_62 : decode b_D_scan 62 = .ok (.ifCond .eq 24, 3) := by decide +kernel
theorem d_D_scan_65 : decode b_D_scan 65 = .ok (.aload_n 0, 1) := by decide +kernel
theorem d_D_scan_66 : decode b_D_scan 66 = .ok (.getfield 46, 3) := by decide +kernel
theorem d_D_scan_69 : decode b_D_scan 69 = .ok (.aload_n 0, 1) := by decide +kernel
theorem d_D_scan_70 : decode b_D_scan 70 = .ok (.getfield 124, 3) := by decide +kernel
theorem d_D_scan_73 : decode b_D_scan 73 = .ok (.iload 4, 2) := by decide +kernel
theorem d_D_scan_75 : decode b_D_scan 75 = .ok (.iastore, 1) := by decide +kernel
theorem d_D_scan_76 : decode b_D_scan 76 = .ok (.aload_n 0, 1) := by decide +kernel
theorem d_D_scan_77 : decode b_D_scan 77 = .ok (.dup, 1) := by decide +kernel
theorem d_D_scan_78 : decode b_D_scan 78 = .ok (.getfield 124, 3) := by decide +kernel
theorem d_D_scan_81 : decode b_D_scan 81 = .ok (.iconst 1, 1) := by decide +kernel
theorem d_D_scan_82 : decode b_D_scan 82 = .ok (.iadd, 1) := by decide +kernel
theorem d_D_scan_83 : decode b_D_scan 83 = .ok (.putfield 124, 3) := by decide +kernel
theorem d_D_scan_86 : decode b_D_scan 86 = .ok (.iinc 4 1, 3) := by decide +kernel
theorem d_D_scan_89 : decode b_D_scan 89 = .ok (.goto (-49), 3) := by decide +kernel
theorem d_D_scan_92 : decode b_D_scan 92 = .ok (.aload_n 0, 1) := by decide +kernel
theorem d_D_scan_93 : decode b_D_scan 93 = .ok (.getfield 124, 3) := by decide +kernel
theorem d_D_scan_96 : decode b_D_scan 96 = .ok (.ireturn, 1) := by decide +kernel
theorem d_D_change_0 : decode b_D_change 0 = .ok (.iload_n 1, 1) := by decide +kernel
theorem d_D_change_1 : decode b_D_change 1 = .ok (.invokestatic 94, 3) := by decide +kernel
theorem d_D_change_4 : decode b_D_change 4 = .ok (.ifCond .eq 10, 3) := by decide +kernel
theorem d_D_change_7 : decode b_D_change 7 = .ok (.iload_n 2, 1) := by decide +kernel
theorem d_D_change_8 : decode b_D_change 8 = .ok (.invokestatic 94, 3) := by decide +kernel
theorem d_D_change_11 : decode b_D_change 11 = .ok (.ifCond .ne 9, 3) := by decide +kernel
theorem d_D_change_14 : decode b_D_change 14 = .ok (.aload_n 0, 1) := by decide +kernel
theorem d_D_change_15 : decode b_D_change 15 = .ok (.iconst 1, 1) := by decide +kernel
theorem d_D_change_16 : decode b_D_change 16 = .ok (.invokevirtual 97, 3) := by decide +kernel
theorem d_D_change_19 : decode b_D_change 19 = .ok (.ireturn, 1) := by decide +kernel
theorem d_D_change_20 : decode b_D_change 20 = .ok (.aload_n 0, 1) := by decide +kernel
theorem d_D_change_21 : decode b_D_change 21 = .ok (.iconst 0, 1) := by decide +kernel
theorem d_D_change_22 : decode b_D_change 22 = .ok (.putfield 53, 3) := by decide +kernel
theorem d_D_change_25 : decode b_D_change 25 = .ok (.iconst 0, 1) := by decide +kernel
theorem d_D_change_26 : decode b_D_change 26 = .ok (.istore 4, 2) := by decide +kernel
theorem d_D_change_28 : decode b_D_change 28 = .ok (.iconst 1, 1) := by decide +kernel
theorem d_D_change_29 : decode b_D_change 29 = .ok (.istore 5, 2) := by decide +kernel
theorem d_D_change_31 : decode b_D_change 31 = .ok (.iload 5, 2) := by decide +kernel
theorem d_D_change_33 : decode b_D_change 33 = .ok (.aload_n 0, 1) := by decide +kernel
theorem d_D_change_34 : decode b_D_change 34 = .ok (.getfield 81, 3) := by decide +kernel
theorem d_D_change_37 : decode b_D_change 37 = .ok (.if_icmp .gt 46, 3) := by decide +kernel
theorem d_D_change_40 : decode b_D_change 40 = .ok (.aload_n 0, 1) := by decide +kernel
theorem d_D_change_41 : decode b_D_change 41 = .ok (.iload 5, 2) := by decide +kernel
theorem d_D_change_43 : decode b_D_change 43 = .ok (.iload_n 1, 1) := by decide +kernel
theorem d_D_change_44 : decode b_D_change 44 = .ok (.aload_n 0, 1) := by decide +kernel
theorem d_D_change_45 : decode b_D_change 45 = .ok (.getfield 84, 3) := by decide +kernel
theorem d_D_change_48 : decode b_D_change 48 = .ok (.invokevirtual 117, 3) := by decide +kernel
theorem d_D_change_51 : decode b_D_change 51 = .ok (.aload_n 0, 1) := by decide +kernel
theorem d_D_change_52 : decode b_D_change 52 = .ok (.iload 5, 2) := by decide +kernel
theorem d_D_change_54 : decode b_D_change 54 = .ok (.iload_n 2, 1) := by decide +kernel
theorem d_D_change_55 : decode b_D_change 55 = .ok (.aload_n 0, 1) := by decide +kernel
theorem d_D_change_56 : decode b_D_change 56 = .ok (.getfield 84, 3) := by decide +kernel
theorem d_D_change_59 : decode b_D_change 59 = .ok (.invokevirtual 117, 3) := by decide +kernel
theorem d_D_change_62 : decode b_D_change 62 = .ok (.if_icmp .eq 15, 3) := by decide +kernel
theorem d_D_change_65 : decode b_D_change 65 = .ok (.iload 4, 2) := by decide +kernel
theorem d_D_change_67 : decode b_D_change 67 = .ok (.iload_n 3, 1) := by decide +kernel
theorem d_D_change_68 : decode b_D_change 68 = .ok (.if_icmp .ne 6, 3) := by decide +kernel
theorem d_D_change_71 : decode b_D_change 71 = .ok (.iload 5, 2) := by decide +kernel
theorem d_D_change_73 : decode b_D_change 73 = .ok (.ireturn, 1) := by decide +kernel
theorem d_D_change_74 : decode b_D_change 74 = .ok (.iinc 4 1, 3) := by decide +kernel
theorem d_D_change_77 : decode b_D_change 77 = .ok (.iinc 5 1, 3) := by decide +kernel
theorem d_D_change_80 : decode b_D_change 80 = .ok (.goto (-49), 3) := by decide +kernel
theorem d_D_change_83 : decode b_D_change 83 = .ok (.iconst (-1), 1) := by decide +kernel
theorem d_D_change_84 : decode b_D_change 84 = .ok (.ireturn, 1) := by decide +kernel
theorem d_D_look_0 : decode b_D_look 0 = .ok (.aload_n 0, 1) := by decide +kernel
theorem d_D_look_1 : decode b_D_look 1 = .ok (.iload_n 1, 1) := by decide +kernel
theorem d_D_look_2 : decode b_D_look 2 = .ok (.invokevirtual 104, 3) := by decide +kernel
theorem d_D_look_5 : decode b_D_look 5 = .ok (.ifCond .eq 13, 3) := by decide +kernel
theorem d_D_look_8 : decode b_D_look 8 = .ok (.iload_n 2, 1) := by decide +kernel
theorem d_D_look_9 : decode b_D_look 9 = .ok (.iconst 0, 1) := by decide +kernel
theorem d_D_look_10 : decode b_D_look 10 = .ok (.bipush 9, 2) := by decide +kernel
theorem d_D_look_12 : decode b_D_look 12 = .ok (.invokestatic 57, 3) := by decide +kernel
theorem d_D_look_15 : decode b_D_look 15 = .ok (.ifCond .ne 9, 3) := by decide +kernel
theorem d_D_look_18 : decode b_D_look 18 = .ok (.aload_n 0, 1) := by decide +kernel
theorem d_D_look_19 : decode b_D_look 19 = .ok (.iconst 1, 1) := by decide +kernel
theorem d_D_look_20 : decode b_D_look 20 = .ok (.invokevirtual 97, 3) := by decide +kernel
theorem d_D_look_23 : decode b_D_look 23 = .ok (.ireturn, 1) := by decide +kernel
theorem d_D_look_24 : decode b_D_look 24 = .ok (.aload_n 0, 1) := by decide +kernel
theorem d_D_look_25 : decode b_D_look 25 = .ok (.iconst 0, 1) := by decide +kernel
theorem d_D_look_26 : decode b_D_look 26 = .ok (.putfield 53, 3) := by decide +kernel
theorem d_D_look_29 : decode b_D_look 29 = .ok (.iload_n 2, 1) := by decide +kernel
theorem d_D_look_30 : decode b_D_look 30 = .ok (.tableswitch 119 0 8 #[50, 57, 64, 71, 81, 88, 95, 102, 109], 50) := by decide +kernel
theorem d_D_look_80 : decode b_D_look 80 = .ok (.aload_n 0, 1) := by decide +kernel
theorem d_D_look_81 : decode b_D_look 81 = .ok (.getfield 13, 3) := by decide +kernel
theorem d_D_look_84 : decode b_D_look 84 = .ok (.iload_n 1, 1) := by decide +kernel
theorem d_D_look_85 : decode b_D_look 85 = .ok (.iaload, 1) := by decide +kernel
theorem d_D_look_86 : decode b_D_look 86 = .ok (.ireturn, 1) := by decide +kernel
theorem d_D_look_87 : decode b_D_look 87 = .ok (.aload_n 0, 1) := by decide +kernel
theorem d_D_look_88 : decode b_D_look 88 = .ok (.getfield 16, 3) := by decide +kernel
theorem d_D_look_91 : decode b_D_look 91 = .ok (.iload_n 1, 1) := by decide +kernel
theorem d_D_look_92 : decode b_D_look 92 = .ok (.iaload, 1) := by decide +kernel
theorem d_D_look_93 : decode b_D_look 93 = .ok (.ireturn, 1) := by decide +kernel
theorem d_D_look_94 : decode b_D_look 94 = .ok (.aload_n 0, 1) := by decide +kernel
theorem d_D_look_95 : decode b_D_look 95 = .ok (.getfield 19, 3) := by decide +kernel
theorem d_D_look_98 : decode b_D_look 98 = .ok (.iload_n 1, 1) := by decide +kernel
theorem d_D_look_99 : decode b_D_look 99 = .ok (.iaload, 1) := by decide +kernel
theorem d_D_look_100 : decode b_D_look 100 = .ok (.ireturn, 1) := by decide +kernel
theorem d_D_look_101 : decode b_D_look 101 = .ok (.aload_n 0, 1) := by decide +kernel
theorem d_D_look_102 : decode b_D_look 102 = .ok (.iload_n 1, 1) := by decide +kernel
theorem d_D_look_103 : decode b_D_look 103 = .ok (.aload_n 0, 1) := by decide +kernel
theorem d_D_look_104 : decode b_D_look 104 = .ok (.getfield 84, 3) := by decide +kernel
theorem d_D_look_107 : decode b_D_look 107 = .ok (.invokevirtual 87, 3) := by decide +kernel
theorem d_D_look_110 : decode b_D_look 110 = .ok (.ireturn, 1) := by decide +kernel
theorem d_D_look_111 : decode b_D_look 111 = .ok (.aload_n 0, 1) := by decide +kernel
theorem d_D_look_112 : decode b_D_look 112 = .ok (.getfield 22, 3) := by decide +kernel
theorem d_D_look_115 : decode b_D_look 115 = .ok (.iload_n 1, 1) := by decide +kernel
theorem d_D_look_116 : decode b_D_look 116 = .ok (.iaload, 1) := by decide +kernel
theorem d_D_look_117 : decode b_D_look 117 = .ok (.ireturn, 1) := by decide +kernel
theorem d_D_look_118 : decode b_D_look 118 = .ok (.aload_n 0, 1) := by decide +kernel
theorem d_D_look_119 : decode b_D_look 119 = .ok (.getfield 25, 3) := by decide +kernel
theorem d_D_look_122 : decode b_D_look 122 = .ok (.iload_n 1, 1) := by decide +kernel
theorem d_D_look_123 : decode b_D_look 123 = .ok (.iaload, 1) := by decide +kernel
theorem d_D_look_124 : decode b_D_look 124 = .ok (.ireturn, 1) := by decide +kernel
theorem d_D_look_125 : decode b_D_look 125 = .ok (.aload_n 0, 1) := by decide +kernel
theorem d_D_look_126 : decode b_D_look 126 = .ok (.getfield 28, 3) := by decide +kernel
theorem d_D_look_129 : decode b_D_look 129 = .ok (.iload_n 1, 1) := by decide +kernel
theorem d_D_look_130 : decode b_D_look 130 = .ok (.iaload, 1) := by decide +kernel
theorem d_D_look_131 : decode b_D_look 131 = .ok (.ireturn, 1) := by decide +kernel
theorem d_D_look_132 : decode b_D_look 132 = .ok (.aload_n 0, 1) := by decide +kernel
theorem d_D_look_133 : decode b_D_look 133 = .ok (.getfield 37, 3) := by decide +kernel
theorem d_D_look_136 : decode b_D_look 136 = .ok (.iload_n 1, 1) := by decide +kernel
theorem d_D_look_137 : decode b_D_look 137 = .ok (.iaload, 1) := by decide +kernel
theorem d_D_look_138 : decode b_D_look 138 = .ok (.ireturn, 1) := by decide +kernel
theorem d_D_look_139 : decode b_D_look 139 = .ok (.aload_n 0, 1) := by decide +kernel
theorem d_D_look_140 : decode b_D_look 140 = .ok (.getfield 31, 3) := by decide +kernel
theorem d_D_look_143 : decode b_D_look 143 = .ok (.iload_n 1, 1) := by decide +kernel
theorem d_D_look_144 : decode b_D_look 144 = .ok (.iaload, 1) := by decide +kernel
theorem d_D_look_145 : decode b_D_look 145 = .ok (.invokestatic 107, 3) := by decide +kernel
theorem d_D_look_148 : decode b_D_look 148 = .ok (.ireturn, 1) := by decide +kernel
theorem d_D_look_149 : decode b_D_look 149 = .ok (.aload_n 0, 1) := by decide +kernel
theorem d_D_look_150 : decode b_D_look 150 = .ok (.getfield 34, 3) := by decide +kernel
theorem d_D_look_153 : decode b_D_look 153 = .ok (.iload_n 1, 1) := by decide +kernel
theorem d_D_look_154 : decode b_D_look 154 = .ok (.iaload, 1) := by decide +kernel
theorem d_D_look_155 : decode b_D_look 155 = .ok (.invokestatic 107, 3) := by decide +kernel
theorem d_D_look_158 : decode b_D_look 158 = .ok (.ireturn, 1) := by decide +kernel
theorem d_D_count_0 : decode b_D_count 0 = .ok (.aload_n 0, 1) := by decide +kernel
theorem d_D_count_1 : decode b_D_count 1 = .ok (.iconst 0, 1) := by decide +kernel
theorem d_D_count_2 : decode b_D_count 2 = .ok (.putfield 53, 3) := by decide +kernel
theorem d_D_count_5 : decode b_D_count 5 = .ok (.iload_n 1, 1) := by decide +kernel
theorem d_D_count_6 : decode b_D_count 6 = .ok (.invokestatic 67, 3) := by decide +kernel
theorem d_D_count_9 : decode b_D_count 9 = .ok (.ifCond .eq 15, 3) := by decide +kernel
theorem d_D_count_12 : decode b_D_count 12 = .ok (.aload_n 0, 1) := by decide +kernel
theorem d_D_count_13 : decode b_D_count 13 = .ok (.iload_n 1, 1) := by decide +kernel
theorem d_D_count_14 : decode b_D_count 14 = .ok (.invokevirtual 63, 3) := by decide +kernel
theorem d_D_count_17 : decode b_D_count 17 = .ok (.ldc 110, 2) := by decide +kernel
theorem d_D_count_19 : decode b_D_count 19 = .ok (.iand, 1) := by decide +kernel
theorem d_D_count_20 : decode b_D_count 20 = .ok (.invokestatic 107, 3) := by decide +kernel
theorem d_D_count_23 : decode b_D_count 23 = .ok (.ireturn, 1) := by decide +kernel
theorem d_D_count_24 : decode b_D_count 24 = .ok (.iload_n 1, 1) := by decide +kernel
theorem d_D_count_25 : decode b_D_count 25 = .ok (.tableswitch 51 0 3 #[31, 36, 41, 46], 31) := by decide +kernel
theorem d_D_count_56 : decode b_D_count 56 = .ok (.aload_n 0, 1) := by decide +kernel
theorem d_D_count_57 : decode b_D_count 57 = .ok (.getfield 81, 3) := by decide +kernel
theorem d_D_count_60 : decode b_D_count 60 = .ok (.ireturn, 1) := by decide +kernel
theorem d_D_count_61 : decode b_D_count 61 = .ok (.aload_n 0, 1) := by decide +kernel
theorem d_D_count_62 : decode b_D_count 62 = .ok (.getfield 84, 3) := by decide +kernel
theorem d_D_count_65 : decode b_D_count 65 = .ok (.ireturn, 1) := by decide +kernel
theorem d_D_count_66 : decode b_D_count 66 = .ok (.aload_n 0, 1) := by decide +kernel
theorem d_D_count_67 : decode b_D_count 67 = .ok (.getfield 124, 3) := by decide +kernel
theorem d_D_count_70 : decode b_D_count 70 = .ok (.ireturn, 1) := by decide +kernel
theorem d_D_count_71 : decode b_D_count 71 = .ok (.aload_n 0, 1) := by decide +kernel
theorem d_D_count_72 : decode b_D_count 72 = .ok (.getfield 111, 3) := by decide +kernel
theorem d_D_count_75 : decode b_D_count 75 = .ok (.ireturn, 1) := by decide +kernel
theorem d_D_count_76 : decode b_D_count 76 = .ok (.iconst (-1), 1) := by decide +kernel
theorem d_D_count_77 : decode b_D_count 77 = .ok (.ireturn, 1) := by decide +kernel
end
section
theorem d_L_ring_0 : decode b_L_ring 0 = .ok (.aload_n 3, 1) := by decide +kernel
theorem d_L_ring_1 : decode b_L_ring 1 = .ok (.iconst 0, 1) := by decide +kernel
theorem d_L_ring_2 : decode b_L_ring 2 = .ok (.aload_n 0, 1) := by decide +kernel
theorem d_L_ring_3 : decode b_L_ring 3 = .ok (.iload_n 1, 1) := by decide +kernel
theorem d_L_ring_4 : decode b_L_ring 4 = .ok (.iload_n 2, 1) := by decide +kernel
theorem d_L_ring_5 : decode b_L_ring 5 = .ok (.invokevirtual 7, 3) := by decide +kernel
theorem d_L_ring_8 : decode b_L_ring 8 = .ok (.ifCond .eq 7, 3) := by decide +kernel
theorem d_L_ring_11 : decode b_L_ring 11 = .ok (.lconst 1, 1) := by decide +kernel
theorem d_L_ring_12 : decode b_L_ring 12 = .ok (.goto 4, 3) := by decide +kernel
theorem d_L_ring_15 : decode b_L_ring 15 = .ok (.lconst 0, 1) := by decide +kernel
theorem d_L_ring_16 : decode b_L_ring 16 = .ok (.lastore, 1) := by decide +kernel
theorem d_L_ring_17 : decode b_L_ring 17 = .ok (.goto 7, 3) := by decide +kernel
theorem d_L_ring_20 : decode b_L_ring 20 = .ok (.astore 4, 2) := by decide +kernel
theorem d_L_ring_22 : decode b_L_ring 22 = .ok (.iconst 1, 1) := by decide +kernel
theorem d_L_ring_23 : decode b_L_ring 23 = .ok (.ireturn, 1) := by decide +kernel
theorem d_L_ring_24 : decode b_L_ring 24 = .ok (.iconst 0, 1) := by decide +kernel
theorem d_L_ring_25 : decode b_L_ring 25 = .ok (.ireturn, 1) := by decide +kernel
theorem d_L_has_0 : decode b_L_has 0 = .ok (.aload_n 3, 1) := by decide +kernel
theorem d_L_has_1 : decode b_L_has 1 = .ok (.iconst 0, 1) := by decide +kernel
theorem d_L_has_2 : decode b_L_has 2 = .ok (.aload_n 0, 1) := by decide +kernel
theorem d_L_has_3 : decode b_L_has 3 = .ok (.iload_n 1, 1) := by decide +kernel
theorem d_L_has_4 : decode b_L_has 4 = .ok (.iload_n 2, 1) := by decide +kernel
theorem d_L_has_5 : decode b_L_has 5 = .ok (.invokevirtual 15, 3) := by decide +kernel
theorem d_L_has_8 : decode b_L_has 8 = .ok (.ifCond .eq 7, 3) := by decide +kernel
theorem d_L_has_11 : decode b_L_has 11 = .ok (.lconst 1, 1) := by decide +kernel
theorem d_L_has_12 : decode b_L_has 12 = .ok (.goto 4, 3) := by decide +kernel
theorem d_L_has_15 : decode b_L_has 15 = .ok (.lconst 0, 1) := by decide +kernel
theorem d_L_has_16 : decode b_L_has 16 = .ok (.lastore, 1) := by decide +kernel
theorem d_L_has_17 : decode b_L_has 17 = .ok (.goto 7, 3) := by decide +kernel
theorem d_L_has_20 : decode b_L_has 20 = .ok (.astore 4, 2) := by decide +kernel
theorem d_L_has_22 : decode b_L_has 22 = .ok (.iconst 1, 1) := by decide +kernel
theorem d_L_has_23 : decode b_L_has 23 = .ok (.ireturn, 1) := by decide +kernel
theorem d_L_has_24 : decode b_L_has 24 = .ok (.iconst 0, 1) := by decide +kernel
theorem d_L_has_25 : decode b_L_has 25 = .ok (.ireturn, 1) := by decide +kernel
theorem d_L_row_0 : decode b_L_row 0 = .ok (.aload 8, 2) := by decide +kernel
theorem d_L_row_2 : decode b_L_row 2 = .ok (.iconst 0, 1) := by decide +kernel
theorem d_L_row_3 : decode b_L_row 3 = .ok (.aload_n 0, 1) := by decide +kernel
theorem d_L_row_4 : decode b_L_row 4 = .ok (.iload_n 1, 1) := by decide +kernel
theorem d_L_row_5 : decode b_L_row 5 = .ok (.iload_n 2, 1) := by decide +kernel
theorem d_L_row_6 : decode b_L_row 6 = .ok (.iload_n 3, 1) := by decide +kernel
theorem d_L_row_7 : decode b_L_row 7 = .ok (.iload 4, 2) := by decide +kernel
theorem d_L_row_9 : decode b_L_row 9 = .ok (.iload 5, 2) := by decide +kernel
theorem d_L_row_11 : decode b_L_row 11 = .ok (.iload 6, 2) := by decide +kernel
theorem d_L_row_13 : decode b_L_row 13 = .ok (.iload 7, 2) := by decide +kernel
theorem d_L_row_15 : decode b_L_row 15 = .ok (.invokevirtual 18, 3) := by decide +kernel
theorem d_L_row_18 : decode b_L_row 18 = .ok (.i2l, 1) := by decide +kernel
theorem d_L_row_19 : decode b_L_row 19 = .ok (.lastore, 1) := by decide +kernel
theorem d_L_row_20 : decode b_L_row 20 = .ok (.goto 11, 3) := by decide +kernel
theorem d_L_row_23 : decode b_L_row 23 = .ok (.astore 9, 2) := by decide +kernel
theorem d_L_row_25 : decode b_L_row 25 = .ok (.iconst 1, 1) := by decide +kernel
theorem d_L_row_26 : decode b_L_row 26 = .ok (.ireturn, 1) := by decide +kernel
theorem d_L_row_27 : decode b_L_row 27 = .ok (.astore 9, 2) := by decide +kernel
theorem d_L_row_29 : decode b_L_row 29 = .ok (.iconst 2, 1) := by decide +kernel
theorem d_L_row_30 : decode b_L_row 30 = .ok (.ireturn, 1) := by decide +kernel
theorem d_L_row_31 : decode b_L_row 31 = .ok (.iconst 0, 1) := by decide +kernel
theorem d_L_row_32 : decode b_L_row 32 = .ok (.ireturn, 1) := by decide +kernel
theorem d_L_end_0 : decode b_L_end 0 = .ok (.aload 4, 2) := by decide +kernel
theorem d_L_end_2 : decode b_L_end 2 = .ok (.iconst 0, 1) := by decide +kernel
theorem d_L_end_3 : decode b_L_end 3 = .ok (.aload_n 0, 1) := by decide +kernel
theorem d_L_end_4 : decode b_L_end 4 = .ok (.iload_n 1, 1) := by decide +kernel
theorem d_L_end_5 : decode b_L_end 5 = .ok (.iload_n 2, 1) := by decide +kernel
theorem d_L_end_6 : decode b_L_end 6 = .ok (.iload_n 3, 1) := by decide +kernel
theorem d_L_end_7 : decode b_L_end 7 = .ok (.invokevirtual 26, 3) := by decide +kernel
theorem d_L_end_10 : decode b_L_end 10 = .ok (.i2l, 1) := by decide +kernel
theorem d_L_end_11 : decode b_L_end 11 = .ok (.lastore, 1) := by decide +kernel
theorem d_L_end_12 : decode b_L_end 12 = .ok (.goto 15, 3) := by decide +kernel
theorem d_L_end_15 : decode b_L_end 15 = .ok (.astore 5, 2) := by decide +kernel
theorem d_L_end_17 : decode b_L_end 17 = .ok (.iconst 1, 1) := by decide +kernel
theorem d_L_end_18 : decode b_L_end 18 = .ok (.ireturn, 1) := by decide +kernel
theorem d_L_end_19 : decode b_L_end 19 = .ok (.astore 5, 2) := by decide +kernel
theorem d_L_end_21 : decode b_L_end 21 = .ok (.iconst 2, 1) := by decide +kernel
theorem d_L_end_22 : decode b_L_end 22 = .ok (.ireturn, 1) := by decide +kernel
theorem d_L_end_23 : decode b_L_end 23 = .ok (.astore 5, 2) := by decide +kernel
theorem d_L_end_25 : decode b_L_end 25 = .ok (.iconst 3, 1) := by decide +kernel
theorem d_L_end_26 : decode b_L_end 26 = .ok (.ireturn, 1) := by decide +kernel
theorem d_L_end_27 : decode b_L_end 27 = .ok (.iconst 0, 1) := by decide +kernel
theorem d_L_end_28 : decode b_L_end 28 = .ok (.ireturn, 1) := by decide +kernel
theorem d_L_apply_0 : decode b_L_apply 0 = .ok (.aload 5, 2) := by decide +kernel
theorem d_L_apply_2 : decode b_L_apply 2 = .ok (.iconst 0, 1) := by decide +kernel
theorem d_L_apply_3 : decode b_L_apply 3 = .ok (.aload_n 0, 1) := by decide +kernel
theorem d_L_apply_4 : decode b_L_apply 4 = .ok (.iload_n 1, 1) := by decide +kernel
theorem d_L_apply_5 : decode b_L_apply 5 = .ok (.iload_n 2, 1) := by decide +kernel
theorem d_L_apply_6 : decode b_L_apply 6 = .ok (.iload_n 3, 1) := by decide +kernel
theorem d_L_apply_7 : decode b_L_apply 7 = .ok (.iload 4, 2) := by decide +kernel
theorem d_L_apply_9 : decode b_L_apply 9 = .ok (.invokevirtual 30, 3) := by decide +kernel
theorem d_L_apply_12 : decode b_L_apply 12 = .ok (.i2l, 1) := by decide +kernel
theorem d_L_apply_13 : decode b_L_apply 13 = .ok (.lastore, 1) := by decide +kernel
theorem d_L_apply_14 : decode b_L_apply 14 = .ok (.goto 7, 3) := by decide +kernel
theorem d_L_apply_17 : decode b_L_apply 17 = .ok (.astore 6, 2) := by decide +kernel
theorem d_L_apply_19 : decode b_L_apply 19 = .ok (.iconst 1, 1) := by decide +kernel
theorem d_L_apply_20 : decode b_L_apply 20 = .ok (.ireturn, 1) := by decide +kernel
theorem d_L_apply_21 : decode b_L_apply 21 = .ok (.iconst 0, 1) := by decide +kernel
theorem d_L_apply_22 : decode b_L_apply 22 = .ok (.ireturn, 1) := by decide +kernel
theorem d_L_scan_0 : decode b_L_scan 0 = .ok (.aload 4, 2) := by decide +kernel
theorem d_L_scan_2 : decode b_L_scan 2 = .ok (.iconst 0, 1) := by decide +kernel
theorem d_L_scan_3 : decode b_L_scan 3 = .ok (.aload_n 0, 1) := by decide +kernel
theorem d_L_scan_4 : decode b_L_scan 4 = .ok (.iload_n 1, 1) := by decide +kernel
theorem d_L_scan_5 : decode b_L_scan 5 = .ok (.iload_n 2, 1) := by decide +kernel
theorem d_L_scan_6 : decode b_L_scan 6 = .ok (.iload_n 3, 1) := by decide +kernel
theorem d_L_scan_7 : decode b_L_scan 7 = .ok (.invokevirtual 34, 3) := by decide +kernel
theorem d_L_scan_10 : decode b_L_scan 10 = .ok (.i2l, 1) := by decide +kernel
theorem d_L_scan_11 : decode b_L_scan 11 = .ok (.lastore, 1) := by decide +kernel
theorem d_L_scan_12 : decode b_L_scan 12 = .ok (.goto 7, 3) := by decide +kernel
theorem d_L_scan_15 : decode b_L_scan 15 = .ok (.astore 5, 2) := by decide +kernel
theorem d_L_scan_17 : decode b_L_scan 17 = .ok (.iconst 1, 1) := by decide +kernel
theorem d_L_scan_18 : decode b_L_scan 18 = .ok (.ireturn, 1) := by decide +kernel
theorem d_L_scan_19 : decode b_L_scan 19 = .ok (.iconst 0, 1) := by decide +kernel
theorem d_L_scan_20 : decode b_L_scan 20 = .ok (.ireturn, 1) := by decide +kernel
theorem d_L_change_0 : decode b_L_change 0 = .ok (.aload 4, 2) := by decide +kernel
theorem d_L_change_2 : decode b_L_change 2 = .ok (.iconst 0, 1) := by decide +kernel
theorem d_L_change_3 : decode b_L_change 3 = .ok (.aload_n 0, 1) := by decide +kernel
theorem d_L_change_4 : decode b_L_change 4 = .ok (.iload_n 1, 1) := by decide +kernel
theorem d_L_change_5 : decode b_L_change 5 = .ok (.iload_n 2, 1) := by decide +kernel
theorem d_L_change_6 : decode b_L_change 6 = .ok (.iload_n 3, 1) := by decide +kernel
theorem d_L_change_7 : decode b_L_change 7 = .ok (.invokevirtual 37, 3) := by decide +kernel
theorem d_L_change_10 : decode b_L_change 10 = .ok (.i2l, 1) := by decide +kernel
theorem d_L_change_11 : decode b_L_change 11 = .ok (.lastore, 1) := by decide +kernel
theorem d_L_change_12 : decode b_L_change 12 = .ok (.goto 7, 3) := by decide +kernel
theorem d_L_change_15 : decode b_L_change 15 = .ok (.astore 5, 2) := by decide +kernel
theorem d_L_change_17 : decode b_L_change 17 = .ok (.iconst 1, 1) := by decide +kernel
theorem d_L_change_18 : decode b_L_change 18 = .ok (.ireturn, 1) := by decide +kernel
theorem d_L_change_19 : decode b_L_change 19 = .ok (.iconst 0, 1) := by decide +kernel
theorem d_L_change_20 : decode b_L_change 20 = .ok (.ireturn, 1) := by decide +kernel
theorem d_L_look_0 : decode b_L_look 0 = .ok (.aload_n 3, 1) := by decide +kernel
theorem d_L_look_1 : decode b_L_look 1 = .ok (.iconst 0, 1) := by decide +kernel
theorem d_L_look_2 : decode b_L_look 2 = .ok (.aload_n 0, 1) := by decide +kernel
theorem d_L_look_3 : decode b_L_look 3 = .ok (.iload_n 1, 1) := by decide +kernel
theorem d_L_look_4 : decode b_L_look 4 = .ok (.iload_n 2, 1) := by decide +kernel
theorem d_L_look_5 : decode b_L_look 5 = .ok (.invokevirtual 40, 3) := by decide +kernel
theorem d_L_look_8 : decode b_L_look 8 = .ok (.i2l, 1) := by decide +kernel
theorem d_L_look_9 : decode b_L_look 9 = .ok (.lastore, 1) := by decide +kernel
theorem d_L_look_10 : decode b_L_look 10 = .ok (.goto 7, 3) := by decide +kernel
theorem d_L_look_13 : decode b_L_look 13 = .ok (.astore 4, 2) := by decide +kernel
theorem d_L_look_15 : decode b_L_look 15 = .ok (.iconst 1, 1) := by decide +kernel
theorem d_L_look_16 : decode b_L_look 16 = .ok (.ireturn, 1) := by decide +kernel
theorem d_L_look_17 : decode b_L_look 17 = .ok (.iconst 0, 1) := by decide +kernel
theorem d_L_look_18 : decode b_L_look 18 = .ok (.ireturn, 1) := by decide +kernel
theorem d_L_law_0 : decode code 0 = .ok (.new 8, 3) := by decide +kernel
theorem d_L_law_3 : decode code 3 = .ok (.dup, 1) := by decide +kernel
theorem d_L_law_4 : decode code 4 = .ok (.invokespecial 44, 3) := by decide +kernel
theorem d_L_law_7 : decode code 7 = .ok (.astore_n 1, 1) := by decide +kernel
theorem d_L_law_8 : decode code 8 = .ok (.new 45, 3) := by decide +kernel
theorem d_L_law_11 : decode code 11 = .ok (.dup, 1) := by decide +kernel
theorem d_L_law_12 : decode code 12 = .ok (.invokespecial 47, 3) := by decide +kernel
theorem d_L_law_15 : decode code 15 = .ok (.astore_n 2, 1) := by decide +kernel
theorem d_L_law_16 : decode code 16 = .ok (.iconst 1, 1) := by decide +kernel
theorem d_L_law_17 : decode code 17 = .ok (.newarray .long, 2) := by decide +kernel
theorem d_L_law_19 : decode code 19 = .ok (.astore_n 3, 1) := by decide +kernel
theorem d_L_law_20 : decode code 20 = .ok (.iconst 0, 1) := by decide +kernel
theorem d_L_law_21 : decode code 21 = .ok (.istore 4, 2) := by decide +kernel
theorem d_L_law_23 : decode code 23 = .ok (.iload 4, 2) := by decide +kernel
theorem d_L_law_25 : decode code 25 = .ok (.aload_n 0, 1) := by decide +kernel
theorem d_L_law_26 : decode code 26 = .ok (.arraylength, 1) := by decide +kernel
theorem d_L_law_27 : decode code 27 = .ok (.bipush 8, 2) := by decide +kernel
theorem d_L_law_29 : decode code 29 = .ok (.isub, 1) := by decide +kernel
theorem d_L_law_30 : decode code 30 = .ok (.if_icmp .gt 751, 3) := by decide +kernel
theorem d_L_law_33 : decode code 33 = .ok (.aload_n 0, 1) := by decide +kernel
theorem d_L_law_34 : decode code 34 = .ok (.iload 4, 2) := by decide +kernel
theorem d_L_law_36 : decode code 36 = .ok (.iaload, 1) := by decide +kernel
theorem d_L_law_37 : decode code 37 = .ok (.bipush 15, 2) := by decide +kernel
theorem d_L_law_39 : decode code 39 = .ok (.iand, 1) := by decide +kernel
theorem d_L_law_40 : decode code 40 = .ok (.tableswitch 735 0 13 #[72, 109, 184, 224, 328, 365, 402, 454, 477, 541, 566, 618, 670, 710], 72) := by decide +kernel
theorem d_L_law_112 : decode code 112 = .ok (.aload_n 1, 1) := by decide +kernel
theorem d_L_law_113 : decode code 113 = .ok (.aload_n 0, 1) := by decide +kernel
theorem d_L_law_114 : decode code 114 = .ok (.iload 4, 2) := by decide +kernel
theorem d_L_law_116 : decode code 116 = .ok (.iconst 1, 1) := by decide +kernel
theorem d_L_law_117 : decode code 117 = .ok (.iadd, 1) := by decide +kernel
theorem d_L_law_118 : decode code 118 = .ok (.iaload, 1) := by decide +kernel
theorem d_L_law_119 : decode code 119 = .ok (.aload_n 0, 1) := by decide +kernel
theorem d_L_law_120 : decode code 120 = .ok (.iload 4, 2) := by decide +kernel
theorem d_L_law_122 : decode code 122 = .ok (.iconst 2, 1) := by decide +kernel
theorem d_L_law_123 : decode code 123 = .ok (.iadd, 1) := by decide +kernel
theorem d_L_law_124 : decode code 124 = .ok (.iaload, 1) := by decide +kernel
theorem d_L_law_125 : decode code 125 = .ok (.invokevirtual 48, 3) := by decide +kernel
theorem d_L_law_128 : decode code 128 = .ok (.pop, 1) := by decide +kernel
theorem d_L_law_129 : decode code 129 = .ok (.aload_n 2, 1) := by decide +kernel
theorem d_L_law_130 : decode code 130 = .ok (.aload_n 0, 1) := by decide +kernel
theorem d_L_law_131 : decode code 131 = .ok (.iload 4, 2) := by decide +kernel
theorem d_L_law_133 : decode code 133 = .ok (.iconst 1, 1) := by decide +kernel
theorem d_L_law_134 : decode code 134 = .ok (.iadd, 1) := by decide +kernel
theorem d_L_law_135 : decode code 135 = .ok (.iaload, 1) := by decide +kernel
theorem d_L_law_136 : decode code 136 = .ok (.aload_n 0, 1) := by decide +kernel
theorem d_L_law_137 : decode code 137 = .ok (.iload 4, 2) := by decide +kernel
theorem d_L_law_139 : decode code 139 = .ok (.iconst 2, 1) := by decide +kernel
theorem d_L_law_140 : decode code 140 = .ok (.iadd, 1) := by decide +kernel
theorem d_L_law_141 : decode code 141 = .ok (.iaload, 1) := by decide +kernel
theorem d_L_law_142 : decode code 142 = .ok (.invokevirtual 51, 3) := by decide +kernel
theorem d_L_law_145 : decode code 145 = .ok (.pop, 1) := by decide +kernel
theorem d_L_law_146 : decode code 146 = .ok (.goto 629, 3) := by decide +kernel
theorem d_L_law_149 : decode code 149 = .ok (.aload_n 1, 1) := by decide +kernel
theorem d_L_law_150 : decode code 150 = .ok (.aload_n 0, 1) := by decide +kernel
theorem d_L_law_151 : decode code 151 = .ok (.iload 4, 2) := by decide +kernel
theorem d_L_law_153 : decode code 153 = .ok (.iconst 1, 1) := by decide +kernel
theorem d_L_law_154 : decode code 154 = .ok (.iadd, 1) := by decide +kernel
theorem d_L_law_155 : decode code 155 = .ok (.iaload, 1) := by decide +kernel
theorem d_L_law_156 : decode code 156 = .ok (.aload_n 0, 1) := by decide +kernel
theorem d_L_law_157 : decode code 157 = .ok (.iload 4, 2) := by decide +kernel
theorem d_L_law_159 : decode code 159 = .ok (.iconst 2, 1) := by decide +kernel
theorem d_L_law_160 : decode code 160 = .ok (.iadd, 1) := by decide +kernel
theorem d_L_law_161 : decode code 161 = .ok (.iaload, 1) := by decide +kernel
theorem d_L_law_162 : decode code 162 = .ok (.aload_n 3, 1) := by decide +kernel
theorem d_L_law_163 : decode code 163 = .ok (.invokestatic 52, 3) := by decide +kernel
theorem d_L_law_166 : decode code 166 = .ok (.istore 5, 2) := by decide +kernel
theorem d_L_law_168 : decode code 168 = .ok (.aload_n 2, 1) := by decide +kernel
theorem d_L_law_169 : decode code 169 = .ok (.aload_n 0, 1) := by decide +kernel
theorem d_L_law_170 : decode code 170 = .ok (.iload 4, 2) := by decide +kernel
theorem d_L_law_172 : decode code 172 = .ok (.iconst 1, 1) := by decide +kernel
theorem d_L_law_173 : decode code 173 = .ok (.iadd, 1) := by decide +kernel
theorem d_L_law_174 : decode code 174 = .ok (.iaload, 1) := by decide +kernel
theorem d_L_law_175 : decode code 175 = .ok (.aload_n 0, 1) := by decide +kernel
theorem d_L_law_176 : decode code 176 = .ok (.iload 4, 2) := by decide +kernel
theorem d_L_law_178 : decode code 178 = .ok (.iconst 2, 1) := by decide +kernel
theorem d_L_law_179 : decode code 179 = .ok (.iadd, 1) := by decide +kernel
theorem d_L_law_180 : decode code 180 = .ok (.iaload, 1) := by decide +kernel
theorem d_L_law_181 : decode code 181 = .ok (.invokevirtual 57, 3) := by decide +kernel
theorem d_L_law_184 : decode code 184 = .ok (.istore 6, 2) := by decide +kernel
theorem d_L_law_186 : decode code 186 = .ok (.aload_n 2, 1) := by decide +kernel
theorem d_L_law_187 : decode code 187 = .ok (.invokevirtual 58, 3) := by decide +kernel
theorem d_L_law_190 : decode code 190 = .ok (.iload 5, 2) := by decide +kernel
theorem d_L_law_192 : decode code 192 = .ok (.if_icmp .eq 5, 3) := by decide +kernel
theorem d_L_law_195 : decode code 195 = .ok (.iconst 0, 1) := by decide +kernel
theorem d_L_law_196 : decode code 196 = .ok (.ireturn, 1) := by decide +kernel
theorem d_L_law_197 : decode code 197 = .ok (.iload 5, 2) := by decide +kernel
theorem d_L_law_199 : decode code 199 = .ok (.ifCond .ne 22, 3) := by decide +kernel
theorem d_L_law_202 : decode code 202 = .ok (.aload_n 3, 1) := by decide +kernel
theorem d_L_law_203 : decode code 203 = .ok (.iconst 0, 1) := by decide +kernel
theorem d_L_law_204 : decode code 204 = .ok (.laload, 1) := by decide +kernel
theorem d_L_law_205 : decode code 205 = .ok (.iload 6, 2) := by decide +kernel
theorem d_L_law_207 : decode code 207 = .ok (.ifCond .eq 7, 3) := by decide +kernel
theorem d_L_law_210 : decode code 210 = .ok (.lconst 1, 1) := by decide +kernel
theorem d_L_law_211 : decode code 211 = .ok (.goto 4, 3) := by decide +kernel
theorem d_L_law_214 : decode code 214 = .ok (.lconst 0, 1) := by decide +kernel
theorem d_L_law_215 : decode code 215 = .ok (.lcmp, 1) := by decide +kernel
theorem d_L_law_216 : decode code 216 = .ok (.ifCond .eq 5, 3) := by decide +kernel
theorem d_L_law_219 : decode code 219 = .ok (.iconst 0, 1) := by decide +kernel
theorem d_L_law_220 : decode code 220 = .ok (.ireturn, 1) := by decide +kernel
theorem d_L_law_221 : decode code 221 = .ok (.goto 554, 3) := by decide +kernel
theorem d_L_law_224 : decode code 224 = .ok (.aload_n 1, 1) := by decide +kernel
theorem d_L_law_225 : decode code 225 = .ok (.aload_n 0, 1) := by decide +kernel
theorem d_L_law_226 : decode code 226 = .ok (.iload 4, 2) := by decide +kernel
theorem d_L_law_228 : decode code 228 = .ok (.iconst 1, 1) := by decide +kernel
theorem d_L_law_229 : decode code 229 = .ok (.iadd, 1) := by decide +kernel
theorem d_L_law_230 : decode code 230 = .ok (.iaload, 1) := by decide +kernel
theorem d_L_law_231 : decode code 231 = .ok (.aload_n 0, 1) := by decide +kernel
theorem d_L_law_232 : decode code 232 = .ok (.iload 4, 2) := by decide +kernel
theorem d_L_law_234 : decode code 234 = .ok (.iconst 2, 1) := by decide +kernel
theorem d_L_law_235 : decode code 235 = .ok (.iadd, 1) := by decide +kernel
theorem d_L_law_236 : decode code 236 = .ok (.iaload, 1) := by decide +kernel
theorem d_L_law_237 : decode code 237 = .ok (.aload_n 3, 1) := by decide +kernel
theorem d_L_law_238 : decode code 238 = .ok (.invokestatic 62, 3) := by decide +kernel
theorem d_L_law_241 : decode code 241 = .ok (.istore 5, 2) := by decide +kernel
theorem d_L_law_243 : decode code 243 = .ok (.aload_n 2, 1) := by decide +kernel
theorem d_L_law_244 : decode code 244 = .ok (.aload_n 0, 1) := by decide +kernel
theorem d_L_law_245 : decode code 245 = .ok (.iload 4, 2) := by decide +kernel
theorem d_L_law_247 : decode code 247 = .ok (.iconst 1, 1) := by decide +kernel
theorem d_L_law_248 : decode code 248 = .ok (.iadd, 1) := by decide +kernel
theorem d_L_law_249 : decode code 249 = .ok (.iaload, 1) := by decide +kernel
theorem d_L_law_250 : decode code 250 = .ok (.aload_n 0, 1) := by decide +kernel
theorem d_L_law_251 : decode code 251 = .ok (.iload 4, 2) := by decide +kernel
theorem d_L_law_253 : decode code 253 = .ok (.iconst 2, 1) := by decide +kernel
theorem d_L_law_254 : decode code 254 = .ok (.iadd, 1) := by decide +kernel
theorem d_L_law_255 : decode code 255 = .ok (.iaload, 1) := by decide +kernel
theorem d_L_law_256 : decode code 256 = .ok (.invokevirtual 64, 3) := by decide +kernel
theorem d_L_law_259 : decode code 259 = .ok (.istore 6, 2) := by decide +kernel
theorem d_L_law_261 : decode code 261 = .ok (.goto 514, 3) := by decide +kernel
theorem d_L_law_264 : decode code 264 = .ok (.aload_n 1, 1) := by decide +kernel
theorem d_L_law_265 : decode code 265 = .ok (.aload_n 0, 1) := by decide +kernel
theorem d_L_law_266 : decode code 266 = .ok (.iload 4, 2) := by decide +kernel
theorem d_L_law_268 : decode code 268 = .ok (.iconst 1, 1) := by decide +kernel
theorem d_L_law_269 : decode code 269 = .ok (.iadd, 1) := by decide +kernel
theorem d_L_law_270 : decode code 270 = .ok (.iaload, 1) := by decide +kernel
theorem d_L_law_271 : decode code 271 = .ok (.aload_n 0, 1) := by decide +kernel
theorem d_L_law_272 : decode code 272 = .ok (.iload 4, 2) := by decide +kernel
theorem d_L_law_274 : decode code 274 = .ok (.iconst 2, 1) := by decide +kernel
theorem d_L_law_275 : decode code 275 = .ok (.iadd, 1) := by decide +kernel
theorem d_L_law_276 : decode code 276 = .ok (.iaload, 1) := by decide +kernel
theorem d_L_law_277 : decode code 277 = .ok (.aload_n 0, 1) := by decide +kernel
theorem d_L_law_278 : decode code 278 = .ok (.iload 4, 2) := by decide +kernel
theorem d_L_law_280 : decode code 280 = .ok (.iconst 3, 1) := by decide +kernel
theorem d_L_law_281 : decode code 281 = .ok (.iadd, 1) := by decide +kernel
theorem d_L_law_282 : decode code 282 = .ok (.iaload, 1) := by decide +kernel
theorem d_L_law_283 : decode code 283 = .ok (.aload_n 0, 1) := by decide +kernel
theorem d_L_law_284 : decode code 284 = .ok (.iload 4, 2) := by decide +kernel
theorem d_L_law_286 : decode code 286 = .ok (.iconst 4, 1) := by decide +kernel
theorem d_L_law_287 : decode code 287 = .ok (.iadd, 1) := by decide +kernel
theorem d_L_law_288 : decode code 288 = .ok (.iaload, 1) := by decide +kernel
theorem d_L_law_289 : decode code 289 = .ok (.aload_n 0, 1) := by decide +kernel
theorem d_L_law_290 : decode code 290 = .ok (.iload 4, 2) := by decide +kernel
theorem d_L_law_292 : decode code 292 = .ok (.iconst 5, 1) := by decide +kernel
theorem d_L_law_293 : decode code 293 = .ok (.iadd, 1) := by decide +kernel
theorem d_L_law_294 : decode code 294 = .ok (.iaload, 1) := by decide +kernel
theorem d_L_law_295 : decode code 295 = .ok (.aload_n 0, 1) := by decide +kernel
theorem d_L_law_296 : decode code 296 = .ok (.iload 4, 2) := by decide +kernel
theorem d_L_law_298 : decode code 298 = .ok (.bipush 6, 2) := by decide +kernel
theorem d_L_law_300 : decode code 300 = .ok (.iadd, 1) := by decide +kernel
theorem d_L_law_301 : decode code 301 = .ok (.iaload, 1) := by decide +kernel
theorem d_L_law_302 : decode code 302 = .ok (.aload_n 0, 1) := by decide +kernel
theorem d_L_law_303 : decode code 303 = .ok (.iload 4, 2) := by decide +kernel
theorem d_L_law_305 : decode code 305 = .ok (.bipush 7, 2) := by decide +kernel
theorem d_L_law_307 : decode code 307 = .ok (.iadd, 1) := by decide +kernel
theorem d_L_law_308 : decode code 308 = .ok (.iaload, 1) := by decide +kernel
theorem d_L_law_309 : decode code 309 = .ok (.aload_n 3, 1) := by decide +kernel
theorem d_L_law_310 : decode code 310 = .ok (.invokestatic 65, 3) := by decide +kernel
theorem d_L_law_313 : decode code 313 = .ok (.istore 5, 2) := by decide +kernel
theorem d_L_law_315 : decode code 315 = .ok (.aload_n 2, 1) := by decide +kernel
theorem d_L_law_316 : decode code 316 = .ok (.aload_n 0, 1) := by decide +kernel
theorem d_L_law_317 : decode code 317 = .ok (.iload 4, 2) := by decide +kernel
theorem d_L_law_319 : decode code 319 = .ok (.iconst 1, 1) := by decide +kernel
theorem d_L_law_320 : decode code 320 = .ok (.iadd, 1) := by decide +kernel
theorem d_L_law_321 : decode code 321 = .ok (.iaload, 1) := by decide +kernel
theorem d_L_law_322 : decode code 322 = .ok (.aload_n 0, 1) := by decide +kernel
theorem d_L_law_323 : decode code 323 = .ok (.iload 4, 2) := by decide +kernel
theorem d_L_law_325 : decode code 325 = .ok (.iconst 2, 1) := by decide +kernel
theorem d_L_law_326 : decode code 326 = .ok (.iadd, 1) := by decide +kernel
theorem d_L_law_327 : decode code 327 = .ok (.iaload, 1) := by decide +kernel
theorem d_L_law_328 : decode code 328 = .ok (.aload_n 0, 1) := by decide +kernel
theorem d_L_law_329 : decode code 329 = .ok (.iload 4, 2) := by decide +kernel
theorem d_L_law_331 : decode code 331 = .ok (.iconst 3, 1) := by decide +kernel
theorem d_L_law_332 : decode code 332 = .ok (.iadd, 1) := by decide +kernel
theorem d_L_law_333 : decode code 333 = .ok (.iaload, 1) := by decide +kernel
theorem d_L_law_334 : decode code 334 = .ok (.aload_n 0, 1) := by decide +kernel
theorem d_L_law_335 : decode code 335 = .ok (.iload 4, 2) := by decide +kernel
theorem d_L_law_337 : decode code 337 = .ok (.iconst 4, 1) := by decide +kernel
theorem d_L_law_338 : decode code 338 = .ok (.iadd, 1) := by decide +kernel
theorem d_L_law_339 : decode code 339 = .ok (.iaload, 1) := by decide +kernel
theorem d_L_law_340 : decode code 340 = .ok (.aload_n 0, 1) := by decide +kernel
theorem d_L_law_341 : decode code 341 = .ok (.iload 4, 2) := by decide +kernel
theorem d_L_law_343 : decode code 343 = .ok (.iconst 5, 1) := by decide +kernel
theorem d_L_law_344 : decode code 344 = .ok (.iadd, 1) := by decide +kernel
theorem d_L_law_345 : decode code 345 = .ok (.iaload, 1) := by decide +kernel
theorem d_L_law_346 : decode code 346 = .ok (.aload_n 0, 1) := by decide +kernel
theorem d_L_law_347 : decode code 347 = .ok (.iload 4, 2) := by decide +kernel
theorem d_L_law_349 : decode code 349 = .ok (.bipush 6, 2) := by decide +kernel
theorem d_L_law_351 : decode code 351 = .ok (.iadd, 1) := by decide +kernel
theorem d_L_law_352 : decode code 352 = .ok (.iaload, 1) := by decide +kernel
theorem d_L_law_353 : decode code 353 = .ok (.aload_n 0, 1) := by decide +kernel
theorem d_L_law_354 : decode code 354 = .ok (.iload 4, 2) := by decide +kernel
theorem d_L_law_356 : decode code 356 = .ok (.bipush 7, 2) := by decide +kernel
theorem d_L_law_358 : decode code 358 = .ok (.iadd, 1) := by decide +kernel
theorem d_L_law_359 : decode code 359 = .ok (.iaload, 1) := by decide +kernel
theorem d_L_law_360 : decode code 360 = .ok (.invokevirtual 68, 3) := by decide +kernel
theorem d_L_law_363 : decode code 363 = .ok (.istore 6, 2) := by decide +kernel
theorem d_L_law_365 : decode code 365 = .ok (.goto 410, 3) := by decide +kernel
theorem d_L_law_368 : decode code 368 = .ok (.aload_n 1, 1) := by decide +kernel
theorem d_L_law_369 : decode code 369 = .ok (.aload_n 0, 1) := by decide +kernel
theorem d_L_law_370 : decode code 370 = .ok (.iload 4, 2) := by decide +kernel
theorem d_L_law_372 : decode code 372 = .ok (.iconst 1, 1) := by decide +kernel
theorem d_L_law_373 : decode code 373 = .ok (.iadd, 1) := by decide +kernel
theorem d_L_law_374 : decode code 374 = .ok (.iaload, 1) := by decide +kernel
theorem d_L_law_375 : decode code 375 = .ok (.aload_n 0, 1) := by decide +kernel
theorem d_L_law_376 : decode code 376 = .ok (.iload 4, 2) := by decide +kernel
theorem d_L_law_378 : decode code 378 = .ok (.iconst 2, 1) := by decide +kernel
theorem d_L_law_379 : decode code 379 = .ok (.iadd, 1) := by decide +kernel
theorem d_L_law_380 : decode code 380 = .ok (.iaload, 1) := by decide +kernel
theorem d_L_law_381 : decode code 381 = .ok (.invokevirtual 69, 3) := by decide +kernel
theorem d_L_law_384 : decode code 384 = .ok (.pop, 1) := by decide +kernel
theorem d_L_law_385 : decode code 385 = .ok (.aload_n 2, 1) := by decide +kernel
end
section
theorem d_L_law_386 : decode code 386 = .ok (.aload_n 0, 1) := by decide +kernel
theorem d_L_law_387 : decode code 387 = .ok (.iload 4, 2) := by decide +kernel
theorem d_L_law_389 : decode code 389 = .ok (.iconst 1, 1) := by decide +kernel
theorem d_L_law_390 : decode code 390 = .ok (.iadd, 1) := by decide +kernel
theorem d_L_law_391 : decode code 391 = .ok (.iaload, 1) := by decide +kernel
theorem d_L_law_392 : decode code 392 = .ok (.aload_n 0, 1) := by decide +kernel
theorem d_L_law_393 : decode code 393 = .ok (.iload 4, 2) := by decide +kernel
theorem d_L_law_395 : decode code 395 = .ok (.iconst 2, 1) := by decide +kernel
theorem d_L_law_396 : decode code 396 = .ok (.iadd, 1) := by decide +kernel
theorem d_L_law_397 : decode code 397 = .ok (.iaload, 1) := by decide +kernel
theorem d_L_law_398 : decode code 398 = .ok (.invokevirtual 72, 3) := by decide +kernel
theorem d_L_law_401 : decode code 401 = .ok (.pop, 1) := by decide +kernel
theorem d_L_law_402 : decode code 402 = .ok (.goto 373, 3) := by decide +kernel
theorem d_L_law_405 : decode code 405 = .ok (.aload_n 1, 1) := by decide +kernel
theorem d_L_law_406 : decode code 406 = .ok (.aload_n 0, 1) := by decide +kernel
theorem d_L_law_407 : decode code 407 = .ok (.iload 4, 2) := by decide +kernel
theorem d_L_law_409 : decode code 409 = .ok (.iconst 1, 1) := by decide +kernel
theorem d_L_law_410 : decode code 410 = .ok (.iadd, 1) := by decide +kernel
theorem d_L_law_411 : decode code 411 = .ok (.iaload, 1) := by decide +kernel
theorem d_L_law_412 : decode code 412 = .ok (.aload_n 0, 1) := by decide +kernel
theorem d_L_law_413 : decode code 413 = .ok (.iload 4, 2) := by decide +kernel
theorem d_L_law_415 : decode code 415 = .ok (.iconst 2, 1) := by decide +kernel
theorem d_L_law_416 : decode code 416 = .ok (.iadd, 1) := by decide +kernel
theorem d_L_law_417 : decode code 417 = .ok (.iaload, 1) := by decide +kernel
theorem d_L_law_418 : decode code 418 = .ok (.invokevirtual 73, 3) := by decide +kernel
theorem d_L_law_421 : decode code 421 = .ok (.pop, 1) := by decide +kernel
theorem d_L_law_422 : decode code 422 = .ok (.aload_n 2, 1) := by decide +kernel
theorem d_L_law_423 : decode code 423 = .ok (.aload_n 0, 1) := by decide +kernel
theorem d_L_law_424 : decode code 424 = .ok (.iload 4, 2) := by decide +kernel
theorem d_L_law_426 : decode code 426 = .ok (.iconst 1, 1) := by decide +kernel
theorem d_L_law_427 : decode code 427 = .ok (.iadd, 1) := by decide +kernel
theorem d_L_law_428 : decode code 428 = .ok (.iaload, 1) := by decide +kernel
theorem d_L_law_429 : decode code 429 = .ok (.aload_n 0, 1) := by decide +kernel
theorem d_L_law_430 : decode code 430 = .ok (.iload 4, 2) := by decide +kernel
theorem d_L_law_432 : decode code 432 = .ok (.iconst 2, 1) := by decide +kernel
theorem d_L_law_433 : decode code 433 = .ok (.iadd, 1) := by decide +kernel
theorem d_L_law_434 : decode code 434 = .ok (.iaload, 1) := by decide +kernel
theorem d_L_law_435 : decode code 435 = .ok (.invokevirtual 76, 3) := by decide +kernel
theorem d_L_law_438 : decode code 438 = .ok (.pop, 1) := by decide +kernel
theorem d_L_law_439 : decode code 439 = .ok (.goto 336, 3) := by decide +kernel
theorem d_L_law_442 : decode code 442 = .ok (.aload_n 1, 1) := by decide +kernel
theorem d_L_law_443 : decode code 443 = .ok (.aload_n 0, 1) := by decide +kernel
theorem d_L_law_444 : decode code 444 = .ok (.iload 4, 2) := by decide +kernel
theorem d_L_law_446 : decode code 446 = .ok (.iconst 1, 1) := by decide +kernel
theorem d_L_law_447 : decode code 447 = .ok (.iadd, 1) := by decide +kernel
theorem d_L_law_448 : decode code 448 = .ok (.iaload, 1) := by decide +kernel
theorem d_L_law_449 : decode code 449 = .ok (.aload_n 0, 1) := by decide +kernel
theorem d_L_law_450 : decode code 450 = .ok (.iload 4, 2) := by decide +kernel
theorem d_L_law_452 : decode code 452 = .ok (.iconst 2, 1) := by decide +kernel
theorem d_L_law_453 : decode code 453 = .ok (.iadd, 1) := by decide +kernel
theorem d_L_law_454 : decode code 454 = .ok (.iaload, 1) := by decide +kernel
theorem d_L_law_455 : decode code 455 = .ok (.aload_n 0, 1) := by decide +kernel
theorem d_L_law_456 : decode code 456 = .ok (.iload 4, 2) := by decide +kernel
theorem d_L_law_458 : decode code 458 = .ok (.iconst 3, 1) := by decide +kernel
theorem d_L_law_459 : decode code 459 = .ok (.iadd, 1) := by decide +kernel
theorem d_L_law_460 : decode code 460 = .ok (.iaload, 1) := by decide +kernel
theorem d_L_law_461 : decode code 461 = .ok (.aload_n 3, 1) := by decide +kernel
theorem d_L_law_462 : decode code 462 = .ok (.invokestatic 77, 3) := by decide +kernel
theorem d_L_law_465 : decode code 465 = .ok (.istore 5, 2) := by decide +kernel
theorem d_L_law_467 : decode code 467 = .ok (.aload_n 2, 1) := by decide +kernel
theorem d_L_law_468 : decode code 468 = .ok (.aload_n 0, 1) := by decide +kernel
theorem d_L_law_469 : decode code 469 = .ok (.iload 4, 2) := by decide +kernel
theorem d_L_law_471 : decode code 471 = .ok (.iconst 1, 1) := by decide +kernel
theorem d_L_law_472 : decode code 472 = .ok (.iadd, 1) := by decide +kernel
theorem d_L_law_473 : decode code 473 = .ok (.iaload, 1) := by decide +kernel
theorem d_L_law_474 : decode code 474 = .ok (.aload_n 0, 1) := by decide +kernel
theorem d_L_law_475 : decode code 475 = .ok (.iload 4, 2) := by decide +kernel
theorem d_L_law_477 : decode code 477 = .ok (.iconst 2, 1) := by decide +kernel
theorem d_L_law_478 : decode code 478 = .ok (.iadd, 1) := by decide +kernel
theorem d_L_law_479 : decode code 479 = .ok (.iaload, 1) := by decide +kernel
theorem d_L_law_480 : decode code 480 = .ok (.aload_n 0, 1) := by decide +kernel
theorem d_L_law_481 : decode code 481 = .ok (.iload 4, 2) := by decide +kernel
theorem d_L_law_483 : decode code 483 = .ok (.iconst 3, 1) := by decide +kernel
theorem d_L_law_484 : decode code 484 = .ok (.iadd, 1) := by decide +kernel
theorem d_L_law_485 : decode code 485 = .ok (.iaload, 1) := by decide +kernel
theorem d_L_law_486 : decode code 486 = .ok (.invokevirtual 80, 3) := by decide +kernel
theorem d_L_law_489 : decode code 489 = .ok (.istore 6, 2) := by decide +kernel
theorem d_L_law_491 : decode code 491 = .ok (.goto 284, 3) := by decide +kernel
theorem d_L_law_494 : decode code 494 = .ok (.aload_n 1, 1) := by decide +kernel
theorem d_L_law_495 : decode code 495 = .ok (.aload_n 0, 1) := by decide +kernel
theorem d_L_law_496 : decode code 496 = .ok (.iload 4, 2) := by decide +kernel
theorem d_L_law_498 : decode code 498 = .ok (.iconst 1, 1) := by decide +kernel
theorem d_L_law_499 : decode code 499 = .ok (.iadd, 1) := by decide +kernel
theorem d_L_law_500 : decode code 500 = .ok (.iaload, 1) := by decide +kernel
theorem d_L_law_501 : decode code 501 = .ok (.invokevirtual 81, 3) := by decide +kernel
theorem d_L_law_504 : decode code 504 = .ok (.aload_n 2, 1) := by decide +kernel
theorem d_L_law_505 : decode code 505 = .ok (.aload_n 0, 1) := by decide +kernel
theorem d_L_law_506 : decode code 506 = .ok (.iload 4, 2) := by decide +kernel
theorem d_L_law_508 : decode code 508 = .ok (.iconst 1, 1) := by decide +kernel
theorem d_L_law_509 : decode code 509 = .ok (.iadd, 1) := by decide +kernel
theorem d_L_law_510 : decode code 510 = .ok (.iaload, 1) := by decide +kernel
theorem d_L_law_511 : decode code 511 = .ok (.invokevirtual 85, 3) := by decide +kernel
theorem d_L_law_514 : decode code 514 = .ok (.goto 261, 3) := by decide +kernel
theorem d_L_law_517 : decode code 517 = .ok (.aload_n 1, 1) := by decide +kernel
theorem d_L_law_518 : decode code 518 = .ok (.aload_n 0, 1) := by decide +kernel
theorem d_L_law_519 : decode code 519 = .ok (.iload 4, 2) := by decide +kernel
theorem d_L_law_521 : decode code 521 = .ok (.iconst 1, 1) := by decide +kernel
theorem d_L_law_522 : decode code 522 = .ok (.iadd, 1) := by decide +kernel
theorem d_L_law_523 : decode code 523 = .ok (.iaload, 1) := by decide +kernel
theorem d_L_law_524 : decode code 524 = .ok (.aload_n 0, 1) := by decide +kernel
theorem d_L_law_525 : decode code 525 = .ok (.iload 4, 2) := by decide +kernel
theorem d_L_law_527 : decode code 527 = .ok (.iconst 2, 1) := by decide +kernel
theorem d_L_law_528 : decode code 528 = .ok (.iadd, 1) := by decide +kernel
theorem d_L_law_529 : decode code 529 = .ok (.iaload, 1) := by decide +kernel
theorem d_L_law_530 : decode code 530 = .ok (.aload_n 0, 1) := by decide +kernel
theorem d_L_law_531 : decode code 531 = .ok (.iload 4, 2) := by decide +kernel
theorem d_L_law_533 : decode code 533 = .ok (.iconst 3, 1) := by decide +kernel
theorem d_L_law_534 : decode code 534 = .ok (.iadd, 1) := by decide +kernel
theorem d_L_law_535 : decode code 535 = .ok (.iaload, 1) := by decide +kernel
theorem d_L_law_536 : decode code 536 = .ok (.aload_n 0, 1) := by decide +kernel
theorem d_L_law_537 : decode code 537 = .ok (.iload 4, 2) := by decide +kernel
theorem d_L_law_539 : decode code 539 = .ok (.iconst 4, 1) := by decide +kernel
theorem d_L_law_540 : decode code 540 = .ok (.iadd, 1) := by decide +kernel
theorem d_L_law_541 : decode code 541 = .ok (.iaload, 1) := by decide +kernel
theorem d_L_law_542 : decode code 542 = .ok (.aload_n 3, 1) := by decide +kernel
theorem d_L_law_543 : decode code 543 = .ok (.invokestatic 86, 3) := by decide +kernel
theorem d_L_law_546 : decode code 546 = .ok (.istore 5, 2) := by decide +kernel
theorem d_L_law_548 : decode code 548 = .ok (.aload_n 2, 1) := by decide +kernel
theorem d_L_law_549 : decode code 549 = .ok (.aload_n 0, 1) := by decide +kernel
theorem d_L_law_550 : decode code 550 = .ok (.iload 4, 2) := by decide +kernel
theorem d_L_law_552 : decode code 552 = .ok (.iconst 1, 1) := by decide +kernel
theorem d_L_law_553 : decode code 553 = .ok (.iadd, 1) := by decide +kernel
theorem d_L_law_554 : decode code 554 = .ok (.iaload, 1) := by decide +kernel
theorem d_L_law_555 : decode code 555 = .ok (.aload_n 0, 1) := by decide +kernel
theorem d_L_law_556 : decode code 556 = .ok (.iload 4, 2) := by decide +kernel
theorem d_L_law_558 : decode code 558 = .ok (.iconst 2, 1) := by decide +kernel
theorem d_L_law_559 : decode code 559 = .ok (.iadd, 1) := by decide +kernel
theorem d_L_law_560 : decode code 560 = .ok (.iaload, 1) := by decide +kernel
theorem d_L_law_561 : decode code 561 = .ok (.aload_n 0, 1) := by decide +kernel
theorem d_L_law_562 : decode code 562 = .ok (.iload 4, 2) := by decide +kernel
theorem d_L_law_564 : decode code 564 = .ok (.iconst 3, 1) := by decide +kernel
theorem d_L_law_565 : decode code 565 = .ok (.iadd, 1) := by decide +kernel
theorem d_L_law_566 : decode code 566 = .ok (.iaload, 1) := by decide +kernel
theorem d_L_law_567 : decode code 567 = .ok (.aload_n 0, 1) := by decide +kernel
theorem d_L_law_568 : decode code 568 = .ok (.iload 4, 2) := by decide +kernel
theorem d_L_law_570 : decode code 570 = .ok (.iconst 4, 1) := by decide +kernel
theorem d_L_law_571 : decode code 571 = .ok (.iadd, 1) := by decide +kernel
theorem d_L_law_572 : decode code 572 = .ok (.iaload, 1) := by decide +kernel
theorem d_L_law_573 : decode code 573 = .ok (.invokevirtual 89, 3) := by decide +kernel
theorem d_L_law_576 : decode code 576 = .ok (.istore 6, 2) := by decide +kernel
theorem d_L_law_578 : decode code 578 = .ok (.goto 197, 3) := by decide +kernel
theorem d_L_law_581 : decode code 581 = .ok (.aload_n 1, 1) := by decide +kernel
theorem d_L_law_582 : decode code 582 = .ok (.aload_n 0, 1) := by decide +kernel
theorem d_L_law_583 : decode code 583 = .ok (.iload 4, 2) := by decide +kernel
theorem d_L_law_585 : decode code 585 = .ok (.iconst 1, 1) := by decide +kernel
theorem d_L_law_586 : decode code 586 = .ok (.iadd, 1) := by decide +kernel
theorem d_L_law_587 : decode code 587 = .ok (.iaload, 1) := by decide +kernel
theorem d_L_law_588 : decode code 588 = .ok (.invokevirtual 90, 3) := by decide +kernel
theorem d_L_law_591 : decode code 591 = .ok (.pop, 1) := by decide +kernel
theorem d_L_law_592 : decode code 592 = .ok (.aload_n 2, 1) := by decide +kernel
theorem d_L_law_593 : decode code 593 = .ok (.aload_n 0, 1) := by decide +kernel
theorem d_L_law_594 : decode code 594 = .ok (.iload 4, 2) := by decide +kernel
theorem d_L_law_596 : decode code 596 = .ok (.iconst 1, 1) := by decide +kernel
theorem d_L_law_597 : decode code 597 = .ok (.iadd, 1) := by decide +kernel
theorem d_L_law_598 : decode code 598 = .ok (.iaload, 1) := by decide +kernel
theorem d_L_law_599 : decode code 599 = .ok (.invokevirtual 94, 3) := by decide +kernel
theorem d_L_law_602 : decode code 602 = .ok (.pop, 1) := by decide +kernel
theorem d_L_law_603 : decode code 603 = .ok (.goto 172, 3) := by decide +kernel
theorem d_L_law_606 : decode code 606 = .ok (.aload_n 1, 1) := by decide +kernel
theorem d_L_law_607 : decode code 607 = .ok (.aload_n 0, 1) := by decide +kernel
theorem d_L_law_608 : decode code 608 = .ok (.iload 4, 2) := by decide +kernel
theorem d_L_law_610 : decode code 610 = .ok (.iconst 1, 1) := by decide +kernel
theorem d_L_law_611 : decode code 611 = .ok (.iadd, 1) := by decide +kernel
theorem d_L_law_612 : decode code 612 = .ok (.iaload, 1) := by decide +kernel
theorem d_L_law_613 : decode code 613 = .ok (.aload_n 0, 1) := by decide +kernel
theorem d_L_law_614 : decode code 614 = .ok (.iload 4, 2) := by decide +kernel
theorem d_L_law_616 : decode code 616 = .ok (.iconst 2, 1) := by decide +kernel
theorem d_L_law_617 : decode code 617 = .ok (.iadd, 1) := by decide +kernel
theorem d_L_law_618 : decode code 618 = .ok (.iaload, 1) := by decide +kernel
theorem d_L_law_619 : decode code 619 = .ok (.aload_n 0, 1) := by decide +kernel
theorem d_L_law_620 : decode code 620 = .ok (.iload 4, 2) := by decide +kernel
theorem d_L_law_622 : decode code 622 = .ok (.iconst 3, 1) := by decide +kernel
theorem d_L_law_623 : decode code 623 = .ok (.iadd, 1) := by decide +kernel
theorem d_L_law_624 : decode code 624 = .ok (.iaload, 1) := by decide +kernel
theorem d_L_law_625 : decode code 625 = .ok (.aload_n 3, 1) := by decide +kernel
theorem d_L_law_626 : decode code 626 = .ok (.invokestatic 95, 3) := by decide +kernel
theorem d_L_law_629 : decode code 629 = .ok (.istore 5, 2) := by decide +kernel
theorem d_L_law_631 : decode code 631 = .ok (.aload_n 2, 1) := by decide +kernel
theorem d_L_law_632 : decode code 632 = .ok (.aload_n 0, 1) := by decide +kernel
theorem d_L_law_633 : decode code 633 = .ok (.iload 4, 2) := by decide +kernel
theorem d_L_law_635 : decode code 635 = .ok (.iconst 1, 1) := by decide +kernel
theorem d_L_law_636 : decode code 636 = .ok (.iadd, 1) := by decide +kernel
theorem d_L_law_637 : decode code 637 = .ok (.iaload, 1) := by decide +kernel
theorem d_L_law_638 : decode code 638 = .ok (.aload_n 0, 1) := by decide +kernel
theorem d_L_law_639 : decode code 639 = .ok (.iload 4, 2) := by decide +kernel
theorem d_L_law_641 : decode code 641 = .ok (.iconst 2, 1) := by decide +kernel
theorem d_L_law_642 : decode code 642 = .ok (.iadd, 1) := by decide +kernel
theorem d_L_law_643 : decode code 643 = .ok (.iaload, 1) := by decide +kernel
theorem d_L_law_644 : decode code 644 = .ok (.aload_n 0, 1) := by decide +kernel
theorem d_L_law_645 : decode code 645 = .ok (.iload 4, 2) := by decide +kernel
theorem d_L_law_647 : decode code 647 = .ok (.iconst 3, 1) := by decide +kernel
theorem d_L_law_648 : decode code 648 = .ok (.iadd, 1) := by decide +kernel
theorem d_L_law_649 : decode code 649 = .ok (.iaload, 1) := by decide +kernel
theorem d_L_law_650 : decode code 650 = .ok (.invokevirtual 97, 3) := by decide +kernel
theorem d_L_law_653 : decode code 653 = .ok (.istore 6, 2) := by decide +kernel
theorem d_L_law_655 : decode code 655 = .ok (.goto 120, 3) := by decide +kernel
theorem d_L_law_658 : decode code 658 = .ok (.aload_n 1, 1) := by decide +kernel
theorem d_L_law_659 : decode code 659 = .ok (.aload_n 0, 1) := by decide +kernel
theorem d_L_law_660 : decode code 660 = .ok (.iload 4, 2) := by decide +kernel
theorem d_L_law_662 : decode code 662 = .ok (.iconst 1, 1) := by decide +kernel
theorem d_L_law_663 : decode code 663 = .ok (.iadd, 1) := by decide +kernel
theorem d_L_law_664 : decode code 664 = .ok (.iaload, 1) := by decide +kernel
theorem d_L_law_665 : decode code 665 = .ok (.aload_n 0, 1) := by decide +kernel
theorem d_L_law_666 : decode code 666 = .ok (.iload 4, 2) := by decide +kernel
theorem d_L_law_668 : decode code 668 = .ok (.iconst 2, 1) := by decide +kernel
theorem d_L_law_669 : decode code 669 = .ok (.iadd, 1) := by decide +kernel
theorem d_L_law_670 : decode code 670 = .ok (.iaload, 1) := by decide +kernel
theorem d_L_law_671 : decode code 671 = .ok (.aload_n 0, 1) := by decide +kernel
theorem d_L_law_672 : decode code 672 = .ok (.iload 4, 2) := by decide +kernel
theorem d_L_law_674 : decode code 674 = .ok (.iconst 3, 1) := by decide +kernel
end
section
theorem d_L_law_675 : decode code 675 = .ok (.iadd, 1) := by decide +kernel
theorem d_L_law_676 : decode code 676 = .ok (.iaload, 1) := by decide +kernel
theorem d_L_law_677 : decode code 677 = .ok (.aload_n 3, 1) := by decide +kernel
theorem d_L_law_678 : decode code 678 = .ok (.invokestatic 98, 3) := by decide +kernel
theorem d_L_law_681 : decode code 681 = .ok (.istore 5, 2) := by decide +kernel
theorem d_L_law_683 : decode code 683 = .ok (.aload_n 2, 1) := by decide +kernel
theorem d_L_law_684 : decode code 684 = .ok (.aload_n 0, 1) := by decide +kernel
theorem d_L_law_685 : decode code 685 = .ok (.iload 4, 2) := by decide +kernel
theorem d_L_law_687 : decode code 687 = .ok (.iconst 1, 1) := by decide +kernel
theorem d_L_law_688 : decode code 688 = .ok (.iadd, 1) := by decide +kernel
theorem d_L_law_689 : decode code 689 = .ok (.iaload, 1) := by decide +kernel
theorem d_L_law_690 : decode code 690 = .ok (.aload_n 0, 1) := by decide +kernel
theorem d_L_law_691 : decode code 691 = .ok (.iload 4, 2) := by decide +kernel
theorem d_L_law_693 : decode code 693 = .ok (.iconst 2, 1) := by decide +kernel
theorem d_L_law_694 : decode code 694 = .ok (.iadd, 1) := by decide +kernel
theorem d_L_law_695 : decode code 695 = .ok (.iaload, 1) := by decide +kernel
theorem d_L_law_696 : decode code 696 = .ok (.aload_n 0, 1) := by decide +kernel
theorem d_L_law_697 : decode code 697 = .ok (.iload 4, 2) := by decide +kernel
theorem d_L_law_699 : decode code 699 = .ok (.iconst 3, 1) := by decide +kernel
theorem d_L_law_700 : decode code 700 = .ok (.iadd, 1) := by decide +kernel
theorem d_L_law_701 : decode code 701 = .ok (.iaload, 1) := by decide +kernel
theorem d_L_law_702 : decode code 702 = .ok (.invokevirtual 100, 3) := by decide +kernel
theorem d_L_law_705 : decode code 705 = .ok (.istore 6, 2) := by decide +kernel
theorem d_L_law_707 : decode code 707 = .ok (.goto 68, 3) := by decide +kernel
theorem d_L_law_710 : decode code 710 = .ok (.aload_n 1, 1) := by decide +kernel
theorem d_L_law_711 : decode code 711 = .ok (.aload_n 0, 1) := by decide +kernel
theorem d_L_law_712 : decode code 712 = .ok (.iload 4, 2) := by decide +kernel
theorem d_L_law_714 : decode code 714 = .ok (.iconst 1, 1) := by decide +kernel
theorem d_L_law_715 : decode code 715 = .ok (.iadd, 1) := by decide +kernel
theorem d_L_law_716 : decode code 716 = .ok (.iaload, 1) := by decide +kernel
theorem d_L_law_717 : decode code 717 = .ok (.aload_n 0, 1) := by decide +kernel
theorem d_L_law_718 : decode code 718 = .ok (.iload 4, 2) := by decide +kernel
theorem d_L_law_720 : decode code 720 = .ok (.iconst 2, 1) := by decide +kernel
theorem d_L_law_721 : decode code 721 = .ok (.iadd, 1) := by decide +kernel
theorem d_L_law_722 : decode code 722 = .ok (.iaload, 1) := by decide +kernel
theorem d_L_law_723 : decode code 723 = .ok (.aload_n 3, 1) := by decide +kernel
theorem d_L_law_724 : decode code 724 = .ok (.invokestatic 101, 3) := by decide +kernel
theorem d_L_law_727 : decode code 727 = .ok (.istore 5, 2) := by decide +kernel
theorem d_L_law_729 : decode code 729 = .ok (.aload_n 2, 1) := by decide +kernel
theorem d_L_law_730 : decode code 730 = .ok (.aload_n 0, 1) := by decide +kernel
theorem d_L_law_731 : decode code 731 = .ok (.iload 4, 2) := by decide +kernel
theorem d_L_law_733 : decode code 733 = .ok (.iconst 1, 1) := by decide +kernel
theorem d_L_law_734 : decode code 734 = .ok (.iadd, 1) := by decide +kernel
theorem d_L_law_735 : decode code 735 = .ok (.iaload, 1) := by decide +kernel
theorem d_L_law_736 : decode code 736 = .ok (.aload_n 0, 1) := by decide +kernel
theorem d_L_law_737 : decode code 737 = .ok (.iload 4, 2) := by decide +kernel
theorem d_L_law_739 : decode code 739 = .ok (.iconst 2, 1) := by decide +kernel
theorem d_L_law_740 : decode code 740 = .ok (.iadd, 1) := by decide +kernel
theorem d_L_law_741 : decode code 741 = .ok (.iaload, 1) := by decide +kernel
theorem d_L_law_742 : decode code 742 = .ok (.invokevirtual 103, 3) := by decide +kernel
theorem d_L_law_745 : decode code 745 = .ok (.istore 6, 2) := by decide +kernel
theorem d_L_law_747 : decode code 747 = .ok (.goto 28, 3) := by decide +kernel
theorem d_L_law_750 : decode code 750 = .ok (.aload_n 1, 1) := by decide +kernel
theorem d_L_law_751 : decode code 751 = .ok (.aload_n 0, 1) := by decide +kernel
theorem d_L_law_752 : decode code 752 = .ok (.iload 4, 2) := by decide +kernel
theorem d_L_law_754 : decode code 754 = .ok (.iconst 1, 1) := by decide +kernel
theorem d_L_law_755 : decode code 755 = .ok (.iadd, 1) := by decide +kernel
theorem d_L_law_756 : decode code 756 = .ok (.iaload, 1) := by decide +kernel
theorem d_L_law_757 : decode code 757 = .ok (.invokevirtual 104, 3) := by decide +kernel
theorem d_L_law_760 : decode code 760 = .ok (.pop, 1) := by decide +kernel
theorem d_L_law_761 : decode code 761 = .ok (.aload_n 2, 1) := by decide +kernel
theorem d_L_law_762 : decode code 762 = .ok (.aload_n 0, 1) := by decide +kernel
theorem d_L_law_763 : decode code 763 = .ok (.iload 4, 2) := by decide +kernel
theorem d_L_law_765 : decode code 765 = .ok (.iconst 1, 1) := by decide +kernel
theorem d_L_law_766 : decode code 766 = .ok (.iadd, 1) := by decide +kernel
theorem d_L_law_767 : decode code 767 = .ok (.iaload, 1) := by decide +kernel
theorem d_L_law_768 : decode code 768 = .ok (.invokevirtual 107, 3) := by decide +kernel
theorem d_L_law_771 : decode code 771 = .ok (.pop, 1) := by decide +kernel
theorem d_L_law_772 : decode code 772 = .ok (.goto 3, 3) := by decide +kernel
theorem d_L_law_775 : decode code 775 = .ok (.iinc 4 8, 3) := by decide +kernel
theorem d_L_law_778 : decode code 778 = .ok (.goto (-755), 3) := by decide +kernel
theorem d_L_law_781 : decode code 781 = .ok (.iconst 1, 1) := by decide +kernel
theorem d_L_law_782 : decode code 782 = .ok (.ireturn, 1) := by decide +kernel
end
section
/-! CONTRACTS' STARTS, and how a caller meets them -/
/-- the array classes -/
def mr_ty (cI cR cL cZ : ClassId) : List (ClassId × FieldType) := [(cI, .int), (cR, .object "MeasureRows$Row"), (cL, .long), (cZ, .boolean)]
/-- a method that reads the cells ws -/
def mr_PW (s0 : State) (D : va_G) (tys : List (ClassId × FieldType)) (As : List Value) (ws : va_W) : Array Value → State → Prop := va_Pc As (fun U => mr_B s0 U ∧ va_K D mr_cl tys U ∧ va_P D mr_cl ws U.heap)
/-- a method that may write them -/
def mr_PC (s0 : State) (D : va_G) (tys : List (ClassId × FieldType)) (As : List Value) (ws : va_W) (sz : Nat) : Array Value → State → Prop := va_Pc As (fun U => U.heap.size = sz ∧ mr_B s0 U ∧ va_K D mr_cl tys U ∧ va_P D mr_cl ws U.heap ∧ va_D (fun q => s0.heap.size ≤ q) ws)
section MRD
variable {s0 s : State} {H : Heap} {D : va_G} {tys : List (ClassId × FieldType)} {As : List Value} {ws : va_W} {A : Nat → Prop} {locs : List Loc}
theorem mr_B.at (hB : mr_B s0 s) (hS : va_S A s.heap H locs) (hA : ∀ q, A q → s0.heap.size ≤ q) : ∀ U : State, U.heap = H → s.WarmedH U.vm → mr_B s0 U := fun U hU hW =>
  hB.go hW (by rw [hU]; exact hS.1) (fun a ha => by rw [hU]; exact hS.2.1 a (Nat.lt_of_lt_of_le ha hB.2.2.1) (fun h => absurd (hA a h) (Nat.not_le.mpr ha)))
theorem mr_B.here (hB : mr_B s0 s) : ∀ U : State, U.heap = s.heap → s.WarmedH U.vm → mr_B s0 U := fun U hU hW => hB.go hW (by rw [hU]; exact Nat.le_refl _) (fun a _ => by rw [hU])
theorem mr_pre0 (hB : ∀ U : State, U.heap = H → s.WarmedH U.vm → mr_B s0 U) : PreS s H (va_Pc As (fun U => mr_B s0 U)) As := ⟨fun _ _ _ _ q => q, fun U hU hW => ⟨rfl, hB U hU hW⟩⟩
theorem mr_preS (hB : ∀ U : State, U.heap = H → s.WarmedH U.vm → mr_B s0 U) (hK : va_K D mr_cl tys s) (hP : va_P D mr_cl ws H) : PreS s H (mr_PW s0 D tys As ws) As :=
  ⟨fun a U g mk q => ⟨q.1, q.2.1, va_K.moved (u := U) (U := U.calling g mk a) (Vm.Alike.refl U.vm) q.2.2.1, q.2.2.2⟩, fun U hU hW => ⟨rfl, hB U hU hW, va_K.moved hW.alike hK, by rw [hU]; exact hP⟩⟩
theorem mr_preV {b q0 ci : Nat} {q : vw_C} {fs : List Value} (hB : ∀ U : State, U.heap = H → s.WarmedH U.vm → mr_B s0 U) (hK : va_K D mr_cl tys s) (hP : va_P D mr_cl ws H) (hc : mr_cl[ci]? = some q) (he : ws[q0]? = some (b, .inr (ci, fs))) : PreV s H q.1 b (mr_PW s0 D tys (.ref b :: As) ws) As :=
  ⟨fun a U g mk q => ⟨q.1, q.2.1, va_K.moved (u := U) (U := U.calling g mk a) (Vm.Alike.refl U.vm) q.2.2.1, q.2.2.2⟩, va_recv hK hP hc he, fun U hU hW => ⟨rfl, hB U hU hW, va_K.moved hW.alike hK, by rw [hU]; exact hP⟩⟩
theorem mr_preCS (hB : ∀ U : State, U.heap = H → s.WarmedH U.vm → mr_B s0 U) (hK : va_K D mr_cl tys s) (hP : va_P D mr_cl ws H) (hD : va_D (fun q => s0.heap.size ≤ q) ws) : PreS s H (mr_PC s0 D tys As ws H.size) As :=
  ⟨fun a U g mk q => ⟨q.1, q.2.1, q.2.2.1, va_K.moved (u := U) (U := U.calling g mk a) (Vm.Alike.refl U.vm) q.2.2.2.1, q.2.2.2.2⟩, fun U hU hW => ⟨rfl, by rw [hU], hB U hU hW, va_K.moved hW.alike hK, by rw [hU]; exact hP, hD⟩⟩
theorem mr_preCV {b q0 ci : Nat} {q : vw_C} {fs : List Value} (hB : ∀ U : State, U.heap = H → s.WarmedH U.vm → mr_B s0 U) (hK : va_K D mr_cl tys s) (hP : va_P D mr_cl ws H) (hD : va_D (fun q => s0.heap.size ≤ q) ws) (hc : mr_cl[ci]? = some q) (he : ws[q0]? = some (b, .inr (ci, fs))) : PreV s H q.1 b (mr_PC s0 D tys (.ref b :: As) ws H.size) As :=
  ⟨fun a U g mk q => ⟨q.1, q.2.1, q.2.2.1, va_K.moved (u := U) (U := U.calling g mk a) (Vm.Alike.refl U.vm) q.2.2.2.1, q.2.2.2.2⟩, va_recv hK hP hc he, fun U hU hW => ⟨rfl, by rw [hU], hB U hU hW, va_K.moved hW.alike hK, by rw [hU]; exact hP, hD⟩⟩
theorem mr_A (hB : mr_B s0 s) (hD : va_D (fun q => s0.heap.size ≤ q) ws) : ∀ q, va_A ws s.heap.size q → s0.heap.size ≤ q := fun q h => by
  rcases h with ⟨k, e, hk⟩ | h
  · exact hD.2 k _ hk
  · exact Nat.le_trans hB.2.2.1 h
end MRD
section MRE
variable {p : Program} {l : Launch} {e : Env} {R : Room} {s : State} {m : MethodId} {args : Array Value} {below : List Frame} {meth : Method} {c : Code} {H : Heap} {locs : List Loc} {cells slots : Nat} {Q : State → Prop} {pc : Nat} {ls : Array Slot} {rest : List Value}
/-- a number on the stack by another name -/
theorem mr_top {x y : Int32} (h : x = y) (k : W p l e R s m args below meth c H locs cells slots Q (F0 m pc ls (.int y :: rest))) : W p l e R s m args below meth c H locs cells slots Q (F0 m pc ls (.int x :: rest)) := by
  rw [h]; exact k
theorem mr_topv {x y : Value} (h : x = y) (k : W p l e R s m args below meth c H locs cells slots Q (F0 m pc ls (y :: rest))) : W p l e R s m args below meth c H locs cells slots Q (F0 m pc ls (x :: rest)) := by
  rw [h]; exact k
end MRE
/-- the class's own object, by the addresses of its cells -/
abbrev mf_M (r : Nat → Nat) (rc nw pb lc : Int32) : List Value := [.ref (r 1), .ref (r 4), .int rc, .int nw, .int pb, .ref (r 5), .int lc, .ref (r 6), .ref (r 7)]
/-- the reference's object -/
abbrev mf_D (r : Nat → Nat) (th rw nw pb lc : Int32) : List Value := [.int th, .ref (r 1), .int rw, .ref (r 3), .ref (r 4), .ref (r 5), .ref (r 6), .ref (r 7), .ref (r 8), .ref (r 9), .ref (r 10), .ref (r 11), .ref (r 12), .ref (r 13), .int nw, .int pb, .ref (r 16), .int lc, .ref (r 18)]
section MRF
variable {R : Room} {s : State} {args : Array Value} {own host : String} {index maxL mc ms : Nat} {y : MethodName} {bytes : ByteArray} {ret : Option FieldType} {rm : Room}
theorem mr_cB (n : Nat) (hcode : (Cond.code y bytes maxL ret).before args s = true) (hini : (Cond.initialized y.cls).before args s = true) (hlk : (Cond.methodLink own index y).before args s = true) (hrc : rm.cells = mc) (hrs : rm.slots = ms)
    (hd : y.cls ≠ "java/lang/invoke/MethodHandle" ∧ y.cls ≠ "java/lang/invoke/VarHandle" ∧ (parseMethodDescriptor y.desc).map (fun d => d.parameters.length) = some n) (hR : rm.frames + 1 ≤ R.frames ∧ 8 + (maxL + 11) + rm.locals ≤ R.locals) :
    CallB R s args own index y bytes maxL ret [Cond.code y bytes maxL ret] rm mc ms n :=
  ⟨hrc, hrs, hR.1, hR.2, fun w hw a' U hW => by rw [List.mem_singleton.mp hw]; exact word_at hW (Or.inl rfl) hcode, List.mem_singleton.mpr rfl, hcode, hini, ⟨hd.1, hd.2.1⟩, fun sig h => by rw [h] at hd; simpa using hd.2.2.symm, hlk⟩
theorem mr_cN (n : Nat) (hcode : (Cond.code y bytes maxL ret).before args s = true) (hini : (Cond.initialized y.cls).before args s = true) (hlk : (Cond.methodLinkNest own index y host).before args s = true) (hrc : rm.cells = mc) (hrs : rm.slots = ms)
    (hd : y.cls ≠ "java/lang/invoke/MethodHandle" ∧ y.cls ≠ "java/lang/invoke/VarHandle" ∧ (parseMethodDescriptor y.desc).map (fun d => d.parameters.length) = some n) (hR : rm.frames + 1 ≤ R.frames ∧ 8 + (maxL + 11) + rm.locals ≤ R.locals) :
    va_CN R s args own index y host bytes maxL ret [Cond.code y bytes maxL ret] rm mc ms n :=
  ⟨⟨hrc, hrs, hR.1, hR.2, fun w hw a' U hW => by rw [List.mem_singleton.mp hw]; exact word_at hW (Or.inl rfl) hcode, List.mem_singleton.mpr rfl⟩, hcode, hini, ⟨hd.1, hd.2.1⟩, fun sig h => by rw [h] at hd; simpa using hd.2.2.symm, hlk⟩
end MRF
end
section
abbrev b_I_bitCount : ByteArray := prog_10_method_49_code
def y_I_bitCount : MethodName := ⟨"java/lang/Integer", "bitCount", "(I)I"⟩
theorem d_I_bitCount_0 : decode b_I_bitCount 0 = .ok (.iload_n 0, 1) := by decide +kernel
theorem d_I_bitCount_1 : decode b_I_bitCount 1 = .ok (.iload_n 0, 1) := by decide +kernel
theorem d_I_bitCount_2 : decode b_I_bitCount 2 = .ok (.iconst 1, 1) := by decide +kernel
theorem d_I_bitCount_3 : decode b_I_bitCount 3 = .ok (.iushr, 1) := by decide +kernel
theorem d_I_bitCount_4 : decode b_I_bitCount 4 = .ok (.ldc_w 265, 3) := by decide +kernel
theorem d_I_bitCount_7 : decode b_I_bitCount 7 = .ok (.iand, 1) := by decide +kernel
theorem d_I_bitCount_8 : decode b_I_bitCount 8 = .ok (.isub, 1) := by decide +kernel
theorem d_I_bitCount_9 : decode b_I_bitCount 9 = .ok (.istore_n 0, 1) := by decide +kernel
theorem d_I_bitCount_10 : decode b_I_bitCount 10 = .ok (.iload_n 0, 1) := by decide +kernel
theorem d_I_bitCount_11 : decode b_I_bitCount 11 = .ok (.ldc_w 266, 3) := by decide +kernel
theorem d_I_bitCount_14 : decode b_I_bitCount 14 = .ok (.iand, 1) := by decide +kernel
theorem d_I_bitCount_15 : decode b_I_bitCount 15 = .ok (.iload_n 0, 1) := by decide +kernel
theorem d_I_bitCount_16 : decode b_I_bitCount 16 = .ok (.iconst 2, 1) := by decide +kernel
theorem d_I_bitCount_17 : decode b_I_bitCount 17 = .ok (.iushr, 1) := by decide +kernel
theorem d_I_bitCount_18 : decode b_I_bitCount 18 = .ok (.ldc_w 266, 3) := by decide +kernel
theorem d_I_bitCount_21 : decode b_I_bitCount 21 = .ok (.iand, 1) := by decide +kernel
theorem d_I_bitCount_22 : decode b_I_bitCount 22 = .ok (.iadd, 1) := by decide +kernel
theorem d_I_bitCount_23 : decode b_I_bitCount 23 = .ok (.istore_n 0, 1) := by decide +kernel
theorem d_I_bitCount_24 : decode b_I_bitCount 24 = .ok (.iload_n 0, 1) := by decide +kernel
theorem d_I_bitCount_25 : decode b_I_bitCount 25 = .ok (.iload_n 0, 1) := by decide +kernel
theorem d_I_bitCount_26 : decode b_I_bitCount 26 = .ok (.iconst 4, 1) := by decide +kernel
theorem d_I_bitCount_27 : decode b_I_bitCount 27 = .ok (.iushr, 1) := by decide +kernel
theorem d_I_bitCount_28 : decode b_I_bitCount 28 = .ok (.iadd, 1) := by decide +kernel
theorem d_I_bitCount_29 : decode b_I_bitCount 29 = .ok (.ldc_w 267, 3) := by decide +kernel
theorem d_I_bitCount_32 : decode b_I_bitCount 32 = .ok (.iand, 1) := by decide +kernel
theorem d_I_bitCount_33 : decode b_I_bitCount 33 = .ok (.istore_n 0, 1) := by decide +kernel
theorem d_I_bitCount_34 : decode b_I_bitCount 34 = .ok (.iload_n 0, 1) := by decide +kernel
theorem d_I_bitCount_35 : decode b_I_bitCount 35 = .ok (.iload_n 0, 1) := by decide +kernel
theorem d_I_bitCount_36 : decode b_I_bitCount 36 = .ok (.bipush 8, 2) := by decide +kernel
theorem d_I_bitCount_38 : decode b_I_bitCount 38 = .ok (.iushr, 1) := by decide +kernel
theorem d_I_bitCount_39 : decode b_I_bitCount 39 = .ok (.iadd, 1) := by decide +kernel
theorem d_I_bitCount_40 : decode b_I_bitCount 40 = .ok (.istore_n 0, 1) := by decide +kernel
theorem d_I_bitCount_41 : decode b_I_bitCount 41 = .ok (.iload_n 0, 1) := by decide +kernel
theorem d_I_bitCount_42 : decode b_I_bitCount 42 = .ok (.iload_n 0, 1) := by decide +kernel
theorem d_I_bitCount_43 : decode b_I_bitCount 43 = .ok (.bipush 16, 2) := by decide +kernel
theorem d_I_bitCount_45 : decode b_I_bitCount 45 = .ok (.iushr, 1) := by decide +kernel
theorem d_I_bitCount_46 : decode b_I_bitCount 46 = .ok (.iadd, 1) := by decide +kernel
theorem d_I_bitCount_47 : decode b_I_bitCount 47 = .ok (.istore_n 0, 1) := by decide +kernel
theorem d_I_bitCount_48 : decode b_I_bitCount 48 = .ok (.iload_n 0, 1) := by decide +kernel
theorem d_I_bitCount_49 : decode b_I_bitCount 49 = .ok (.bipush 63, 2) := by decide +kernel
theorem d_I_bitCount_51 : decode b_I_bitCount 51 = .ok (.iand, 1) := by decide +kernel
theorem d_I_bitCount_52 : decode b_I_bitCount 52 = .ok (.ireturn, 1) := by decide +kernel
theorem mw_1 : Cond.code y_M_isLand b_M_isLand 1 (some .boolean) ∈ lw_tbl := by decide +kernel
theorem mw_2 : Cond.initialized y_M_isLand.cls ∈ lw_tbl := by decide +kernel
theorem mw_3 : Cond.methodLink "MeasureRows" 49 y_M_isLand ∈ lw_tbl := by decide +kernel
theorem mw_4 : Cond.static y_M_isLand ∈ lw_tbl := by decide +kernel
theorem mw_5 : Cond.code y_M_isGroup b_M_isGroup 1 (some .boolean) ∈ lw_tbl := by decide +kernel
theorem mw_6 : Cond.initialized y_M_isGroup.cls ∈ lw_tbl := by decide +kernel
theorem mw_7 : Cond.methodLink "MeasureRows" 45 y_M_isGroup ∈ lw_tbl := by decide +kernel
theorem mw_8 : Cond.static y_M_isGroup ∈ lw_tbl := by decide +kernel
theorem mw_9 : Cond.code y_M_isDay b_M_isDay 1 (some .boolean) ∈ lw_tbl := by decide +kernel
theorem mw_10 : Cond.initialized y_M_isDay.cls ∈ lw_tbl := by decide +kernel
theorem mw_11 : Cond.methodLink "MeasureRows" 83 y_M_isDay ∈ lw_tbl := by decide +kernel
theorem mw_12 : Cond.static y_M_isDay ∈ lw_tbl := by decide +kernel
theorem mw_13 : Cond.constant "MeasureRows" 218 100000 ∈ lw_tbl := by decide +kernel
theorem mw_14 : Cond.constant "MeasureRows" 219 999999 ∈ lw_tbl := by decide +kernel
theorem mw_15 : Cond.code y_D_in b_D_in 3 (some .boolean) ∈ lw_tbl := by decide +kernel
theorem mw_16 : Cond.initialized y_D_in.cls ∈ lw_tbl := by decide +kernel
theorem mw_17 : Cond.methodLink "MeasureRowsModel" 57 y_D_in ∈ lw_tbl := by decide +kernel
theorem mw_18 : Cond.static y_D_in ∈ lw_tbl := by decide +kernel
theorem mw_19 : Cond.constant "MeasureRowsModel" 61 100000 ∈ lw_tbl := by decide +kernel
theorem mw_20 : Cond.constant "MeasureRowsModel" 62 999999 ∈ lw_tbl := by decide +kernel
theorem mw_21 : Cond.constant "java/lang/Integer" 265 1431655765 ∈ lw_tbl := by decide +kernel
theorem mw_22 : Cond.constant "java/lang/Integer" 266 858993459 ∈ lw_tbl := by decide +kernel
theorem mw_23 : Cond.constant "java/lang/Integer" 267 252645135 ∈ lw_tbl := by decide +kernel
def mv_M_isLand (a0 : Int32) : Int32 := if a0 < 0 then 0 else if 16 ≤ a0 then 0 else 1
theorem mv_M_isLand_b (a0 : Int32) : mr_b01 (mv_M_isLand a0) := (mr_bi mr_b0 (mr_bi mr_b0 mr_b1))
set_option maxHeartbeats 4000000 in
set_option maxRecDepth 100000 in
theorem mc_M_isLand (l : Launch) (s0 : State) (a0 : Int32) : Met l y_M_isLand [Cond.code y_M_isLand b_M_isLand 1 (some .boolean)] ({ frames := 0, cells := 0, slots := 0, locals := 0 }) (va_Pc [.int a0] (fun U => mr_B s0 U)) (vp_Si (fun r => r = mv_M_isLand a0)) 0 0 (fun _ => False) := by
  refine Met.ofW (cc := b_M_isLand) (maxL := 1) (ret := (some .boolean)) (by decide) rfl ?_
  intro p e s m args below meth c s₁ B hml hv
  obtain ⟨rfl, hB⟩ := hv
  have hBH := hB.here
  have hx := B.exec
  have hb := B.bytes
  have hr := B.returns
  have hlocks := B.notSynchronized
  have hts : ∀ w ∈ lw_tbl, w.before [.int a0].toArray s = true := hB.hts _
  have hown : s.vm.findClass "MeasureRows" = some m.cls := findClass_of_methodNamed B.named
  have hl := lv_entry ([.int a0]) (n := 1) (Nat.le_of_ble_eq_true rfl)
  rw [lg_entry_eq]
  generalize (lg_sl ([.int a0]) ++ List.replicate (1 - (lg_sl ([.int a0])).length) Slot.unset).toArray = ls at hl ⊢
  have hl : lv_has ls 1 [(0, .int a0)] := hl
  refine lv_iload_n hx hb d_M_isLand_0 rfl (lv_at hl 0 rfl) ?_
  refine lv_if_lt (tgt := 14) hx hb d_M_isLand_1 (by decide) (fun c_1 => ?_) (fun c_1 => ?_)
  · refine lv_iconst (v := 0) hx hb d_M_isLand_14 (by decide) ?_
    exact W.zret (v := 0) hx hb hr (mr_narz mr_b0) (fun t ht _ => ⟨_, rfl, by unfold mv_M_isLand; rw [if_pos c_1], ht⟩) (fun _ h => nomatch h) d_M_isLand_15
  · refine lv_iload_n hx hb d_M_isLand_4 rfl (lv_at hl 0 rfl) ?_
    refine lv_bipush (v := 16) hx hb d_M_isLand_5 (by decide) ?_
    refine lv_icmp_ge (tgt := 14) hx hb d_M_isLand_7 (by decide) (fun c_2 => ?_) (fun c_2 => ?_)
    · refine lv_iconst (v := 0) hx hb d_M_isLand_14 (by decide) ?_
      exact W.zret (v := 0) hx hb hr (mr_narz mr_b0) (fun t ht _ => ⟨_, rfl, by unfold mv_M_isLand; rw [if_neg c_1, if_pos c_2], ht⟩) (fun _ h => nomatch h) d_M_isLand_15
    · refine lv_iconst (v := 1) hx hb d_M_isLand_10 (by decide) ?_
      refine lv_goto (tgt := 15) hx hb d_M_isLand_11 (by decide) ?_
      exact W.zret (v := 1) hx hb hr (mr_narz mr_b1) (fun t ht _ => ⟨_, rfl, by unfold mv_M_isLand; rw [if_neg c_1, if_neg c_2], ht⟩) (fun _ h => nomatch h) d_M_isLand_15
def mv_M_isGroup (a0 : Int32) : Int32 := if a0 < 16 then 0 else if 24 ≤ a0 then 0 else 1
theorem mv_M_isGroup_b (a0 : Int32) : mr_b01 (mv_M_isGroup a0) := (mr_bi mr_b0 (mr_bi mr_b0 mr_b1))
set_option maxHeartbeats 4000000 in
set_option maxRecDepth 100000 in
theorem mc_M_isGroup (l : Launch) (s0 : State) (a0 : Int32) : Met l y_M_isGroup [Cond.code y_M_isGroup b_M_isGroup 1 (some .boolean)] ({ frames := 0, cells := 0, slots := 0, locals := 0 }) (va_Pc [.int a0] (fun U => mr_B s0 U)) (vp_Si (fun r => r = mv_M_isGroup a0)) 0 0 (fun _ => False) := by
  refine Met.ofW (cc := b_M_isGroup) (maxL := 1) (ret := (some .boolean)) (by decide) rfl ?_
  intro p e s m args below meth c s₁ B hml hv
  obtain ⟨rfl, hB⟩ := hv
  have hBH := hB.here
  have hx := B.exec
  have hb := B.bytes
  have hr := B.returns
  have hlocks := B.notSynchronized
  have hts : ∀ w ∈ lw_tbl, w.before [.int a0].toArray s = true := hB.hts _
  have hown : s.vm.findClass "MeasureRows" = some m.cls := findClass_of_methodNamed B.named
  have hl := lv_entry ([.int a0]) (n := 1) (Nat.le_of_ble_eq_true rfl)
  rw [lg_entry_eq]
  generalize (lg_sl ([.int a0]) ++ List.replicate (1 - (lg_sl ([.int a0])).length) Slot.unset).toArray = ls at hl ⊢
  have hl : lv_has ls 1 [(0, .int a0)] := hl
  refine lv_iload_n hx hb d_M_isGroup_0 rfl (lv_at hl 0 rfl) ?_
  refine lv_bipush (v := 16) hx hb d_M_isGroup_1 (by decide) ?_
  refine lv_icmp_lt (tgt := 16) hx hb d_M_isGroup_3 (by decide) (fun c_1 => ?_) (fun c_1 => ?_)
  · refine lv_iconst (v := 0) hx hb d_M_isGroup_16 (by decide) ?_
    exact W.zret (v := 0) hx hb hr (mr_narz mr_b0) (fun t ht _ => ⟨_, rfl, by unfold mv_M_isGroup; rw [if_pos c_1], ht⟩) (fun _ h => nomatch h) d_M_isGroup_17
  · refine lv_iload_n hx hb d_M_isGroup_6 rfl (lv_at hl 0 rfl) ?_
    refine lv_bipush (v := 24) hx hb d_M_isGroup_7 (by decide) ?_
    refine lv_icmp_ge (tgt := 16) hx hb d_M_isGroup_9 (by decide) (fun c_2 => ?_) (fun c_2 => ?_)
    · refine lv_iconst (v := 0) hx hb d_M_isGroup_16 (by decide) ?_
      exact W.zret (v := 0) hx hb hr (mr_narz mr_b0) (fun t ht _ => ⟨_, rfl, by unfold mv_M_isGroup; rw [if_neg c_1, if_pos c_2], ht⟩) (fun _ h => nomatch h) d_M_isGroup_17
    · refine lv_iconst (v := 1) hx hb d_M_isGroup_12 (by decide) ?_
      refine lv_goto (tgt := 17) hx hb d_M_isGroup_13 (by decide) ?_
      exact W.zret (v := 1) hx hb hr (mr_narz mr_b1) (fun t ht _ => ⟨_, rfl, by unfold mv_M_isGroup; rw [if_neg c_1, if_neg c_2], ht⟩) (fun _ h => nomatch h) d_M_isGroup_17
def mv_M_isPlace (a0 : Int32) : Int32 := if (mv_M_isLand a0) = 0 then (if (mv_M_isGroup a0) = 0 then (if a0 = 31 then 1 else 0) else 1) else 1
theorem mv_M_isPlace_b (a0 : Int32) : mr_b01 (mv_M_isPlace a0) := (mr_bi (mr_bi (mr_bi mr_b1 mr_b0) mr_b1) mr_b1)
set_option maxHeartbeats 4000000 in
set_option maxRecDepth 100000 in
theorem mc_M_isPlace (l : Launch) (s0 : State) (a0 : Int32) : Met l y_M_isPlace [Cond.code y_M_isPlace b_M_isPlace 1 (some .boolean)] ({ frames := 1, cells := 0, slots := 0, locals := 20 }) (va_Pc [.int a0] (fun U => mr_B s0 U)) (vp_Si (fun r => r = mv_M_isPlace a0)) 0 0 (fun _ => False) := by
  refine Met.ofW (cc := b_M_isPlace) (maxL := 1) (ret := (some .boolean)) (by decide) rfl ?_
  intro p e s m args below meth c s₁ B hml hv
  obtain ⟨rfl, hB⟩ := hv
  have hBH := hB.here
  have hx := B.exec
  have hb := B.bytes
  have hr := B.returns
  have hlocks := B.notSynchronized
  have hts : ∀ w ∈ lw_tbl, w.before [.int a0].toArray s = true := hB.hts _
  have hown : s.vm.findClass "MeasureRows" = some m.cls := findClass_of_methodNamed B.named
  have hl := lv_entry ([.int a0]) (n := 1) (Nat.le_of_ble_eq_true rfl)
  rw [lg_entry_eq]
  generalize (lg_sl ([.int a0]) ++ List.replicate (1 - (lg_sl ([.int a0])).length) Slot.unset).toArray = ls at hl ⊢
  have hl : lv_has ls 1 [(0, .int a0)] := hl
  refine lv_iload_n hx hb d_M_isPlace_0 rfl (lv_at hl 0 rfl) ?_
  refine vp_callSi (va_Run.run (va_runS (As := [.int a0]) (rest := []) ⟨hx, hb, hml, hown, hts⟩ (mc_M_isLand l s0 a0) ⟨(mr_cB 1 (hts (Cond.code y_M_isLand b_M_isLand 1 (some .boolean)) mw_1) (hts (Cond.initialized y_M_isLand.cls) mw_2) (hts (Cond.methodLink "MeasureRows" 49 y_M_isLand) mw_3) rfl rfl (by decide +kernel) ⟨Nat.le_of_ble_eq_true rfl, Nat.le_of_ble_eq_true rfl⟩), (hts (Cond.static y_M_isLand) mw_4)⟩ (mr_pre0 hBH) rfl rfl hl.1 rfl (lv_room (Nat.le_of_ble_eq_true rfl)) d_M_isPlace_1 ⟨Nat.le_of_ble_eq_true rfl, Nat.le_of_ble_eq_true rfl⟩)) (fun r_1 h_2 => ?_)
  subst h_2
  refine lv_if_ne (tgt := 20) hx hb d_M_isPlace_4 (by decide) (fun c_3 => ?_) (fun c_3 => ?_)
  · refine lv_iconst (v := 1) hx hb d_M_isPlace_20 (by decide) ?_
    refine lv_goto (tgt := 25) hx hb d_M_isPlace_21 (by decide) ?_
    exact W.zret (v := 1) hx hb hr (mr_narz mr_b1) (fun t ht _ => ⟨_, rfl, by unfold mv_M_isPlace; rw [if_neg c_3], ht⟩) (fun _ h => nomatch h) d_M_isPlace_25
  · refine lv_iload_n hx hb d_M_isPlace_7 rfl (lv_at hl 0 rfl) ?_
    refine vp_callSi (va_Run.run (va_runS (As := [.int a0]) (rest := []) ⟨hx, hb, hml, hown, hts⟩ (mc_M_isGroup l s0 a0) ⟨(mr_cB 1 (hts (Cond.code y_M_isGroup b_M_isGroup 1 (some .boolean)) mw_5) (hts (Cond.initialized y_M_isGroup.cls) mw_6) (hts (Cond.methodLink "MeasureRows" 45 y_M_isGroup) mw_7) rfl rfl (by decide +kernel) ⟨Nat.le_of_ble_eq_true rfl, Nat.le_of_ble_eq_true rfl⟩), (hts (Cond.static y_M_isGroup) mw_8)⟩ (mr_pre0 hBH) rfl rfl hl.1 rfl (lv_room (Nat.le_of_ble_eq_true rfl)) d_M_isPlace_8 ⟨Nat.le_of_ble_eq_true rfl, Nat.le_of_ble_eq_true rfl⟩)) (fun r_4 h_5 => ?_)
    subst h_5
    refine lv_if_ne (tgt := 20) hx hb d_M_isPlace_11 (by decide) (fun c_6 => ?_) (fun c_6 => ?_)
    · refine lv_iconst (v := 1) hx hb d_M_isPlace_20 (by decide) ?_
      refine lv_goto (tgt := 25) hx hb d_M_isPlace_21 (by decide) ?_
      exact W.zret (v := 1) hx hb hr (mr_narz mr_b1) (fun t ht _ => ⟨_, rfl, by unfold mv_M_isPlace; rw [if_pos c_3, if_neg c_6], ht⟩) (fun _ h => nomatch h) d_M_isPlace_25
    · refine lv_iload_n hx hb d_M_isPlace_14 rfl (lv_at hl 0 rfl) ?_
      refine lv_bipush (v := 31) hx hb d_M_isPlace_15 (by decide) ?_
      refine lv_icmp_ne (tgt := 24) hx hb d_M_isPlace_17 (by decide) (fun c_7 => ?_) (fun c_7 => ?_)
      · refine lv_iconst (v := 0) hx hb d_M_isPlace_24 (by decide) ?_
        exact W.zret (v := 0) hx hb hr (mr_narz mr_b0) (fun t ht _ => ⟨_, rfl, by unfold mv_M_isPlace; rw [if_pos c_3, if_pos c_6, if_neg c_7], ht⟩) (fun _ h => nomatch h) d_M_isPlace_25
      · refine lv_iconst (v := 1) hx hb d_M_isPlace_20 (by decide) ?_
        refine lv_goto (tgt := 25) hx hb d_M_isPlace_21 (by decide) ?_
        exact W.zret (v := 1) hx hb hr (mr_narz mr_b1) (fun t ht _ => ⟨_, rfl, by unfold mv_M_isPlace; rw [if_pos c_3, if_pos c_6, if_pos c_7], ht⟩) (fun _ h => nomatch h) d_M_isPlace_25
def mv_M_isDay (a0 : Int32) : Int32 := if a0 < 0 then 0 else if 10000 < a0 then 0 else 1
theorem mv_M_isDay_b (a0 : Int32) : mr_b01 (mv_M_isDay a0) := (mr_bi mr_b0 (mr_bi mr_b0 mr_b1))
set_option maxHeartbeats 4000000 in
set_option maxRecDepth 100000 in
theorem mc_M_isDay (l : Launch) (s0 : State) (a0 : Int32) : Met l y_M_isDay [Cond.code y_M_isDay b_M_isDay 1 (some .boolean)] ({ frames := 0, cells := 0, slots := 0, locals := 0 }) (va_Pc [.int a0] (fun U => mr_B s0 U)) (vp_Si (fun r => r = mv_M_isDay a0)) 0 0 (fun _ => False) := by
  refine Met.ofW (cc := b_M_isDay) (maxL := 1) (ret := (some .boolean)) (by decide) rfl ?_
  intro p e s m args below meth c s₁ B hml hv
  obtain ⟨rfl, hB⟩ := hv
  have hBH := hB.here
  have hx := B.exec
  have hb := B.bytes
  have hr := B.returns
  have hlocks := B.notSynchronized
  have hts : ∀ w ∈ lw_tbl, w.before [.int a0].toArray s = true := hB.hts _
  have hown : s.vm.findClass "MeasureRows" = some m.cls := findClass_of_methodNamed B.named
  have hl := lv_entry ([.int a0]) (n := 1) (Nat.le_of_ble_eq_true rfl)
  rw [lg_entry_eq]
  generalize (lg_sl ([.int a0]) ++ List.replicate (1 - (lg_sl ([.int a0])).length) Slot.unset).toArray = ls at hl ⊢
  have hl : lv_has ls 1 [(0, .int a0)] := hl
  refine lv_iload_n hx hb d_M_isDay_0 rfl (lv_at hl 0 rfl) ?_
  refine lv_if_lt (tgt := 15) hx hb d_M_isDay_1 (by decide) (fun c_1 => ?_) (fun c_1 => ?_)
  · refine lv_iconst (v := 0) hx hb d_M_isDay_15 (by decide) ?_
    exact W.zret (v := 0) hx hb hr (mr_narz mr_b0) (fun t ht _ => ⟨_, rfl, by unfold mv_M_isDay; rw [if_pos c_1], ht⟩) (fun _ h => nomatch h) d_M_isDay_16
  · refine lv_iload_n hx hb d_M_isDay_4 rfl (lv_at hl 0 rfl) ?_
    refine lv_sipush (v := 10000) hx hb d_M_isDay_5 (by decide) ?_
    refine lv_icmp_gt (tgt := 15) hx hb d_M_isDay_8 (by decide) (fun c_2 => ?_) (fun c_2 => ?_)
    · refine lv_iconst (v := 0) hx hb d_M_isDay_15 (by decide) ?_
      exact W.zret (v := 0) hx hb hr (mr_narz mr_b0) (fun t ht _ => ⟨_, rfl, by unfold mv_M_isDay; rw [if_neg c_1, if_pos c_2], ht⟩) (fun _ h => nomatch h) d_M_isDay_16
    · refine lv_iconst (v := 1) hx hb d_M_isDay_11 (by decide) ?_
      refine lv_goto (tgt := 16) hx hb d_M_isDay_12 (by decide) ?_
      exact W.zret (v := 1) hx hb hr (mr_narz mr_b1) (fun t ht _ => ⟨_, rfl, by unfold mv_M_isDay; rw [if_neg c_1, if_neg c_2], ht⟩) (fun _ h => nomatch h) d_M_isDay_16
def mv_M_isLastDay (a0 : Int32) : Int32 := if (mv_M_isDay a0) = 0 then (if a0 = 20000 then 1 else 0) else 1
theorem mv_M_isLastDay_b (a0 : Int32) : mr_b01 (mv_M_isLastDay a0) := (mr_bi (mr_bi mr_b1 mr_b0) mr_b1)
set_option maxHeartbeats 4000000 in
set_option maxRecDepth 100000 in
theorem mc_M_isLastDay (l : Launch) (s0 : State) (a0 : Int32) : Met l y_M_isLastDay [Cond.code y_M_isLastDay b_M_isLastDay 1 (some .boolean)] ({ frames := 1, cells := 0, slots := 0, locals := 20 }) (va_Pc [.int a0] (fun U => mr_B s0 U)) (vp_Si (fun r => r = mv_M_isLastDay a0)) 0 0 (fun _ => False) := by
  refine Met.ofW (cc := b_M_isLastDay) (maxL := 1) (ret := (some .boolean)) (by decide) rfl ?_
  intro p e s m args below meth c s₁ B hml hv
  obtain ⟨rfl, hB⟩ := hv
  have hBH := hB.here
  have hx := B.exec
  have hb := B.bytes
  have hr := B.returns
  have hlocks := B.notSynchronized
  have hts : ∀ w ∈ lw_tbl, w.before [.int a0].toArray s = true := hB.hts _
  have hown : s.vm.findClass "MeasureRows" = some m.cls := findClass_of_methodNamed B.named
  have hl := lv_entry ([.int a0]) (n := 1) (Nat.le_of_ble_eq_true rfl)
  rw [lg_entry_eq]
  generalize (lg_sl ([.int a0]) ++ List.replicate (1 - (lg_sl ([.int a0])).length) Slot.unset).toArray = ls at hl ⊢
  have hl : lv_has ls 1 [(0, .int a0)] := hl
  refine lv_iload_n hx hb d_M_isLastDay_0 rfl (lv_at hl 0 rfl) ?_
  refine vp_callSi (va_Run.run (va_runS (As := [.int a0]) (rest := []) ⟨hx, hb, hml, hown, hts⟩ (mc_M_isDay l s0 a0) ⟨(mr_cB 1 (hts (Cond.code y_M_isDay b_M_isDay 1 (some .boolean)) mw_9) (hts (Cond.initialized y_M_isDay.cls) mw_10) (hts (Cond.methodLink "MeasureRows" 83 y_M_isDay) mw_11) rfl rfl (by decide +kernel) ⟨Nat.le_of_ble_eq_true rfl, Nat.le_of_ble_eq_true rfl⟩), (hts (Cond.static y_M_isDay) mw_12)⟩ (mr_pre0 hBH) rfl rfl hl.1 rfl (lv_room (Nat.le_of_ble_eq_true rfl)) d_M_isLastDay_1 ⟨Nat.le_of_ble_eq_true rfl, Nat.le_of_ble_eq_true rfl⟩)) (fun r_1 h_2 => ?_)
  subst h_2
  refine lv_if_ne (tgt := 14) hx hb d_M_isLastDay_4 (by decide) (fun c_3 => ?_) (fun c_3 => ?_)
  · refine lv_iconst (v := 1) hx hb d_M_isLastDay_14 (by decide) ?_
    refine lv_goto (tgt := 19) hx hb d_M_isLastDay_15 (by decide) ?_
    exact W.zret (v := 1) hx hb hr (mr_narz mr_b1) (fun t ht _ => ⟨_, rfl, by unfold mv_M_isLastDay; rw [if_neg c_3], ht⟩) (fun _ h => nomatch h) d_M_isLastDay_19
  · refine lv_iload_n hx hb d_M_isLastDay_7 rfl (lv_at hl 0 rfl) ?_
    refine lv_sipush (v := 20000) hx hb d_M_isLastDay_8 (by decide) ?_
    refine lv_icmp_ne (tgt := 18) hx hb d_M_isLastDay_11 (by decide) (fun c_4 => ?_) (fun c_4 => ?_)
    · refine lv_iconst (v := 0) hx hb d_M_isLastDay_18 (by decide) ?_
      exact W.zret (v := 0) hx hb hr (mr_narz mr_b0) (fun t ht _ => ⟨_, rfl, by unfold mv_M_isLastDay; rw [if_pos c_3, if_neg c_4], ht⟩) (fun _ h => nomatch h) d_M_isLastDay_19
    · refine lv_iconst (v := 1) hx hb d_M_isLastDay_14 (by decide) ?_
      refine lv_goto (tgt := 19) hx hb d_M_isLastDay_15 (by decide) ?_
      exact W.zret (v := 1) hx hb hr (mr_narz mr_b1) (fun t ht _ => ⟨_, rfl, by unfold mv_M_isLastDay; rw [if_pos c_3, if_pos c_4], ht⟩) (fun _ h => nomatch h) d_M_isLastDay_19
def mv_M_levelOf (a0 : Int32) : Int32 := if a0 < 10 then (if a0 < 1000 then (if a0 < 100000 then 0 else if 999999 < a0 then 0 else 3) else if 9999 < a0 then (if a0 < 100000 then 0 else if 999999 < a0 then 0 else 3) else 2) else if 99 < a0 then (if a0 < 1000 then (if a0 < 100000 then 0 else if 999999 < a0 then 0 else 3) else if 9999 < a0 then (if a0 < 100000 then 0 else if 999999 < a0 then 0 else 3) else 2) else 1
set_option maxHeartbeats 4000000 in
set_option maxRecDepth 100000 in
theorem mc_M_levelOf (l : Launch) (s0 : State) (a0 : Int32) : Met l y_M_levelOf [Cond.code y_M_levelOf b_M_levelOf 1 (some .int)] ({ frames := 0, cells := 0, slots := 0, locals := 0 }) (va_Pc [.int a0] (fun U => mr_B s0 U)) (vp_Si (fun r => r = mv_M_levelOf a0)) 0 0 (fun _ => False) := by
  refine Met.ofW (cc := b_M_levelOf) (maxL := 1) (ret := (some .int)) (by decide) rfl ?_
  intro p e s m args below meth c s₁ B hml hv
  obtain ⟨rfl, hB⟩ := hv
  have hBH := hB.here
  have hx := B.exec
  have hb := B.bytes
  have hr := B.returns
  have hlocks := B.notSynchronized
  have hts : ∀ w ∈ lw_tbl, w.before [.int a0].toArray s = true := hB.hts _
  have hown : s.vm.findClass "MeasureRows" = some m.cls := findClass_of_methodNamed B.named
  have hl := lv_entry ([.int a0]) (n := 1) (Nat.le_of_ble_eq_true rfl)
  rw [lg_entry_eq]
  generalize (lg_sl ([.int a0]) ++ List.replicate (1 - (lg_sl ([.int a0])).length) Slot.unset).toArray = ls at hl ⊢
  have hl : lv_has ls 1 [(0, .int a0)] := hl
  refine lv_iload_n hx hb d_M_levelOf_0 rfl (lv_at hl 0 rfl) ?_
  refine lv_bipush (v := 10) hx hb d_M_levelOf_1 (by decide) ?_
  refine lv_icmp_lt (tgt := 14) hx hb d_M_levelOf_3 (by decide) (fun c_1 => ?_) (fun c_1 => ?_)
  · refine lv_iload_n hx hb d_M_levelOf_14 rfl (lv_at hl 0 rfl) ?_
    refine lv_sipush (v := 1000) hx hb d_M_levelOf_15 (by decide) ?_
    refine lv_icmp_lt (tgt := 30) hx hb d_M_levelOf_18 (by decide) (fun c_2 => ?_) (fun c_2 => ?_)
    · refine lv_iload_n hx hb d_M_levelOf_30 rfl (lv_at hl 0 rfl) ?_
      refine lv_ldc (v := 100000) hx hb hown (hts (Cond.constant "MeasureRows" 218 100000) mw_13) d_M_levelOf_31 ?_
      refine lv_icmp_lt (tgt := 46) hx hb d_M_levelOf_33 (by decide) (fun c_3 => ?_) (fun c_3 => ?_)
      · refine lv_iconst (v := 0) hx hb d_M_levelOf_46 (by decide) ?_
        exact W.iret (v := 0) hx hb hr (fun t ht _ => ⟨_, rfl, by unfold mv_M_levelOf; rw [if_pos c_1, if_pos c_2, if_pos c_3], ht⟩) (fun _ h => nomatch h) d_M_levelOf_47
      · refine lv_iload_n hx hb d_M_levelOf_36 rfl (lv_at hl 0 rfl) ?_
        refine lv_ldc (v := 999999) hx hb hown (hts (Cond.constant "MeasureRows" 219 999999) mw_14) d_M_levelOf_37 ?_
        refine lv_icmp_gt (tgt := 46) hx hb d_M_levelOf_39 (by decide) (fun c_4 => ?_) (fun c_4 => ?_)
        · refine lv_iconst (v := 0) hx hb d_M_levelOf_46 (by decide) ?_
          exact W.iret (v := 0) hx hb hr (fun t ht _ => ⟨_, rfl, by unfold mv_M_levelOf; rw [if_pos c_1, if_pos c_2, if_neg c_3, if_pos c_4], ht⟩) (fun _ h => nomatch h) d_M_levelOf_47
        · refine lv_iconst (v := 3) hx hb d_M_levelOf_42 (by decide) ?_
          refine lv_goto (tgt := 47) hx hb d_M_levelOf_43 (by decide) ?_
          exact W.iret (v := 3) hx hb hr (fun t ht _ => ⟨_, rfl, by unfold mv_M_levelOf; rw [if_pos c_1, if_pos c_2, if_neg c_3, if_neg c_4], ht⟩) (fun _ h => nomatch h) d_M_levelOf_47
    · refine lv_iload_n hx hb d_M_levelOf_21 rfl (lv_at hl 0 rfl) ?_
      refine lv_sipush (v := 9999) hx hb d_M_levelOf_22 (by decide) ?_
      refine lv_icmp_gt (tgt := 30) hx hb d_M_levelOf_25 (by decide) (fun c_5 => ?_) (fun c_5 => ?_)
      · refine lv_iload_n hx hb d_M_levelOf_30 rfl (lv_at hl 0 rfl) ?_
        refine lv_ldc (v := 100000) hx hb hown (hts (Cond.constant "MeasureRows" 218 100000) mw_13) d_M_levelOf_31 ?_
        refine lv_icmp_lt (tgt := 46) hx hb d_M_levelOf_33 (by decide) (fun c_6 => ?_) (fun c_6 => ?_)
        · refine lv_iconst (v := 0) hx hb d_M_levelOf_46 (by decide) ?_
          exact W.iret (v := 0) hx hb hr (fun t ht _ => ⟨_, rfl, by unfold mv_M_levelOf; rw [if_pos c_1, if_neg c_2, if_pos c_5, if_pos c_6], ht⟩) (fun _ h => nomatch h) d_M_levelOf_47
        · refine lv_iload_n hx hb d_M_levelOf_36 rfl (lv_at hl 0 rfl) ?_
          refine lv_ldc (v := 999999) hx hb hown (hts (Cond.constant "MeasureRows" 219 999999) mw_14) d_M_levelOf_37 ?_
          refine lv_icmp_gt (tgt := 46) hx hb d_M_levelOf_39 (by decide) (fun c_7 => ?_) (fun c_7 => ?_)
          · refine lv_iconst (v := 0) hx hb d_M_levelOf_46 (by decide) ?_
            exact W.iret (v := 0) hx hb hr (fun t ht _ => ⟨_, rfl, by unfold mv_M_levelOf; rw [if_pos c_1, if_neg c_2, if_pos c_5, if_neg c_6, if_pos c_7], ht⟩) (fun _ h => nomatch h) d_M_levelOf_47
          · refine lv_iconst (v := 3) hx hb d_M_levelOf_42 (by decide) ?_
            refine lv_goto (tgt := 47) hx hb d_M_levelOf_43 (by decide) ?_
            exact W.iret (v := 3) hx hb hr (fun t ht _ => ⟨_, rfl, by unfold mv_M_levelOf; rw [if_pos c_1, if_neg c_2, if_pos c_5, if_neg c_6, if_neg c_7], ht⟩) (fun _ h => nomatch h) d_M_levelOf_47
      · refine lv_iconst (v := 2) hx hb d_M_levelOf_28 (by decide) ?_
        exact W.iret (v := 2) hx hb hr (fun t ht _ => ⟨_, rfl, by unfold mv_M_levelOf; rw [if_pos c_1, if_neg c_2, if_neg c_5], ht⟩) (fun _ h => nomatch h) d_M_levelOf_29
  · refine lv_iload_n hx hb d_M_levelOf_6 rfl (lv_at hl 0 rfl) ?_
    refine lv_bipush (v := 99) hx hb d_M_levelOf_7 (by decide) ?_
    refine lv_icmp_gt (tgt := 14) hx hb d_M_levelOf_9 (by decide) (fun c_8 => ?_) (fun c_8 => ?_)
    · refine lv_iload_n hx hb d_M_levelOf_14 rfl (lv_at hl 0 rfl) ?_
      refine lv_sipush (v := 1000) hx hb d_M_levelOf_15 (by decide) ?_
      refine lv_icmp_lt (tgt := 30) hx hb d_M_levelOf_18 (by decide) (fun c_9 => ?_) (fun c_9 => ?_)
      · refine lv_iload_n hx hb d_M_levelOf_30 rfl (lv_at hl 0 rfl) ?_
        refine lv_ldc (v := 100000) hx hb hown (hts (Cond.constant "MeasureRows" 218 100000) mw_13) d_M_levelOf_31 ?_
        refine lv_icmp_lt (tgt := 46) hx hb d_M_levelOf_33 (by decide) (fun c_10 => ?_) (fun c_10 => ?_)
        · refine lv_iconst (v := 0) hx hb d_M_levelOf_46 (by decide) ?_
          exact W.iret (v := 0) hx hb hr (fun t ht _ => ⟨_, rfl, by unfold mv_M_levelOf; rw [if_neg c_1, if_pos c_8, if_pos c_9, if_pos c_10], ht⟩) (fun _ h => nomatch h) d_M_levelOf_47
        · refine lv_iload_n hx hb d_M_levelOf_36 rfl (lv_at hl 0 rfl) ?_
          refine lv_ldc (v := 999999) hx hb hown (hts (Cond.constant "MeasureRows" 219 999999) mw_14) d_M_levelOf_37 ?_
          refine lv_icmp_gt (tgt := 46) hx hb d_M_levelOf_39 (by decide) (fun c_11 => ?_) (fun c_11 => ?_)
          · refine lv_iconst (v := 0) hx hb d_M_levelOf_46 (by decide) ?_
            exact W.iret (v := 0) hx hb hr (fun t ht _ => ⟨_, rfl, by unfold mv_M_levelOf; rw [if_neg c_1, if_pos c_8, if_pos c_9, if_neg c_10, if_pos c_11], ht⟩) (fun _ h => nomatch h) d_M_levelOf_47
          · refine lv_iconst (v := 3) hx hb d_M_levelOf_42 (by decide) ?_
            refine lv_goto (tgt := 47) hx hb d_M_levelOf_43 (by decide) ?_
            exact W.iret (v := 3) hx hb hr (fun t ht _ => ⟨_, rfl, by unfold mv_M_levelOf; rw [if_neg c_1, if_pos c_8, if_pos c_9, if_neg c_10, if_neg c_11], ht⟩) (fun _ h => nomatch h) d_M_levelOf_47
      · refine lv_iload_n hx hb d_M_levelOf_21 rfl (lv_at hl 0 rfl) ?_
        refine lv_sipush (v := 9999) hx hb d_M_levelOf_22 (by decide) ?_
        refine lv_icmp_gt (tgt := 30) hx hb d_M_levelOf_25 (by decide) (fun c_12 => ?_) (fun c_12 => ?_)
        · refine lv_iload_n hx hb d_M_levelOf_30 rfl (lv_at hl 0 rfl) ?_
          refine lv_ldc (v := 100000) hx hb hown (hts (Cond.constant "MeasureRows" 218 100000) mw_13) d_M_levelOf_31 ?_
          refine lv_icmp_lt (tgt := 46) hx hb d_M_levelOf_33 (by decide) (fun c_13 => ?_) (fun c_13 => ?_)
          · refine lv_iconst (v := 0) hx hb d_M_levelOf_46 (by decide) ?_
            exact W.iret (v := 0) hx hb hr (fun t ht _ => ⟨_, rfl, by unfold mv_M_levelOf; rw [if_neg c_1, if_pos c_8, if_neg c_9, if_pos c_12, if_pos c_13], ht⟩) (fun _ h => nomatch h) d_M_levelOf_47
          · refine lv_iload_n hx hb d_M_levelOf_36 rfl (lv_at hl 0 rfl) ?_
            refine lv_ldc (v := 999999) hx hb hown (hts (Cond.constant "MeasureRows" 219 999999) mw_14) d_M_levelOf_37 ?_
            refine lv_icmp_gt (tgt := 46) hx hb d_M_levelOf_39 (by decide) (fun c_14 => ?_) (fun c_14 => ?_)
            · refine lv_iconst (v := 0) hx hb d_M_levelOf_46 (by decide) ?_
              exact W.iret (v := 0) hx hb hr (fun t ht _ => ⟨_, rfl, by unfold mv_M_levelOf; rw [if_neg c_1, if_pos c_8, if_neg c_9, if_pos c_12, if_neg c_13, if_pos c_14], ht⟩) (fun _ h => nomatch h) d_M_levelOf_47
            · refine lv_iconst (v := 3) hx hb d_M_levelOf_42 (by decide) ?_
              refine lv_goto (tgt := 47) hx hb d_M_levelOf_43 (by decide) ?_
              exact W.iret (v := 3) hx hb hr (fun t ht _ => ⟨_, rfl, by unfold mv_M_levelOf; rw [if_neg c_1, if_pos c_8, if_neg c_9, if_pos c_12, if_neg c_13, if_neg c_14], ht⟩) (fun _ h => nomatch h) d_M_levelOf_47
        · refine lv_iconst (v := 2) hx hb d_M_levelOf_28 (by decide) ?_
          exact W.iret (v := 2) hx hb hr (fun t ht _ => ⟨_, rfl, by unfold mv_M_levelOf; rw [if_neg c_1, if_pos c_8, if_neg c_9, if_neg c_12], ht⟩) (fun _ h => nomatch h) d_M_levelOf_29
    · refine lv_iconst (v := 1) hx hb d_M_levelOf_12 (by decide) ?_
      exact W.iret (v := 1) hx hb hr (fun t ht _ => ⟨_, rfl, by unfold mv_M_levelOf; rw [if_neg c_1, if_neg c_8], ht⟩) (fun _ h => nomatch h) d_M_levelOf_13
def mv_M_isUnder (a0 : Int32) (a1 : Int32) : Int32 := if a0 = a1 then 1 else if (a0 / 100) = a1 then 1 else if (a0 / 10000) = a1 then 1 else 0
theorem mv_M_isUnder_b (a0 : Int32) (a1 : Int32) : mr_b01 (mv_M_isUnder a0 a1) := (mr_bi mr_b1 (mr_bi mr_b1 (mr_bi mr_b1 mr_b0)))
set_option maxHeartbeats 4000000 in
set_option maxRecDepth 100000 in
theorem mc_M_isUnder (l : Launch) (s0 : State) (a0 : Int32) (a1 : Int32) : Met l y_M_isUnder [Cond.code y_M_isUnder b_M_isUnder 2 (some .boolean)] ({ frames := 0, cells := 0, slots := 0, locals := 0 }) (va_Pc [.int a0, .int a1] (fun U => mr_B s0 U)) (vp_Si (fun r => r = mv_M_isUnder a0 a1)) 0 0 (fun _ => False) := by
  refine Met.ofW (cc := b_M_isUnder) (maxL := 2) (ret := (some .boolean)) (by decide) rfl ?_
  intro p e s m args below meth c s₁ B hml hv
  obtain ⟨rfl, hB⟩ := hv
  have hBH := hB.here
  have hx := B.exec
  have hb := B.bytes
  have hr := B.returns
  have hlocks := B.notSynchronized
  have hts : ∀ w ∈ lw_tbl, w.before [.int a0, .int a1].toArray s = true := hB.hts _
  have hown : s.vm.findClass "MeasureRows" = some m.cls := findClass_of_methodNamed B.named
  have hl := lv_entry ([.int a0, .int a1]) (n := 2) (Nat.le_of_ble_eq_true rfl)
  rw [lg_entry_eq]
  generalize (lg_sl ([.int a0, .int a1]) ++ List.replicate (2 - (lg_sl ([.int a0, .int a1])).length) Slot.unset).toArray = ls at hl ⊢
  have hl : lv_has ls 2 [(0, .int a0), (1, .int a1)] := hl
  refine lv_iload_n hx hb d_M_isUnder_0 rfl (lv_at hl 0 rfl) ?_
  refine lv_iload_n hx hb d_M_isUnder_1 rfl (lv_at hl 1 rfl) ?_
  refine lv_icmp_eq (tgt := 22) hx hb d_M_isUnder_2 (by decide) (fun c_1 => ?_) (fun c_1 => ?_)
  · refine lv_iconst (v := 1) hx hb d_M_isUnder_22 (by decide) ?_
    refine lv_goto (tgt := 27) hx hb d_M_isUnder_23 (by decide) ?_
    exact W.zret (v := 1) hx hb hr (mr_narz mr_b1) (fun t ht _ => ⟨_, rfl, by unfold mv_M_isUnder; rw [if_pos c_1], ht⟩) (fun _ h => nomatch h) d_M_isUnder_27
  · refine lv_iload_n hx hb d_M_isUnder_5 rfl (lv_at hl 0 rfl) ?_
    refine lv_bipush (v := 100) hx hb d_M_isUnder_6 (by decide) ?_
    refine lv_idiv hx hb d_M_isUnder_8 (by decide) ?_
    refine lv_iload_n hx hb d_M_isUnder_9 rfl (lv_at hl 1 rfl) ?_
    refine lv_icmp_eq (tgt := 22) hx hb d_M_isUnder_10 (by decide) (fun c_2 => ?_) (fun c_2 => ?_)
    · refine lv_iconst (v := 1) hx hb d_M_isUnder_22 (by decide) ?_
      refine lv_goto (tgt := 27) hx hb d_M_isUnder_23 (by decide) ?_
      exact W.zret (v := 1) hx hb hr (mr_narz mr_b1) (fun t ht _ => ⟨_, rfl, by unfold mv_M_isUnder; rw [if_neg c_1, if_pos c_2], ht⟩) (fun _ h => nomatch h) d_M_isUnder_27
    · refine lv_iload_n hx hb d_M_isUnder_13 rfl (lv_at hl 0 rfl) ?_
      refine lv_sipush (v := 10000) hx hb d_M_isUnder_14 (by decide) ?_
      refine lv_idiv hx hb d_M_isUnder_17 (by decide) ?_
      refine lv_iload_n hx hb d_M_isUnder_18 rfl (lv_at hl 1 rfl) ?_
      refine lv_icmp_ne (tgt := 26) hx hb d_M_isUnder_19 (by decide) (fun c_3 => ?_) (fun c_3 => ?_)
      · refine lv_iconst (v := 0) hx hb d_M_isUnder_26 (by decide) ?_
        exact W.zret (v := 0) hx hb hr (mr_narz mr_b0) (fun t ht _ => ⟨_, rfl, by unfold mv_M_isUnder; rw [if_neg c_1, if_neg c_2, if_neg c_3], ht⟩) (fun _ h => nomatch h) d_M_isUnder_27
      · refine lv_iconst (v := 1) hx hb d_M_isUnder_22 (by decide) ?_
        refine lv_goto (tgt := 27) hx hb d_M_isUnder_23 (by decide) ?_
        exact W.zret (v := 1) hx hb hr (mr_narz mr_b1) (fun t ht _ => ⟨_, rfl, by unfold mv_M_isUnder; rw [if_neg c_1, if_neg c_2, if_pos c_3], ht⟩) (fun _ h => nomatch h) d_M_isUnder_27
def mv_M_hasBit (a0 : Int32) (a1 : Int32) : Int32 := if ((mr_ushr a0 a1) &&& 1) = 0 then 0 else 1
theorem mv_M_hasBit_b (a0 : Int32) (a1 : Int32) : mr_b01 (mv_M_hasBit a0 a1) := (mr_bi mr_b0 mr_b1)
set_option maxHeartbeats 4000000 in
set_option maxRecDepth 100000 in
theorem mc_M_hasBit (l : Launch) (s0 : State) (a0 : Int32) (a1 : Int32) : Met l y_M_hasBit [Cond.code y_M_hasBit b_M_hasBit 2 (some .boolean)] ({ frames := 0, cells := 0, slots := 0, locals := 0 }) (va_Pc [.int a0, .int a1] (fun U => mr_B s0 U)) (vp_Si (fun r => r = mv_M_hasBit a0 a1)) 0 0 (fun _ => False) := by
  refine Met.ofW (cc := b_M_hasBit) (maxL := 2) (ret := (some .boolean)) (by decide) rfl ?_
  intro p e s m args below meth c s₁ B hml hv
  obtain ⟨rfl, hB⟩ := hv
  have hBH := hB.here
  have hx := B.exec
  have hb := B.bytes
  have hr := B.returns
  have hlocks := B.notSynchronized
  have hts : ∀ w ∈ lw_tbl, w.before [.int a0, .int a1].toArray s = true := hB.hts _
  have hown : s.vm.findClass "MeasureRows" = some m.cls := findClass_of_methodNamed B.named
  have hl := lv_entry ([.int a0, .int a1]) (n := 2) (Nat.le_of_ble_eq_true rfl)
  rw [lg_entry_eq]
  generalize (lg_sl ([.int a0, .int a1]) ++ List.replicate (2 - (lg_sl ([.int a0, .int a1])).length) Slot.unset).toArray = ls at hl ⊢
  have hl : lv_has ls 2 [(0, .int a0), (1, .int a1)] := hl
  refine lv_iload_n hx hb d_M_hasBit_0 rfl (lv_at hl 0 rfl) ?_
  refine lv_iload_n hx hb d_M_hasBit_1 rfl (lv_at hl 1 rfl) ?_
  refine lv_iushr (v := mr_ushr a0 a1) hx hb d_M_hasBit_2 rfl ?_
  refine lv_iconst (v := 1) hx hb d_M_hasBit_3 (by decide) ?_
  refine lv_iand hx hb d_M_hasBit_4 ?_
  refine lv_if_eq (tgt := 12) hx hb d_M_hasBit_5 (by decide) (fun c_1 => ?_) (fun c_1 => ?_)
  · refine lv_iconst (v := 0) hx hb d_M_hasBit_12 (by decide) ?_
    exact W.zret (v := 0) hx hb hr (mr_narz mr_b0) (fun t ht _ => ⟨_, rfl, by unfold mv_M_hasBit; rw [if_pos c_1], ht⟩) (fun _ h => nomatch h) d_M_hasBit_13
  · refine lv_iconst (v := 1) hx hb d_M_hasBit_8 (by decide) ?_
    refine lv_goto (tgt := 13) hx hb d_M_hasBit_9 (by decide) ?_
    exact W.zret (v := 1) hx hb hr (mr_narz mr_b1) (fun t ht _ => ⟨_, rfl, by unfold mv_M_hasBit; rw [if_neg c_1], ht⟩) (fun _ h => nomatch h) d_M_hasBit_13
def mv_D_in (a0 : Int32) (a1 : Int32) (a2 : Int32) : Int32 := if a0 < a1 then 0 else if a2 < a0 then 0 else 1
theorem mv_D_in_b (a0 : Int32) (a1 : Int32) (a2 : Int32) : mr_b01 (mv_D_in a0 a1 a2) := (mr_bi mr_b0 (mr_bi mr_b0 mr_b1))
set_option maxHeartbeats 4000000 in
set_option maxRecDepth 100000 in
theorem mc_D_in (l : Launch) (s0 : State) (a0 : Int32) (a1 : Int32) (a2 : Int32) : Met l y_D_in [Cond.code y_D_in b_D_in 3 (some .boolean)] ({ frames := 0, cells := 0, slots := 0, locals := 0 }) (va_Pc [.int a0, .int a1, .int a2] (fun U => mr_B s0 U)) (vp_Si (fun r => r = mv_D_in a0 a1 a2)) 0 0 (fun _ => False) := by
  refine Met.ofW (cc := b_D_in) (maxL := 3) (ret := (some .boolean)) (by decide) rfl ?_
  intro p e s m args below meth c s₁ B hml hv
  obtain ⟨rfl, hB⟩ := hv
  have hBH := hB.here
  have hx := B.exec
  have hb := B.bytes
  have hr := B.returns
  have hlocks := B.notSynchronized
  have hts : ∀ w ∈ lw_tbl, w.before [.int a0, .int a1, .int a2].toArray s = true := hB.hts _
  have hown : s.vm.findClass "MeasureRowsModel" = some m.cls := findClass_of_methodNamed B.named
  have hl := lv_entry ([.int a0, .int a1, .int a2]) (n := 3) (Nat.le_of_ble_eq_true rfl)
  rw [lg_entry_eq]
  generalize (lg_sl ([.int a0, .int a1, .int a2]) ++ List.replicate (3 - (lg_sl ([.int a0, .int a1, .int a2])).length) Slot.unset).toArray = ls at hl ⊢
  have hl : lv_has ls 3 [(0, .int a0), (1, .int a1), (2, .int a2)] := hl
  refine lv_iload_n hx hb d_D_in_0 rfl (lv_at hl 0 rfl) ?_
  refine lv_iload_n hx hb d_D_in_1 rfl (lv_at hl 1 rfl) ?_
  refine lv_icmp_lt (tgt := 14) hx hb d_D_in_2 (by decide) (fun c_1 => ?_) (fun c_1 => ?_)
  · refine lv_iconst (v := 0) hx hb d_D_in_14 (by decide) ?_
    exact W.zret (v := 0) hx hb hr (mr_narz mr_b0) (fun t ht _ => ⟨_, rfl, by unfold mv_D_in; rw [if_pos c_1], ht⟩) (fun _ h => nomatch h) d_D_in_15
  · refine lv_iload_n hx hb d_D_in_5 rfl (lv_at hl 0 rfl) ?_
    refine lv_iload_n hx hb d_D_in_6 rfl (lv_at hl 2 rfl) ?_
    refine lv_icmp_gt (tgt := 14) hx hb d_D_in_7 (by decide) (fun c_2 => ?_) (fun c_2 => ?_)
    · refine lv_iconst (v := 0) hx hb d_D_in_14 (by decide) ?_
      exact W.zret (v := 0) hx hb hr (mr_narz mr_b0) (fun t ht _ => ⟨_, rfl, by unfold mv_D_in; rw [if_neg c_1, if_pos c_2], ht⟩) (fun _ h => nomatch h) d_D_in_15
    · refine lv_iconst (v := 1) hx hb d_D_in_10 (by decide) ?_
      refine lv_goto (tgt := 15) hx hb d_D_in_11 (by decide) ?_
      exact W.zret (v := 1) hx hb hr (mr_narz mr_b1) (fun t ht _ => ⟨_, rfl, by unfold mv_D_in; rw [if_neg c_1, if_neg c_2], ht⟩) (fun _ h => nomatch h) d_D_in_15
def mv_D_isGroup (a0 : Int32) : Int32 := (mv_D_in a0 16 23)
theorem mv_D_isGroup_b (a0 : Int32) : mr_b01 (mv_D_isGroup a0) := (mv_D_in_b a0 16 23)
set_option maxHeartbeats 4000000 in
set_option maxRecDepth 100000 in
theorem mc_D_isGroup (l : Launch) (s0 : State) (a0 : Int32) : Met l y_D_isGroup [Cond.code y_D_isGroup b_D_isGroup 1 (some .boolean)] ({ frames := 1, cells := 0, slots := 0, locals := 22 }) (va_Pc [.int a0] (fun U => mr_B s0 U)) (vp_Si (fun r => r = mv_D_isGroup a0)) 0 0 (fun _ => False) := by
  refine Met.ofW (cc := b_D_isGroup) (maxL := 1) (ret := (some .boolean)) (by decide) rfl ?_
  intro p e s m args below meth c s₁ B hml hv
  obtain ⟨rfl, hB⟩ := hv
  have hBH := hB.here
  have hx := B.exec
  have hb := B.bytes
  have hr := B.returns
  have hlocks := B.notSynchronized
  have hts : ∀ w ∈ lw_tbl, w.before [.int a0].toArray s = true := hB.hts _
  have hown : s.vm.findClass "MeasureRowsModel" = some m.cls := findClass_of_methodNamed B.named
  have hl := lv_entry ([.int a0]) (n := 1) (Nat.le_of_ble_eq_true rfl)
  rw [lg_entry_eq]
  generalize (lg_sl ([.int a0]) ++ List.replicate (1 - (lg_sl ([.int a0])).length) Slot.unset).toArray = ls at hl ⊢
  have hl : lv_has ls 1 [(0, .int a0)] := hl
  refine lv_iload_n hx hb d_D_isGroup_0 rfl (lv_at hl 0 rfl) ?_
  refine lv_bipush (v := 16) hx hb d_D_isGroup_1 (by decide) ?_
  refine lv_bipush (v := 23) hx hb d_D_isGroup_3 (by decide) ?_
  refine vp_callSi (va_Run.run (va_runS (As := [.int a0, .int 16, .int 23]) (rest := []) ⟨hx, hb, hml, hown, hts⟩ (mc_D_in l s0 a0 16 23) ⟨(mr_cB 3 (hts (Cond.code y_D_in b_D_in 3 (some .boolean)) mw_15) (hts (Cond.initialized y_D_in.cls) mw_16) (hts (Cond.methodLink "MeasureRowsModel" 57 y_D_in) mw_17) rfl rfl (by decide +kernel) ⟨Nat.le_of_ble_eq_true rfl, Nat.le_of_ble_eq_true rfl⟩), (hts (Cond.static y_D_in) mw_18)⟩ (mr_pre0 hBH) rfl rfl hl.1 rfl (lv_room (Nat.le_of_ble_eq_true rfl)) d_D_isGroup_5 ⟨Nat.le_of_ble_eq_true rfl, Nat.le_of_ble_eq_true rfl⟩)) (fun r_1 h_2 => ?_)
  subst h_2
  exact W.zret (v := mv_D_in a0 16 23) hx hb hr (mr_narz (mv_D_in_b a0 16 23)) (fun t ht _ => ⟨_, rfl, rfl, ht⟩) (fun _ h => nomatch h) d_D_isGroup_8
def mv_D_isLand (a0 : Int32) : Int32 := (mv_D_in a0 0 15)
theorem mv_D_isLand_b (a0 : Int32) : mr_b01 (mv_D_isLand a0) := (mv_D_in_b a0 0 15)
set_option maxHeartbeats 4000000 in
set_option maxRecDepth 100000 in
theorem mc_D_isLand (l : Launch) (s0 : State) (a0 : Int32) : Met l y_D_isLand [Cond.code y_D_isLand b_D_isLand 1 (some .boolean)] ({ frames := 1, cells := 0, slots := 0, locals := 22 }) (va_Pc [.int a0] (fun U => mr_B s0 U)) (vp_Si (fun r => r = mv_D_isLand a0)) 0 0 (fun _ => False) := by
  refine Met.ofW (cc := b_D_isLand) (maxL := 1) (ret := (some .boolean)) (by decide) rfl ?_
  intro p e s m args below meth c s₁ B hml hv
  obtain ⟨rfl, hB⟩ := hv
  have hBH := hB.here
  have hx := B.exec
  have hb := B.bytes
  have hr := B.returns
  have hlocks := B.notSynchronized
  have hts : ∀ w ∈ lw_tbl, w.before [.int a0].toArray s = true := hB.hts _
  have hown : s.vm.findClass "MeasureRowsModel" = some m.cls := findClass_of_methodNamed B.named
  have hl := lv_entry ([.int a0]) (n := 1) (Nat.le_of_ble_eq_true rfl)
  rw [lg_entry_eq]
  generalize (lg_sl ([.int a0]) ++ List.replicate (1 - (lg_sl ([.int a0])).length) Slot.unset).toArray = ls at hl ⊢
  have hl : lv_has ls 1 [(0, .int a0)] := hl
  refine lv_iload_n hx hb d_D_isLand_0 rfl (lv_at hl 0 rfl) ?_
  refine lv_iconst (v := 0) hx hb d_D_isLand_1 (by decide) ?_
  refine lv_bipush (v := 15) hx hb d_D_isLand_2 (by decide) ?_
  refine vp_callSi (va_Run.run (va_runS (As := [.int a0, .int 0, .int 15]) (rest := []) ⟨hx, hb, hml, hown, hts⟩ (mc_D_in l s0 a0 0 15) ⟨(mr_cB 3 (hts (Cond.code y_D_in b_D_in 3 (some .boolean)) mw_15) (hts (Cond.initialized y_D_in.cls) mw_16) (hts (Cond.methodLink "MeasureRowsModel" 57 y_D_in) mw_17) rfl rfl (by decide +kernel) ⟨Nat.le_of_ble_eq_true rfl, Nat.le_of_ble_eq_true rfl⟩), (hts (Cond.static y_D_in) mw_18)⟩ (mr_pre0 hBH) rfl rfl hl.1 rfl (lv_room (Nat.le_of_ble_eq_true rfl)) d_D_isLand_4 ⟨Nat.le_of_ble_eq_true rfl, Nat.le_of_ble_eq_true rfl⟩)) (fun r_1 h_2 => ?_)
  subst h_2
  exact W.zret (v := mv_D_in a0 0 15) hx hb hr (mr_narz (mv_D_in_b a0 0 15)) (fun t ht _ => ⟨_, rfl, rfl, ht⟩) (fun _ h => nomatch h) d_D_isLand_7
def mv_D_isDay (a0 : Int32) : Int32 := (mv_D_in a0 0 10000)
theorem mv_D_isDay_b (a0 : Int32) : mr_b01 (mv_D_isDay a0) := (mv_D_in_b a0 0 10000)
set_option maxHeartbeats 4000000 in
set_option maxRecDepth 100000 in
theorem mc_D_isDay (l : Launch) (s0 : State) (a0 : Int32) : Met l y_D_isDay [Cond.code y_D_isDay b_D_isDay 1 (some .boolean)] ({ frames := 1, cells := 0, slots := 0, locals := 22 }) (va_Pc [.int a0] (fun U => mr_B s0 U)) (vp_Si (fun r => r = mv_D_isDay a0)) 0 0 (fun _ => False) := by
  refine Met.ofW (cc := b_D_isDay) (maxL := 1) (ret := (some .boolean)) (by decide) rfl ?_
  intro p e s m args below meth c s₁ B hml hv
  obtain ⟨rfl, hB⟩ := hv
  have hBH := hB.here
  have hx := B.exec
  have hb := B.bytes
  have hr := B.returns
  have hlocks := B.notSynchronized
  have hts : ∀ w ∈ lw_tbl, w.before [.int a0].toArray s = true := hB.hts _
  have hown : s.vm.findClass "MeasureRowsModel" = some m.cls := findClass_of_methodNamed B.named
  have hl := lv_entry ([.int a0]) (n := 1) (Nat.le_of_ble_eq_true rfl)
  rw [lg_entry_eq]
  generalize (lg_sl ([.int a0]) ++ List.replicate (1 - (lg_sl ([.int a0])).length) Slot.unset).toArray = ls at hl ⊢
  have hl : lv_has ls 1 [(0, .int a0)] := hl
  refine lv_iload_n hx hb d_D_isDay_0 rfl (lv_at hl 0 rfl) ?_
  refine lv_iconst (v := 0) hx hb d_D_isDay_1 (by decide) ?_
  refine lv_sipush (v := 10000) hx hb d_D_isDay_2 (by decide) ?_
  refine vp_callSi (va_Run.run (va_runS (As := [.int a0, .int 0, .int 10000]) (rest := []) ⟨hx, hb, hml, hown, hts⟩ (mc_D_in l s0 a0 0 10000) ⟨(mr_cB 3 (hts (Cond.code y_D_in b_D_in 3 (some .boolean)) mw_15) (hts (Cond.initialized y_D_in.cls) mw_16) (hts (Cond.methodLink "MeasureRowsModel" 57 y_D_in) mw_17) rfl rfl (by decide +kernel) ⟨Nat.le_of_ble_eq_true rfl, Nat.le_of_ble_eq_true rfl⟩), (hts (Cond.static y_D_in) mw_18)⟩ (mr_pre0 hBH) rfl rfl hl.1 rfl (lv_room (Nat.le_of_ble_eq_true rfl)) d_D_isDay_5 ⟨Nat.le_of_ble_eq_true rfl, Nat.le_of_ble_eq_true rfl⟩)) (fun r_1 h_2 => ?_)
  subst h_2
  exact W.zret (v := mv_D_in a0 0 10000) hx hb hr (mr_narz (mv_D_in_b a0 0 10000)) (fun t ht _ => ⟨_, rfl, rfl, ht⟩) (fun _ h => nomatch h) d_D_isDay_8
def mv_D_digits (a0 : Int32) : Int32 := if (mv_D_in a0 10 99) = 0 then (if (mv_D_in a0 1000 9999) = 0 then (if (mv_D_in a0 100000 999999) = 0 then 0 else 6) else 4) else 2
set_option maxHeartbeats 4000000 in
set_option maxRecDepth 100000 in
theorem mc_D_digits (l : Launch) (s0 : State) (a0 : Int32) : Met l y_D_digits [Cond.code y_D_digits b_D_digits 1 (some .int)] ({ frames := 1, cells := 0, slots := 0, locals := 22 }) (va_Pc [.int a0] (fun U => mr_B s0 U)) (vp_Si (fun r => r = mv_D_digits a0)) 0 0 (fun _ => False) := by
  refine Met.ofW (cc := b_D_digits) (maxL := 1) (ret := (some .int)) (by decide) rfl ?_
  intro p e s m args below meth c s₁ B hml hv
  obtain ⟨rfl, hB⟩ := hv
  have hBH := hB.here
  have hx := B.exec
  have hb := B.bytes
  have hr := B.returns
  have hlocks := B.notSynchronized
  have hts : ∀ w ∈ lw_tbl, w.before [.int a0].toArray s = true := hB.hts _
  have hown : s.vm.findClass "MeasureRowsModel" = some m.cls := findClass_of_methodNamed B.named
  have hl := lv_entry ([.int a0]) (n := 1) (Nat.le_of_ble_eq_true rfl)
  rw [lg_entry_eq]
  generalize (lg_sl ([.int a0]) ++ List.replicate (1 - (lg_sl ([.int a0])).length) Slot.unset).toArray = ls at hl ⊢
  have hl : lv_has ls 1 [(0, .int a0)] := hl
  refine lv_iload_n hx hb d_D_digits_0 rfl (lv_at hl 0 rfl) ?_
  refine lv_bipush (v := 10) hx hb d_D_digits_1 (by decide) ?_
  refine lv_bipush (v := 99) hx hb d_D_digits_3 (by decide) ?_
  refine vp_callSi (va_Run.run (va_runS (As := [.int a0, .int 10, .int 99]) (rest := []) ⟨hx, hb, hml, hown, hts⟩ (mc_D_in l s0 a0 10 99) ⟨(mr_cB 3 (hts (Cond.code y_D_in b_D_in 3 (some .boolean)) mw_15) (hts (Cond.initialized y_D_in.cls) mw_16) (hts (Cond.methodLink "MeasureRowsModel" 57 y_D_in) mw_17) rfl rfl (by decide +kernel) ⟨Nat.le_of_ble_eq_true rfl, Nat.le_of_ble_eq_true rfl⟩), (hts (Cond.static y_D_in) mw_18)⟩ (mr_pre0 hBH) rfl rfl hl.1 rfl (lv_room (Nat.le_of_ble_eq_true rfl)) d_D_digits_5 ⟨Nat.le_of_ble_eq_true rfl, Nat.le_of_ble_eq_true rfl⟩)) (fun r_1 h_2 => ?_)
  subst h_2
  refine lv_if_eq (tgt := 15) hx hb d_D_digits_8 (by decide) (fun c_3 => ?_) (fun c_3 => ?_)
  · refine lv_iload_n hx hb d_D_digits_15 rfl (lv_at hl 0 rfl) ?_
    refine lv_sipush (v := 1000) hx hb d_D_digits_16 (by decide) ?_
    refine lv_sipush (v := 9999) hx hb d_D_digits_19 (by decide) ?_
    refine vp_callSi (va_Run.run (va_runS (As := [.int a0, .int 1000, .int 9999]) (rest := []) ⟨hx, hb, hml, hown, hts⟩ (mc_D_in l s0 a0 1000 9999) ⟨(mr_cB 3 (hts (Cond.code y_D_in b_D_in 3 (some .boolean)) mw_15) (hts (Cond.initialized y_D_in.cls) mw_16) (hts (Cond.methodLink "MeasureRowsModel" 57 y_D_in) mw_17) rfl rfl (by decide +kernel) ⟨Nat.le_of_ble_eq_true rfl, Nat.le_of_ble_eq_true rfl⟩), (hts (Cond.static y_D_in) mw_18)⟩ (mr_pre0 hBH) rfl rfl hl.1 rfl (lv_room (Nat.le_of_ble_eq_true rfl)) d_D_digits_22 ⟨Nat.le_of_ble_eq_true rfl, Nat.le_of_ble_eq_true rfl⟩)) (fun r_4 h_5 => ?_)
    subst h_5
    refine lv_if_eq (tgt := 32) hx hb d_D_digits_25 (by decide) (fun c_6 => ?_) (fun c_6 => ?_)
    · refine lv_iload_n hx hb d_D_digits_32 rfl (lv_at hl 0 rfl) ?_
      refine lv_ldc (v := 100000) hx hb hown (hts (Cond.constant "MeasureRowsModel" 61 100000) mw_19) d_D_digits_33 ?_
      refine lv_ldc (v := 999999) hx hb hown (hts (Cond.constant "MeasureRowsModel" 62 999999) mw_20) d_D_digits_35 ?_
      refine vp_callSi (va_Run.run (va_runS (As := [.int a0, .int 100000, .int 999999]) (rest := []) ⟨hx, hb, hml, hown, hts⟩ (mc_D_in l s0 a0 100000 999999) ⟨(mr_cB 3 (hts (Cond.code y_D_in b_D_in 3 (some .boolean)) mw_15) (hts (Cond.initialized y_D_in.cls) mw_16) (hts (Cond.methodLink "MeasureRowsModel" 57 y_D_in) mw_17) rfl rfl (by decide +kernel) ⟨Nat.le_of_ble_eq_true rfl, Nat.le_of_ble_eq_true rfl⟩), (hts (Cond.static y_D_in) mw_18)⟩ (mr_pre0 hBH) rfl rfl hl.1 rfl (lv_room (Nat.le_of_ble_eq_true rfl)) d_D_digits_37 ⟨Nat.le_of_ble_eq_true rfl, Nat.le_of_ble_eq_true rfl⟩)) (fun r_7 h_8 => ?_)
      subst h_8
      refine lv_if_eq (tgt := 48) hx hb d_D_digits_40 (by decide) (fun c_9 => ?_) (fun c_9 => ?_)
      · refine lv_iconst (v := 0) hx hb d_D_digits_48 (by decide) ?_
        exact W.iret (v := 0) hx hb hr (fun t ht _ => ⟨_, rfl, by unfold mv_D_digits; rw [if_pos c_3, if_pos c_6, if_pos c_9], ht⟩) (fun _ h => nomatch h) d_D_digits_49
      · refine lv_bipush (v := 6) hx hb d_D_digits_43 (by decide) ?_
        refine lv_goto (tgt := 49) hx hb d_D_digits_45 (by decide) ?_
        exact W.iret (v := 6) hx hb hr (fun t ht _ => ⟨_, rfl, by unfold mv_D_digits; rw [if_pos c_3, if_pos c_6, if_neg c_9], ht⟩) (fun _ h => nomatch h) d_D_digits_49
    · refine lv_iconst (v := 4) hx hb d_D_digits_28 (by decide) ?_
      refine lv_goto (tgt := 49) hx hb d_D_digits_29 (by decide) ?_
      exact W.iret (v := 4) hx hb hr (fun t ht _ => ⟨_, rfl, by unfold mv_D_digits; rw [if_pos c_3, if_neg c_6], ht⟩) (fun _ h => nomatch h) d_D_digits_49
  · refine lv_iconst (v := 2) hx hb d_D_digits_11 (by decide) ?_
    refine lv_goto (tgt := 49) hx hb d_D_digits_12 (by decide) ?_
    exact W.iret (v := 2) hx hb hr (fun t ht _ => ⟨_, rfl, by unfold mv_D_digits; rw [if_neg c_3], ht⟩) (fun _ h => nomatch h) d_D_digits_49
def mv_I_bitCount (a0 : Int32) : Int32 := ((((((((a0 - ((mr_ushr a0 1) &&& 1431655765)) &&& 858993459) + ((mr_ushr (a0 - ((mr_ushr a0 1) &&& 1431655765)) 2) &&& 858993459)) + (mr_ushr (((a0 - ((mr_ushr a0 1) &&& 1431655765)) &&& 858993459) + ((mr_ushr (a0 - ((mr_ushr a0 1) &&& 1431655765)) 2) &&& 858993459)) 4)) &&& 252645135) + (mr_ushr (((((a0 - ((mr_ushr a0 1) &&& 1431655765)) &&& 858993459) + ((mr_ushr (a0 - ((mr_ushr a0 1) &&& 1431655765)) 2) &&& 858993459)) + (mr_ushr (((a0 - ((mr_ushr a0 1) &&& 1431655765)) &&& 858993459) + ((mr_ushr (a0 - ((mr_ushr a0 1) &&& 1431655765)) 2) &&& 858993459)) 4)) &&& 252645135) 8)) + (mr_ushr ((((((a0 - ((mr_ushr a0 1) &&& 1431655765)) &&& 858993459) + ((mr_ushr (a0 - ((mr_ushr a0 1) &&& 1431655765)) 2) &&& 858993459)) + (mr_ushr (((a0 - ((mr_ushr a0 1) &&& 1431655765)) &&& 858993459) + ((mr_ushr (a0 - ((mr_ushr a0 1) &&& 1431655765)) 2) &&& 858993459)) 4)) &&& 252645135) + (mr_ushr (((((a0 - ((mr_ushr a0 1) &&& 1431655765)) &&& 858993459) + ((mr_ushr (a0 - ((mr_ushr a0 1) &&& 1431655765)) 2) &&& 858993459)) + (mr_ushr (((a0 - ((mr_ushr a0 1) &&& 1431655765)) &&& 858993459) + ((mr_ushr (a0 - ((mr_ushr a0 1) &&& 1431655765)) 2) &&& 858993459)) 4)) &&& 252645135) 8)) 16)) &&& 63)
set_option maxHeartbeats 4000000 in
set_option maxRecDepth 100000 in
theorem mc_I_bitCount (l : Launch) (s0 : State) (a0 : Int32) : Met l y_I_bitCount [Cond.code y_I_bitCount b_I_bitCount 1 (some .int)] ({ frames := 0, cells := 0, slots := 0, locals := 0 }) (va_Pc [.int a0] (fun U => mr_B s0 U)) (vp_Si (fun r => r = mv_I_bitCount a0)) 0 0 (fun _ => False) := by
  refine Met.ofW (cc := b_I_bitCount) (maxL := 1) (ret := (some .int)) (by decide) rfl ?_
  intro p e s m args below meth c s₁ B hml hv
  obtain ⟨rfl, hB⟩ := hv
  have hBH := hB.here
  have hx := B.exec
  have hb := B.bytes
  have hr := B.returns
  have hlocks := B.notSynchronized
  have hts : ∀ w ∈ lw_tbl, w.before [.int a0].toArray s = true := hB.hts _
  have hown : s.vm.findClass "java/lang/Integer" = some m.cls := findClass_of_methodNamed B.named
  have hl := lv_entry ([.int a0]) (n := 1) (Nat.le_of_ble_eq_true rfl)
  rw [lg_entry_eq]
  generalize (lg_sl ([.int a0]) ++ List.replicate (1 - (lg_sl ([.int a0])).length) Slot.unset).toArray = ls at hl ⊢
  have hl : lv_has ls 1 [(0, .int a0)] := hl
  refine lv_iload_n hx hb d_I_bitCount_0 rfl (lv_at hl 0 rfl) ?_
  refine lv_iload_n hx hb d_I_bitCount_1 rfl (lv_at hl 0 rfl) ?_
  refine lv_iconst (v := 1) hx hb d_I_bitCount_2 (by decide) ?_
  refine lv_iushr (v := mr_ushr a0 1) hx hb d_I_bitCount_3 rfl ?_
  refine lv_ldcw (v := 1431655765) hx hb hown (hts (Cond.constant "java/lang/Integer" 265 1431655765) mw_21) d_I_bitCount_4 ?_
  refine lv_iand hx hb d_I_bitCount_7 ?_
  refine lv_isub hx hb d_I_bitCount_8 ?_
  refine lv_istore_n (lv' := [(0, .int (a0 - ((mr_ushr a0 1) &&& 1431655765)))]) hx hb d_I_bitCount_9 rfl hl (by decide) rfl (fun ls hl => ?_)
  refine lv_iload_n hx hb d_I_bitCount_10 rfl (lv_at hl 0 rfl) ?_
  refine lv_ldcw (v := 858993459) hx hb hown (hts (Cond.constant "java/lang/Integer" 266 858993459) mw_22) d_I_bitCount_11 ?_
  refine lv_iand hx hb d_I_bitCount_14 ?_
  refine lv_iload_n hx hb d_I_bitCount_15 rfl (lv_at hl 0 rfl) ?_
  refine lv_iconst (v := 2) hx hb d_I_bitCount_16 (by decide) ?_
  refine lv_iushr (v := mr_ushr (a0 - ((mr_ushr a0 1) &&& 1431655765)) 2) hx hb d_I_bitCount_17 rfl ?_
  refine lv_ldcw (v := 858993459) hx hb hown (hts (Cond.constant "java/lang/Integer" 266 858993459) mw_22) d_I_bitCount_18 ?_
  refine lv_iand hx hb d_I_bitCount_21 ?_
  refine lv_iadd hx hb d_I_bitCount_22 ?_
  refine lv_istore_n (lv' := [(0, .int (((a0 - ((mr_ushr a0 1) &&& 1431655765)) &&& 858993459) + ((mr_ushr (a0 - ((mr_ushr a0 1) &&& 1431655765)) 2) &&& 858993459)))]) hx hb d_I_bitCount_23 rfl hl (by decide) rfl (fun ls hl => ?_)
  refine lv_iload_n hx hb d_I_bitCount_24 rfl (lv_at hl 0 rfl) ?_
  refine lv_iload_n hx hb d_I_bitCount_25 rfl (lv_at hl 0 rfl) ?_
  refine lv_iconst (v := 4) hx hb d_I_bitCount_26 (by decide) ?_
  refine lv_iushr (v := mr_ushr (((a0 - ((mr_ushr a0 1) &&& 1431655765)) &&& 858993459) + ((mr_ushr (a0 - ((mr_ushr a0 1) &&& 1431655765)) 2) &&& 858993459)) 4) hx hb d_I_bitCount_27 rfl ?_
  refine lv_iadd hx hb d_I_bitCount_28 ?_
  refine lv_ldcw (v := 252645135) hx hb hown (hts (Cond.constant "java/lang/Integer" 267 252645135) mw_23) d_I_bitCount_29 ?_
  refine lv_iand hx hb d_I_bitCount_32 ?_
  refine lv_istore_n (lv' := [(0, .int (((((a0 - ((mr_ushr a0 1) &&& 1431655765)) &&& 858993459) + ((mr_ushr (a0 - ((mr_ushr a0 1) &&& 1431655765)) 2) &&& 858993459)) + (mr_ushr (((a0 - ((mr_ushr a0 1) &&& 1431655765)) &&& 858993459) + ((mr_ushr (a0 - ((mr_ushr a0 1) &&& 1431655765)) 2) &&& 858993459)) 4)) &&& 252645135))]) hx hb d_I_bitCount_33 rfl hl (by decide) rfl (fun ls hl => ?_)
  refine lv_iload_n hx hb d_I_bitCount_34 rfl (lv_at hl 0 rfl) ?_
  refine lv_iload_n hx hb d_I_bitCount_35 rfl (lv_at hl 0 rfl) ?_
  refine lv_bipush (v := 8) hx hb d_I_bitCount_36 (by decide) ?_
  refine lv_iushr (v := mr_ushr (((((a0 - ((mr_ushr a0 1) &&& 1431655765)) &&& 858993459) + ((mr_ushr (a0 - ((mr_ushr a0 1) &&& 1431655765)) 2) &&& 858993459)) + (mr_ushr (((a0 - ((mr_ushr a0 1) &&& 1431655765)) &&& 858993459) + ((mr_ushr (a0 - ((mr_ushr a0 1) &&& 1431655765)) 2) &&& 858993459)) 4)) &&& 252645135) 8) hx hb d_I_bitCount_38 rfl ?_
  refine lv_iadd hx hb d_I_bitCount_39 ?_
  refine lv_istore_n (lv' := [(0, .int ((((((a0 - ((mr_ushr a0 1) &&& 1431655765)) &&& 858993459) + ((mr_ushr (a0 - ((mr_ushr a0 1) &&& 1431655765)) 2) &&& 858993459)) + (mr_ushr (((a0 - ((mr_ushr a0 1) &&& 1431655765)) &&& 858993459) + ((mr_ushr (a0 - ((mr_ushr a0 1) &&& 1431655765)) 2) &&& 858993459)) 4)) &&& 252645135) + (mr_ushr (((((a0 - ((mr_ushr a0 1) &&& 1431655765)) &&& 858993459) + ((mr_ushr (a0 - ((mr_ushr a0 1) &&& 1431655765)) 2) &&& 858993459)) + (mr_ushr (((a0 - ((mr_ushr a0 1) &&& 1431655765)) &&& 858993459) + ((mr_ushr (a0 - ((mr_ushr a0 1) &&& 1431655765)) 2) &&& 858993459)) 4)) &&& 252645135) 8)))]) hx hb d_I_bitCount_40 rfl hl (by decide) rfl (fun ls hl => ?_)
  refine lv_iload_n hx hb d_I_bitCount_41 rfl (lv_at hl 0 rfl) ?_
  refine lv_iload_n hx hb d_I_bitCount_42 rfl (lv_at hl 0 rfl) ?_
  refine lv_bipush (v := 16) hx hb d_I_bitCount_43 (by decide) ?_
  refine lv_iushr (v := mr_ushr ((((((a0 - ((mr_ushr a0 1) &&& 1431655765)) &&& 858993459) + ((mr_ushr (a0 - ((mr_ushr a0 1) &&& 1431655765)) 2) &&& 858993459)) + (mr_ushr (((a0 - ((mr_ushr a0 1) &&& 1431655765)) &&& 858993459) + ((mr_ushr (a0 - ((mr_ushr a0 1) &&& 1431655765)) 2) &&& 858993459)) 4)) &&& 252645135) + (mr_ushr (((((a0 - ((mr_ushr a0 1) &&& 1431655765)) &&& 858993459) + ((mr_ushr (a0 - ((mr_ushr a0 1) &&& 1431655765)) 2) &&& 858993459)) + (mr_ushr (((a0 - ((mr_ushr a0 1) &&& 1431655765)) &&& 858993459) + ((mr_ushr (a0 - ((mr_ushr a0 1) &&& 1431655765)) 2) &&& 858993459)) 4)) &&& 252645135) 8)) 16) hx hb d_I_bitCount_45 rfl ?_
  refine lv_iadd hx hb d_I_bitCount_46 ?_
  refine lv_istore_n (lv' := [(0, .int (((((((a0 - ((mr_ushr a0 1) &&& 1431655765)) &&& 858993459) + ((mr_ushr (a0 - ((mr_ushr a0 1) &&& 1431655765)) 2) &&& 858993459)) + (mr_ushr (((a0 - ((mr_ushr a0 1) &&& 1431655765)) &&& 858993459) + ((mr_ushr (a0 - ((mr_ushr a0 1) &&& 1431655765)) 2) &&& 858993459)) 4)) &&& 252645135) + (mr_ushr (((((a0 - ((mr_ushr a0 1) &&& 1431655765)) &&& 858993459) + ((mr_ushr (a0 - ((mr_ushr a0 1) &&& 1431655765)) 2) &&& 858993459)) + (mr_ushr (((a0 - ((mr_ushr a0 1) &&& 1431655765)) &&& 858993459) + ((mr_ushr (a0 - ((mr_ushr a0 1) &&& 1431655765)) 2) &&& 858993459)) 4)) &&& 252645135) 8)) + (mr_ushr ((((((a0 - ((mr_ushr a0 1) &&& 1431655765)) &&& 858993459) + ((mr_ushr (a0 - ((mr_ushr a0 1) &&& 1431655765)) 2) &&& 858993459)) + (mr_ushr (((a0 - ((mr_ushr a0 1) &&& 1431655765)) &&& 858993459) + ((mr_ushr (a0 - ((mr_ushr a0 1) &&& 1431655765)) 2) &&& 858993459)) 4)) &&& 252645135) + (mr_ushr (((((a0 - ((mr_ushr a0 1) &&& 1431655765)) &&& 858993459) + ((mr_ushr (a0 - ((mr_ushr a0 1) &&& 1431655765)) 2) &&& 858993459)) + (mr_ushr (((a0 - ((mr_ushr a0 1) &&& 1431655765)) &&& 858993459) + ((mr_ushr (a0 - ((mr_ushr a0 1) &&& 1431655765)) 2) &&& 858993459)) 4)) &&& 252645135) 8)) 16)))]) hx hb d_I_bitCount_47 rfl hl (by decide) rfl (fun ls hl => ?_)
  refine lv_iload_n hx hb d_I_bitCount_48 rfl (lv_at hl 0 rfl) ?_
  refine lv_bipush (v := 63) hx hb d_I_bitCount_49 (by decide) ?_
  refine lv_iand hx hb d_I_bitCount_51 ?_
  exact W.iret (v := (((((((a0 - ((mr_ushr a0 1) &&& 1431655765)) &&& 858993459) + ((mr_ushr (a0 - ((mr_ushr a0 1) &&& 1431655765)) 2) &&& 858993459)) + (mr_ushr (((a0 - ((mr_ushr a0 1) &&& 1431655765)) &&& 858993459) + ((mr_ushr (a0 - ((mr_ushr a0 1) &&& 1431655765)) 2) &&& 858993459)) 4)) &&& 252645135) + (mr_ushr (((((a0 - ((mr_ushr a0 1) &&& 1431655765)) &&& 858993459) + ((mr_ushr (a0 - ((mr_ushr a0 1) &&& 1431655765)) 2) &&& 858993459)) + (mr_ushr (((a0 - ((mr_ushr a0 1) &&& 1431655765)) &&& 858993459) + ((mr_ushr (a0 - ((mr_ushr a0 1) &&& 1431655765)) 2) &&& 858993459)) 4)) &&& 252645135) 8)) + (mr_ushr ((((((a0 - ((mr_ushr a0 1) &&& 1431655765)) &&& 858993459) + ((mr_ushr (a0 - ((mr_ushr a0 1) &&& 1431655765)) 2) &&& 858993459)) + (mr_ushr (((a0 - ((mr_ushr a0 1) &&& 1431655765)) &&& 858993459) + ((mr_ushr (a0 - ((mr_ushr a0 1) &&& 1431655765)) 2) &&& 858993459)) 4)) &&& 252645135) + (mr_ushr (((((a0 - ((mr_ushr a0 1) &&& 1431655765)) &&& 858993459) + ((mr_ushr (a0 - ((mr_ushr a0 1) &&& 1431655765)) 2) &&& 858993459)) + (mr_ushr (((a0 - ((mr_ushr a0 1) &&& 1431655765)) &&& 858993459) + ((mr_ushr (a0 - ((mr_ushr a0 1) &&& 1431655765)) 2) &&& 858993459)) 4)) &&& 252645135) 8)) 16)) &&& 63) hx hb hr (fun t ht _ => ⟨_, rfl, rfl, ht⟩) (fun _ h => nomatch h) d_I_bitCount_52
end
section
theorem mr_i16 {x : Int32} (h1 : ¬ x < 16) (h2 : ¬ 24 ≤ x) : x = 16 ∨ x = 17 ∨ x = 18 ∨ x = 19 ∨ x = 20 ∨ x = 21 ∨ x = 22 ∨ x = 23 := by
  rw [Int32.lt_iff_toInt_lt] at h1
  rw [Int32.le_iff_toInt_le] at h2
  have a1 : (16 : Int32).toInt = 16 := by decide
  have a2 : (24 : Int32).toInt = 24 := by decide
  have key : ∀ k : Int32, x.toInt = k.toInt → x = k := fun k h => Int32.toInt_inj.mp h
  have e : x.toInt = 16 ∨ x.toInt = 17 ∨ x.toInt = 18 ∨ x.toInt = 19 ∨ x.toInt = 20 ∨ x.toInt = 21 ∨ x.toInt = 22 ∨ x.toInt = 23 := by omega
  rcases e with e | e | e | e | e | e | e | e
  · exact Or.inl (key _ e)
  · exact Or.inr (Or.inl (key _ e))
  · exact Or.inr (Or.inr (Or.inl (key _ e)))
  · exact Or.inr (Or.inr (Or.inr (Or.inl (key _ e))))
  · exact Or.inr (Or.inr (Or.inr (Or.inr (Or.inl (key _ e)))))
  · exact Or.inr (Or.inr (Or.inr (Or.inr (Or.inr (Or.inl (key _ e))))))
  · exact Or.inr (Or.inr (Or.inr (Or.inr (Or.inr (Or.inr (Or.inl (key _ e)))))))
  · exact Or.inr (Or.inr (Or.inr (Or.inr (Or.inr (Or.inr (Or.inr (key _ e)))))))
theorem mr_i8 {x : Int32} (h1 : ¬ x < 16) (h2 : ¬ 24 ≤ x) : vp_in (x - 16) 8 := by
  rcases mr_i16 h1 h2 with h | h | h | h | h | h | h | h <;> rw [h] <;> unfold vp_in <;> decide
theorem mr_gi {x : Int32} (h : ¬ mv_M_isGroup x = 0) : vp_in (x - 16) 8 := by
  unfold mv_M_isGroup at h
  by_cases h1 : x < 16
  · rw [if_pos h1] at h; exact absurd rfl h
  · rw [if_neg h1] at h
    by_cases h2 : 24 ≤ x
    · rw [if_pos h2] at h; exact absurd rfl h
    · exact mr_i8 h1 h2
theorem mw_24 : Cond.methodLinkNest "MeasureRows$Groups" 18 y_M_isGroup "MeasureRows" ∈ lw_tbl := by decide +kernel
theorem mw_25 : Cond.fieldLink "MeasureRows$Groups" 15 "MeasureRows$Groups" "inside" "[I" ∈ lw_tbl := by decide +kernel
theorem mw_26 : Cond.code y_G_insideOf b_G_insideOf 2 (some .int) ∈ lw_tbl := by decide +kernel
theorem mw_27 : Cond.initialized y_G_insideOf.cls ∈ lw_tbl := by decide +kernel
theorem mw_28 : Cond.methodLink "MeasureRows$Groups" 29 y_G_insideOf ∈ lw_tbl := by decide +kernel
theorem mw_29 : Cond.instanceMethod y_G_insideOf ∈ lw_tbl := by decide +kernel
theorem mw_30 : Cond.selects "MeasureRows$Groups" y_G_insideOf y_G_insideOf ∈ lw_tbl := by decide +kernel
theorem mw_31 : Cond.code y_M_hasBit b_M_hasBit 2 (some .boolean) ∈ lw_tbl := by decide +kernel
theorem mw_32 : Cond.initialized y_M_hasBit.cls ∈ lw_tbl := by decide +kernel
theorem mw_33 : Cond.methodLinkNest "MeasureRows$Groups" 22 y_M_hasBit "MeasureRows" ∈ lw_tbl := by decide +kernel
theorem mw_34 : Cond.static y_M_hasBit ∈ lw_tbl := by decide +kernel
theorem mw_35 : Cond.constant "MeasureRows$Groups" 33 65535 ∈ lw_tbl := by decide +kernel
theorem mw_36 : Cond.code y_I_bitCount b_I_bitCount 1 (some .int) ∈ lw_tbl := by decide +kernel
theorem mw_37 : Cond.initialized y_I_bitCount.cls ∈ lw_tbl := by decide +kernel
theorem mw_38 : Cond.methodLink "MeasureRows$Groups" 34 y_I_bitCount ∈ lw_tbl := by decide +kernel
theorem mw_39 : Cond.static y_I_bitCount ∈ lw_tbl := by decide +kernel
def mv_G_insideOf (fi : Nat → Int32) (a0 : Int32) : Int32 := if (mv_M_isGroup a0) = 0 then 0 else (fi (a0 - 16).toNatClampNeg)
set_option maxHeartbeats 4000000 in
set_option maxRecDepth 100000 in
theorem mc_G_insideOf (l : Launch) (s0 : State) (dC : Nat → ClassId) (dI : Nat → Nat → Nat) (cI cR cL cZ : ClassId) (q gm gi : Nat) (fi : Nat → Int32) (a0 : Int32) : Met l y_G_insideOf [Cond.code y_G_insideOf b_G_insideOf 2 (some .int)] ({ frames := 1, cells := 0, slots := 0, locals := 20 }) (mr_PW s0 (dC, dI) [(cI, .int), (cR, .object "MeasureRows$Row"), (cL, .long), (cZ, .boolean)] [.ref q, .int a0] [(q, .inr (1, [.ref gm, .ref gi])), (gi, .inl (cI, 8, .inl fi))]) (vp_Si (fun r => r = mv_G_insideOf fi a0)) 0 0 (fun _ => False) := by
  refine Met.ofW (cc := b_G_insideOf) (maxL := 2) (ret := (some .int)) (by decide) rfl ?_
  intro p e s m args below meth c s₁ B hml hv
  obtain ⟨rfl, hB, hK, hP⟩ := hv
  have hBH := hB.here
  have hx := B.exec
  have hb := B.bytes
  have hr := B.returns
  have hlocks := B.notSynchronized
  have hts : ∀ w ∈ lw_tbl, w.before [.ref q, .int a0].toArray s = true := hB.hts _
  have hown : s.vm.findClass "MeasureRows$Groups" = some m.cls := findClass_of_methodNamed B.named
  have hl := lv_entry ([.ref q, .int a0]) (n := 2) (Nat.le_of_ble_eq_true rfl)
  rw [lg_entry_eq]
  generalize (lg_sl ([.ref q, .int a0]) ++ List.replicate (2 - (lg_sl ([.ref q, .int a0])).length) Slot.unset).toArray = ls at hl ⊢
  have hl : lv_has ls 2 [(0, .ref q), (1, .int a0)] := hl
  refine lv_iload_n hx hb d_G_insideOf_0 rfl (lv_at hl 1 rfl) ?_
  refine vp_callSi (va_Run.run (va_runSN (As := [.int a0]) (rest := []) ⟨hx, hb, hml, hown, hts⟩ (mc_M_isGroup l s0 a0) ⟨(mr_cN 1 (hts (Cond.code y_M_isGroup b_M_isGroup 1 (some .boolean)) mw_5) (hts (Cond.initialized y_M_isGroup.cls) mw_6) (hts (Cond.methodLinkNest "MeasureRows$Groups" 18 y_M_isGroup "MeasureRows") mw_24) rfl rfl (by decide +kernel) ⟨Nat.le_of_ble_eq_true rfl, Nat.le_of_ble_eq_true rfl⟩), (hts (Cond.static y_M_isGroup) mw_8), trivial⟩ (mr_pre0 hBH) rfl rfl hl.1 rfl (lv_room (Nat.le_of_ble_eq_true rfl)) d_G_insideOf_1 ⟨Nat.le_of_ble_eq_true rfl, Nat.le_of_ble_eq_true rfl⟩)) (fun r_1 h_2 => ?_)
  subst h_2
  refine lv_if_eq (tgt := 19) hx hb d_G_insideOf_4 (by decide) (fun c_3 => ?_) (fun c_3 => ?_)
  · refine lv_iconst (v := 0) hx hb d_G_insideOf_19 (by decide) ?_
    exact W.iret (v := 0) hx hb hr (fun t ht _ => ⟨_, rfl, by unfold mv_G_insideOf; rw [if_pos c_3], ht⟩) (fun _ h => nomatch h) d_G_insideOf_20
  · refine lv_aload_n hx hb d_G_insideOf_7 rfl (lv_at hl 0 rfl) ?_
    refine va_get (D := (dC, dI)) (ci := 1) (v := .ref gi) (C := R_G) (T := T_G) (N := 2) hx hb hts ti_G hown hK hP 0 rfl rfl 1 (by decide) (hts (Cond.fieldLink "MeasureRows$Groups" 15 "MeasureRows$Groups" "inside" "[I") mw_25) (fun _ h9 => h9) rfl d_G_insideOf_8 ?_
    refine lv_iload_n hx hb d_G_insideOf_11 rfl (lv_at hl 1 rfl) ?_
    refine lv_bipush (v := 16) hx hb d_G_insideOf_12 (by decide) ?_
    refine lv_isub hx hb d_G_insideOf_14 ?_
    refine va_iald (D := (dC, dI)) hx hb hK hP 1 0 rfl rfl (i := a0 - 16) (mr_gi c_3) d_G_insideOf_15 ?_
    refine lv_goto (tgt := 20) hx hb d_G_insideOf_16 (by decide) ?_
    exact W.iret (v := fi (a0 - 16).toNatClampNeg) hx hb hr (fun t ht _ => ⟨_, rfl, by unfold mv_G_insideOf; rw [if_neg c_3], ht⟩) (fun _ h => nomatch h) d_G_insideOf_20
def mv_G_wouldRing (fi : Nat → Int32) (a0 : Int32) (a1 : Int32) : Int32 := if a1 = a0 then 1 else if (mv_M_hasBit (mv_G_insideOf fi a1) a0) = 0 then 0 else 1
theorem mv_G_wouldRing_b (fi : Nat → Int32) (a0 : Int32) (a1 : Int32) : mr_b01 (mv_G_wouldRing fi a0 a1) := (mr_bi mr_b1 (mr_bi mr_b0 mr_b1))
set_option maxHeartbeats 4000000 in
set_option maxRecDepth 100000 in
theorem mc_G_wouldRing (l : Launch) (s0 : State) (dC : Nat → ClassId) (dI : Nat → Nat → Nat) (cI cR cL cZ : ClassId) (q gm gi : Nat) (fi : Nat → Int32) (a0 : Int32) (a1 : Int32) : Met l y_G_wouldRing [Cond.code y_G_wouldRing b_G_wouldRing 3 (some .boolean)] ({ frames := 2, cells := 0, slots := 0, locals := 41 }) (mr_PW s0 (dC, dI) [(cI, .int), (cR, .object "MeasureRows$Row"), (cL, .long), (cZ, .boolean)] [.ref q, .int a0, .int a1] [(q, .inr (1, [.ref gm, .ref gi])), (gi, .inl (cI, 8, .inl fi))]) (vp_Si (fun r => r = mv_G_wouldRing fi a0 a1)) 0 0 (fun _ => False) := by
  refine Met.ofW (cc := b_G_wouldRing) (maxL := 3) (ret := (some .boolean)) (by decide) rfl ?_
  intro p e s m args below meth c s₁ B hml hv
  obtain ⟨rfl, hB, hK, hP⟩ := hv
  have hBH := hB.here
  have hx := B.exec
  have hb := B.bytes
  have hr := B.returns
  have hlocks := B.notSynchronized
  have hts : ∀ w ∈ lw_tbl, w.before [.ref q, .int a0, .int a1].toArray s = true := hB.hts _
  have hown : s.vm.findClass "MeasureRows$Groups" = some m.cls := findClass_of_methodNamed B.named
  have hl := lv_entry ([.ref q, .int a0, .int a1]) (n := 3) (Nat.le_of_ble_eq_true rfl)
  rw [lg_entry_eq]
  generalize (lg_sl ([.ref q, .int a0, .int a1]) ++ List.replicate (3 - (lg_sl ([.ref q, .int a0, .int a1])).length) Slot.unset).toArray = ls at hl ⊢
  have hl : lv_has ls 3 [(0, .ref q), (1, .int a0), (2, .int a1)] := hl
  refine lv_iload_n hx hb d_G_wouldRing_0 rfl (lv_at hl 2 rfl) ?_
  refine lv_iload_n hx hb d_G_wouldRing_1 rfl (lv_at hl 1 rfl) ?_
  refine lv_icmp_eq (tgt := 17) hx hb d_G_wouldRing_2 (by decide) (fun c_1 => ?_) (fun c_1 => ?_)
  · refine lv_iconst (v := 1) hx hb d_G_wouldRing_17 (by decide) ?_
    refine lv_goto (tgt := 22) hx hb d_G_wouldRing_18 (by decide) ?_
    exact W.zret (v := 1) hx hb hr (mr_narz mr_b1) (fun t ht _ => ⟨_, rfl, by unfold mv_G_wouldRing; rw [if_pos c_1], ht⟩) (fun _ h => nomatch h) d_G_wouldRing_22
  · refine lv_aload_n hx hb d_G_wouldRing_5 rfl (lv_at hl 0 rfl) ?_
    refine lv_iload_n hx hb d_G_wouldRing_6 rfl (lv_at hl 2 rfl) ?_
    refine vp_callSi (va_Run.run (va_runV (As := [.int a1]) (rest := []) (C := R_G) ⟨hx, hb, hml, hown, hts⟩ (mc_G_insideOf l s0 dC dI cI cR cL cZ q gm gi fi a1) ⟨(mr_cB 1 (hts (Cond.code y_G_insideOf b_G_insideOf 2 (some .int)) mw_26) (hts (Cond.initialized y_G_insideOf.cls) mw_27) (hts (Cond.methodLink "MeasureRows$Groups" 29 y_G_insideOf) mw_28) rfl rfl (by decide +kernel) ⟨Nat.le_of_ble_eq_true rfl, Nat.le_of_ble_eq_true rfl⟩), (hts (Cond.instanceMethod y_G_insideOf) mw_29), (hts (Cond.selects "MeasureRows$Groups" y_G_insideOf y_G_insideOf) mw_30)⟩ (mr_preV hBH hK (hP.sub (ws' := [(q, .inr (1, [.ref gm, .ref gi])), (gi, .inl (cI, 8, .inl fi))]) [0, 1] rfl) (ci := 1) (q0 := 0) rfl rfl) rfl rfl hl.1 rfl (lv_room (Nat.le_of_ble_eq_true rfl)) d_G_wouldRing_7 ⟨Nat.le_of_ble_eq_true rfl, Nat.le_of_ble_eq_true rfl⟩)) (fun r_2 h_3 => ?_)
    subst h_3
    refine lv_iload_n hx hb d_G_wouldRing_10 rfl (lv_at hl 1 rfl) ?_
    refine vp_callSi (va_Run.run (va_runSN (As := [.int (mv_G_insideOf fi a1), .int a0]) (rest := []) ⟨hx, hb, hml, hown, hts⟩ (mc_M_hasBit l s0 (mv_G_insideOf fi a1) a0) ⟨(mr_cN 2 (hts (Cond.code y_M_hasBit b_M_hasBit 2 (some .boolean)) mw_31) (hts (Cond.initialized y_M_hasBit.cls) mw_32) (hts (Cond.methodLinkNest "MeasureRows$Groups" 22 y_M_hasBit "MeasureRows") mw_33) rfl rfl (by decide +kernel) ⟨Nat.le_of_ble_eq_true rfl, Nat.le_of_ble_eq_true rfl⟩), (hts (Cond.static y_M_hasBit) mw_34), trivial⟩ (mr_pre0 hBH) rfl rfl hl.1 rfl (lv_room (Nat.le_of_ble_eq_true rfl)) d_G_wouldRing_11 ⟨Nat.le_of_ble_eq_true rfl, Nat.le_of_ble_eq_true rfl⟩)) (fun r_4 h_5 => ?_)
    subst h_5
    refine lv_if_eq (tgt := 21) hx hb d_G_wouldRing_14 (by decide) (fun c_6 => ?_) (fun c_6 => ?_)
    · refine lv_iconst (v := 0) hx hb d_G_wouldRing_21 (by decide) ?_
      exact W.zret (v := 0) hx hb hr (mr_narz mr_b0) (fun t ht _ => ⟨_, rfl, by unfold mv_G_wouldRing; rw [if_neg c_1, if_pos c_6], ht⟩) (fun _ h => nomatch h) d_G_wouldRing_22
    · refine lv_iconst (v := 1) hx hb d_G_wouldRing_17 (by decide) ?_
      refine lv_goto (tgt := 22) hx hb d_G_wouldRing_18 (by decide) ?_
      exact W.zret (v := 1) hx hb hr (mr_narz mr_b1) (fun t ht _ => ⟨_, rfl, by unfold mv_G_wouldRing; rw [if_neg c_1, if_neg c_6], ht⟩) (fun _ h => nomatch h) d_G_wouldRing_22
def mv_G_reaches (fi : Nat → Int32) (a0 : Int32) (a1 : Int32) : Int32 := if a0 = 31 then 1 else if (mv_M_hasBit (mv_G_insideOf fi a0) a1) = 0 then 0 else 1
theorem mv_G_reaches_b (fi : Nat → Int32) (a0 : Int32) (a1 : Int32) : mr_b01 (mv_G_reaches fi a0 a1) := (mr_bi mr_b1 (mr_bi mr_b0 mr_b1))
set_option maxHeartbeats 4000000 in
set_option maxRecDepth 100000 in
theorem mc_G_reaches (l : Launch) (s0 : State) (dC : Nat → ClassId) (dI : Nat → Nat → Nat) (cI cR cL cZ : ClassId) (q gm gi : Nat) (fi : Nat → Int32) (a0 : Int32) (a1 : Int32) : Met l y_G_reaches [Cond.code y_G_reaches b_G_reaches 3 (some .boolean)] ({ frames := 2, cells := 0, slots := 0, locals := 41 }) (mr_PW s0 (dC, dI) [(cI, .int), (cR, .object "MeasureRows$Row"), (cL, .long), (cZ, .boolean)] [.ref q, .int a0, .int a1] [(q, .inr (1, [.ref gm, .ref gi])), (gi, .inl (cI, 8, .inl fi))]) (vp_Si (fun r => r = mv_G_reaches fi a0 a1)) 0 0 (fun _ => False) := by
  refine Met.ofW (cc := b_G_reaches) (maxL := 3) (ret := (some .boolean)) (by decide) rfl ?_
  intro p e s m args below meth c s₁ B hml hv
  obtain ⟨rfl, hB, hK, hP⟩ := hv
  have hBH := hB.here
  have hx := B.exec
  have hb := B.bytes
  have hr := B.returns
  have hlocks := B.notSynchronized
  have hts : ∀ w ∈ lw_tbl, w.before [.ref q, .int a0, .int a1].toArray s = true := hB.hts _
  have hown : s.vm.findClass "MeasureRows$Groups" = some m.cls := findClass_of_methodNamed B.named
  have hl := lv_entry ([.ref q, .int a0, .int a1]) (n := 3) (Nat.le_of_ble_eq_true rfl)
  rw [lg_entry_eq]
  generalize (lg_sl ([.ref q, .int a0, .int a1]) ++ List.replicate (3 - (lg_sl ([.ref q, .int a0, .int a1])).length) Slot.unset).toArray = ls at hl ⊢
  have hl : lv_has ls 3 [(0, .ref q), (1, .int a0), (2, .int a1)] := hl
  refine lv_iload_n hx hb d_G_reaches_0 rfl (lv_at hl 1 rfl) ?_
  refine lv_bipush (v := 31) hx hb d_G_reaches_1 (by decide) ?_
  refine lv_icmp_eq (tgt := 18) hx hb d_G_reaches_3 (by decide) (fun c_1 => ?_) (fun c_1 => ?_)
  · refine lv_iconst (v := 1) hx hb d_G_reaches_18 (by decide) ?_
    refine lv_goto (tgt := 23) hx hb d_G_reaches_19 (by decide) ?_
    exact W.zret (v := 1) hx hb hr (mr_narz mr_b1) (fun t ht _ => ⟨_, rfl, by unfold mv_G_reaches; rw [if_pos c_1], ht⟩) (fun _ h => nomatch h) d_G_reaches_23
  · refine lv_aload_n hx hb d_G_reaches_6 rfl (lv_at hl 0 rfl) ?_
    refine lv_iload_n hx hb d_G_reaches_7 rfl (lv_at hl 1 rfl) ?_
    refine vp_callSi (va_Run.run (va_runV (As := [.int a0]) (rest := []) (C := R_G) ⟨hx, hb, hml, hown, hts⟩ (mc_G_insideOf l s0 dC dI cI cR cL cZ q gm gi fi a0) ⟨(mr_cB 1 (hts (Cond.code y_G_insideOf b_G_insideOf 2 (some .int)) mw_26) (hts (Cond.initialized y_G_insideOf.cls) mw_27) (hts (Cond.methodLink "MeasureRows$Groups" 29 y_G_insideOf) mw_28) rfl rfl (by decide +kernel) ⟨Nat.le_of_ble_eq_true rfl, Nat.le_of_ble_eq_true rfl⟩), (hts (Cond.instanceMethod y_G_insideOf) mw_29), (hts (Cond.selects "MeasureRows$Groups" y_G_insideOf y_G_insideOf) mw_30)⟩ (mr_preV hBH hK (hP.sub (ws' := [(q, .inr (1, [.ref gm, .ref gi])), (gi, .inl (cI, 8, .inl fi))]) [0, 1] rfl) (ci := 1) (q0 := 0) rfl rfl) rfl rfl hl.1 rfl (lv_room (Nat.le_of_ble_eq_true rfl)) d_G_reaches_8 ⟨Nat.le_of_ble_eq_true rfl, Nat.le_of_ble_eq_true rfl⟩)) (fun r_2 h_3 => ?_)
    subst h_3
    refine lv_iload_n hx hb d_G_reaches_11 rfl (lv_at hl 2 rfl) ?_
    refine vp_callSi (va_Run.run (va_runSN (As := [.int (mv_G_insideOf fi a0), .int a1]) (rest := []) ⟨hx, hb, hml, hown, hts⟩ (mc_M_hasBit l s0 (mv_G_insideOf fi a0) a1) ⟨(mr_cN 2 (hts (Cond.code y_M_hasBit b_M_hasBit 2 (some .boolean)) mw_31) (hts (Cond.initialized y_M_hasBit.cls) mw_32) (hts (Cond.methodLinkNest "MeasureRows$Groups" 22 y_M_hasBit "MeasureRows") mw_33) rfl rfl (by decide +kernel) ⟨Nat.le_of_ble_eq_true rfl, Nat.le_of_ble_eq_true rfl⟩), (hts (Cond.static y_M_hasBit) mw_34), trivial⟩ (mr_pre0 hBH) rfl rfl hl.1 rfl (lv_room (Nat.le_of_ble_eq_true rfl)) d_G_reaches_12 ⟨Nat.le_of_ble_eq_true rfl, Nat.le_of_ble_eq_true rfl⟩)) (fun r_4 h_5 => ?_)
    subst h_5
    refine lv_if_eq (tgt := 22) hx hb d_G_reaches_15 (by decide) (fun c_6 => ?_) (fun c_6 => ?_)
    · refine lv_iconst (v := 0) hx hb d_G_reaches_22 (by decide) ?_
      exact W.zret (v := 0) hx hb hr (mr_narz mr_b0) (fun t ht _ => ⟨_, rfl, by unfold mv_G_reaches; rw [if_neg c_1, if_pos c_6], ht⟩) (fun _ h => nomatch h) d_G_reaches_23
    · refine lv_iconst (v := 1) hx hb d_G_reaches_18 (by decide) ?_
      refine lv_goto (tgt := 23) hx hb d_G_reaches_19 (by decide) ?_
      exact W.zret (v := 1) hx hb hr (mr_narz mr_b1) (fun t ht _ => ⟨_, rfl, by unfold mv_G_reaches; rw [if_neg c_1, if_neg c_6], ht⟩) (fun _ h => nomatch h) d_G_reaches_23
def mv_G_landsIn (fi : Nat → Int32) (a0 : Int32) : Int32 := (mv_I_bitCount ((mv_G_insideOf fi a0) &&& 65535))
set_option maxHeartbeats 4000000 in
set_option maxRecDepth 100000 in
theorem mc_G_landsIn (l : Launch) (s0 : State) (dC : Nat → ClassId) (dI : Nat → Nat → Nat) (cI cR cL cZ : ClassId) (q gm gi : Nat) (fi : Nat → Int32) (a0 : Int32) : Met l y_G_landsIn [Cond.code y_G_landsIn b_G_landsIn 2 (some .int)] ({ frames := 2, cells := 0, slots := 0, locals := 41 }) (mr_PW s0 (dC, dI) [(cI, .int), (cR, .object "MeasureRows$Row"), (cL, .long), (cZ, .boolean)] [.ref q, .int a0] [(q, .inr (1, [.ref gm, .ref gi])), (gi, .inl (cI, 8, .inl fi))]) (vp_Si (fun r => r = mv_G_landsIn fi a0)) 0 0 (fun _ => False) := by
  refine Met.ofW (cc := b_G_landsIn) (maxL := 2) (ret := (some .int)) (by decide) rfl ?_
  intro p e s m args below meth c s₁ B hml hv
  obtain ⟨rfl, hB, hK, hP⟩ := hv
  have hBH := hB.here
  have hx := B.exec
  have hb := B.bytes
  have hr := B.returns
  have hlocks := B.notSynchronized
  have hts : ∀ w ∈ lw_tbl, w.before [.ref q, .int a0].toArray s = true := hB.hts _
  have hown : s.vm.findClass "MeasureRows$Groups" = some m.cls := findClass_of_methodNamed B.named
  have hl := lv_entry ([.ref q, .int a0]) (n := 2) (Nat.le_of_ble_eq_true rfl)
  rw [lg_entry_eq]
  generalize (lg_sl ([.ref q, .int a0]) ++ List.replicate (2 - (lg_sl ([.ref q, .int a0])).length) Slot.unset).toArray = ls at hl ⊢
  have hl : lv_has ls 2 [(0, .ref q), (1, .int a0)] := hl
  refine lv_aload_n hx hb d_G_landsIn_0 rfl (lv_at hl 0 rfl) ?_
  refine lv_iload_n hx hb d_G_landsIn_1 rfl (lv_at hl 1 rfl) ?_
  refine vp_callSi (va_Run.run (va_runV (As := [.int a0]) (rest := []) (C := R_G) ⟨hx, hb, hml, hown, hts⟩ (mc_G_insideOf l s0 dC dI cI cR cL cZ q gm gi fi a0) ⟨(mr_cB 1 (hts (Cond.code y_G_insideOf b_G_insideOf 2 (some .int)) mw_26) (hts (Cond.initialized y_G_insideOf.cls) mw_27) (hts (Cond.methodLink "MeasureRows$Groups" 29 y_G_insideOf) mw_28) rfl rfl (by decide +kernel) ⟨Nat.le_of_ble_eq_true rfl, Nat.le_of_ble_eq_true rfl⟩), (hts (Cond.instanceMethod y_G_insideOf) mw_29), (hts (Cond.selects "MeasureRows$Groups" y_G_insideOf y_G_insideOf) mw_30)⟩ (mr_preV hBH hK (hP.sub (ws' := [(q, .inr (1, [.ref gm, .ref gi])), (gi, .inl (cI, 8, .inl fi))]) [0, 1] rfl) (ci := 1) (q0 := 0) rfl rfl) rfl rfl hl.1 rfl (lv_room (Nat.le_of_ble_eq_true rfl)) d_G_landsIn_2 ⟨Nat.le_of_ble_eq_true rfl, Nat.le_of_ble_eq_true rfl⟩)) (fun r_1 h_2 => ?_)
  subst h_2
  refine lv_ldc (v := 65535) hx hb hown (hts (Cond.constant "MeasureRows$Groups" 33 65535) mw_35) d_G_landsIn_5 ?_
  refine lv_iand hx hb d_G_landsIn_7 ?_
  refine vp_callSi (va_Run.run (va_runS (As := [.int ((mv_G_insideOf fi a0) &&& 65535)]) (rest := []) ⟨hx, hb, hml, hown, hts⟩ (mc_I_bitCount l s0 ((mv_G_insideOf fi a0) &&& 65535)) ⟨(mr_cB 1 (hts (Cond.code y_I_bitCount b_I_bitCount 1 (some .int)) mw_36) (hts (Cond.initialized y_I_bitCount.cls) mw_37) (hts (Cond.methodLink "MeasureRows$Groups" 34 y_I_bitCount) mw_38) rfl rfl (by decide +kernel) ⟨Nat.le_of_ble_eq_true rfl, Nat.le_of_ble_eq_true rfl⟩), (hts (Cond.static y_I_bitCount) mw_39)⟩ (mr_pre0 hBH) rfl rfl hl.1 rfl (lv_room (Nat.le_of_ble_eq_true rfl)) d_G_landsIn_8 ⟨Nat.le_of_ble_eq_true rfl, Nat.le_of_ble_eq_true rfl⟩)) (fun r_3 h_4 => ?_)
  subst h_4
  exact W.iret (v := mv_I_bitCount ((mv_G_insideOf fi a0) &&& 65535)) hx hb hr (fun t ht _ => ⟨_, rfl, rfl, ht⟩) (fun _ h => nomatch h) d_G_landsIn_11
end
section
theorem mr_str {own tx : String} {k : Nat} {A : Array Value} {s : State} {cc : ClassId} (h : (Cond.stringRef own k tx).before A s = true) (hc : s.vm.findClass own = some cc) : ∃ sa, vk_R own k tx sa s := by
  obtain ⟨-, -, -, a, -, -, -, -, -, hev⟩ := Cond.stringRef_spec hc h
  exact ⟨a, vk_R.of h hev⟩
theorem mr_01 {x : Int32} (h1 : ¬ x < 1) (h2 : ¬ nI 0 < x) : False := by
  rw [Int32.lt_iff_toInt_lt] at h1 h2
  have a1 : (1 : Int32).toInt = 1 := by decide
  have a2 : (nI 0).toInt = 0 := by decide
  omega
theorem mr_no {x : Int32} {y : Int32} {n : Nat} (h1 : ¬ x < 1) (h2 : ¬ nI 0 < x) : vp_in y n := (mr_01 h1 h2).elim
theorem mr_rfv (r : Option Nat) : va_rf r = .null ∨ ∃ a, va_rf r = .ref a := by
  cases r with
  | none => exact Or.inl rfl
  | some a => exact Or.inr ⟨a, rfl⟩
abbrev mr_W (D : va_G) (tys : List (ClassId × FieldType)) (A : Nat → Prop) (ws : va_W) (t : State) : Prop := va_P D mr_cl ws t.heap ∧ va_K D mr_cl tys t ∧ va_D A ws
section MRG
variable {D : va_G} {cI cR cL cZ cA : ClassId} {s : State}
theorem mr_sameI (h : va_K D mr_cl ([(cI, .int), (cR, .object "MeasureRows$Row"), (cL, .long), (cZ, .boolean)] ++ [(cA, .int)]) s) : cA = cI := Option.some.inj (((h.2 4 _ rfl).2 : s.vm.findClass _ = some cA).symm.trans ((h.2 0 _ rfl).2 : s.vm.findClass _ = some cI))
theorem mr_sameL (h : va_K D mr_cl ([(cI, .int), (cR, .object "MeasureRows$Row"), (cL, .long), (cZ, .boolean)] ++ [(cA, .long)]) s) : cA = cL := Option.some.inj (((h.2 4 _ rfl).2 : s.vm.findClass _ = some cA).symm.trans ((h.2 2 _ rfl).2 : s.vm.findClass _ = some cL))
theorem mr_sameZ (h : va_K D mr_cl ([(cI, .int), (cR, .object "MeasureRows$Row"), (cL, .long), (cZ, .boolean)] ++ [(cA, .boolean)]) s) : cA = cZ := Option.some.inj (((h.2 4 _ rfl).2 : s.vm.findClass _ = some cA).symm.trans ((h.2 3 _ rfl).2 : s.vm.findClass _ = some cZ))
theorem mr_sameR (h : va_K D mr_cl ([(cI, .int), (cR, .object "MeasureRows$Row"), (cL, .long), (cZ, .boolean)] ++ [(cA, .object "MeasureRows$Row")]) s) : cA = cR := by
  obtain ⟨_, _, _, _, _, h1⟩ := (h.2 4 _ rfl).2
  obtain ⟨_, _, _, _, _, h2⟩ := (h.2 1 _ rfl).2
  exact Option.some.inj (h1.symm.trans h2)
end MRG
section MRH
variable {p : Program} {l : Launch} {e : Env} {R : Room} {s : State} {m : MethodId} {args : Array Value} {below : List Frame} {meth : Method} {c : Code} {cells slots : Nat} {Q : State → Prop} {pc : Nat}
/-- a loop of at most N rounds, by its state behind j rounds -/
theorem mr_loop {I : Nat → Heap → List Loc → Array Slot → Prop} {N : Nat}
    (hstep : ∀ (j : Nat) (H : Heap) (locs : List Loc) (ls : Array Slot), j < N → I j H locs ls → (∀ (H' : Heap) (locs' : List Loc) (ls' : Array Slot), I (j + 1) H' locs' ls' → W p l e R s m args below meth c H' locs' cells slots Q (F0 m pc ls' [])) → W p l e R s m args below meth c H locs cells slots Q (F0 m pc ls []))
    (hend : ∀ (H : Heap) (locs : List Loc) (ls : Array Slot), I N H locs ls → W p l e R s m args below meth c H locs cells slots Q (F0 m pc ls [])) :
    ∀ (j : Nat) (H : Heap) (locs : List Loc) (ls : Array Slot), j ≤ N → I j H locs ls → W p l e R s m args below meth c H locs cells slots Q (F0 m pc ls []) := by
  intro j
  generalize hn : N - j = n
  induction n generalizing j with
  | zero =>
    intro H locs ls hj hI
    have : j = N := by omega
    subst this
    exact hend H locs ls hI
  | succ n ih =>
    intro H locs ls hj hI
    exact hstep j H locs ls (by omega) hI (fun H' locs' ls' hI' => ih (j + 1) (by omega) H' locs' ls' (by omega) hI')
end MRH
theorem mw_40 : Cond.methodLink "MeasureRows$Groups" 3 objectInit ∈ lw_tbl := by decide +kernel
theorem mw_41 : Cond.instanceMethod objectInit ∈ lw_tbl := by decide +kernel
theorem mw_42 : Cond.code objectInit ⟨#[0xb1]⟩ 1 none ∈ lw_tbl := by decide +kernel
theorem mw_43 : Cond.arrayClass .int ∈ lw_tbl := by decide +kernel
theorem mw_44 : Cond.fieldLink "MeasureRows$Groups" 9 "MeasureRows$Groups" "members" "[I" ∈ lw_tbl := by decide +kernel
theorem mw_45 : Cond.methodLink "MeasureRows" 1 objectInit ∈ lw_tbl := by decide +kernel
theorem mw_46 : Cond.classLink "MeasureRows" 7 R_G ∈ lw_tbl := by decide +kernel
theorem mw_47 : Cond.instantiable R_G 2 ∈ lw_tbl := by decide +kernel
theorem mw_48 : Cond.initialized R_G ∈ lw_tbl := by decide +kernel
theorem mw_49 : Cond.code y_G_init b_G_init 1 none ∈ lw_tbl := by decide +kernel
theorem mw_50 : Cond.initialized y_G_init.cls ∈ lw_tbl := by decide +kernel
theorem mw_51 : Cond.methodLink "MeasureRows" 9 y_G_init ∈ lw_tbl := by decide +kernel
theorem mw_52 : Cond.instanceMethod y_G_init ∈ lw_tbl := by decide +kernel
theorem mw_53 : Cond.fieldLink "MeasureRows" 10 "MeasureRows" "groups" "LMeasureRows$Groups;" ∈ lw_tbl := by decide +kernel
theorem mw_54 : Cond.classLink "MeasureRows" 16 "MeasureRows$Row" ∈ lw_tbl := by decide +kernel
theorem mw_55 : Cond.arrayOver (.object "MeasureRows$Row") ∈ lw_tbl := by decide +kernel
theorem mw_56 : Cond.fieldLink "MeasureRows" 18 "MeasureRows" "rows" "[LMeasureRows$Row;" ∈ lw_tbl := by decide +kernel
theorem mw_57 : Cond.fieldLink "MeasureRows" 22 "MeasureRows" "rowCount" "I" ∈ lw_tbl := by decide +kernel
theorem mw_58 : Cond.fieldLink "MeasureRows" 26 "MeasureRows" "now" "I" ∈ lw_tbl := by decide +kernel
theorem mw_59 : Cond.fieldLink "MeasureRows" 29 "MeasureRows" "paperBits" "I" ∈ lw_tbl := by decide +kernel
theorem mw_60 : Cond.fieldLink "MeasureRows" 32 "MeasureRows" "listed" "[I" ∈ lw_tbl := by decide +kernel
theorem mw_61 : Cond.fieldLink "MeasureRows" 36 "MeasureRows" "listedCount" "I" ∈ lw_tbl := by decide +kernel
theorem mw_62 : Cond.fieldLink "MeasureRows" 39 "MeasureRows" "candidates" "[I" ∈ lw_tbl := by decide +kernel
theorem mw_63 : Cond.fieldLink "MeasureRows" 42 "MeasureRows" "greatestWeight" "[I" ∈ lw_tbl := by decide +kernel
set_option maxHeartbeats 4000000 in
set_option maxRecDepth 100000 in
theorem mc_G_init (l : Launch) (s0 : State) (dC : Nat → ClassId) (dI : Nat → Nat → Nat) (cI cR cL cZ : ClassId) (q : Nat) (sz : Nat)   : Met l y_G_init [Cond.code y_G_init b_G_init 1 none] ({ frames := 1, cells := 2, slots := 16, locals := 20 }) (mr_PC s0 (dC, dI) [(cI, .int), (cR, .object "MeasureRows$Row"), (cL, .long), (cZ, .boolean)] [.ref q] [(q, .inr (1, [.null, .null]))] sz) (va_Qv (fun _ => True) (fun (u : Nat × Nat) t => mr_W (dC, dI) [(cI, .int), (cR, .object "MeasureRows$Row"), (cL, .long), (cZ, .boolean)] (va_A [(q, .inr (1, [.null, .null]))] sz) [(q, .inr (1, [.ref u.1, .ref u.2])), (u.1, .inl (cI, 8, .inl (fun _ => 0))), (u.2, .inl (cI, 8, .inl (fun _ => 0)))] t) (va_A [(q, .inr (1, [.null, .null]))] sz)) 2 16 (va_A [(q, .inr (1, [.null, .null]))] sz) := by
  refine Met.ofW (cc := b_G_init) (maxL := 1) (ret := none) (by decide) rfl ?_
  intro p e s m args below meth c s₁ B hml hv
  obtain ⟨rfl, hsz, hB, hK, hP, hD0⟩ := hv
  subst hsz
  have hA0 := mr_A hB hD0
  have hD := hD0.self (sz := s.heap.size)
  generalize hAe : va_A [(q, .inr (1, [.null, .null]))] s.heap.size = A at hD hA0 ⊢
  have hA : ∀ q : Nat, s.heap.size ≤ q → A q := fun q h => by rw [← hAe]; exact Or.inr h
  have hS : va_S A s.heap s.heap [] := va_S.rf
  have hP : va_P (dC, dI) mr_cl [(q, .inr (1, [.null, .null]))] s.heap := hP
  have hBH := hB.at hS hA0
  have hin : meth.name = "<init>" := (name_of_methodNamed B.named B.method).1
  have hx := B.exec
  have hb := B.bytes
  have hr := B.returns
  have hlocks := B.notSynchronized
  have hts : ∀ w ∈ lw_tbl, w.before [.ref q].toArray s = true := hB.hts _
  have hown : s.vm.findClass "MeasureRows$Groups" = some m.cls := findClass_of_methodNamed B.named
  have hl := lv_entry ([.ref q]) (n := 1) (Nat.le_of_ble_eq_true rfl)
  rw [lg_entry_eq]
  generalize (lg_sl ([.ref q]) ++ List.replicate (1 - (lg_sl ([.ref q])).length) Slot.unset).toArray = ls at hl ⊢
  have hl : lv_has ls 1 [(0, .ref q)] := hl
  refine lv_aload_n hx hb d_G_init_0 rfl (lv_at hl 0 rfl) ?_
  refine W.objInit hx hb hown (hts (Cond.methodLink "MeasureRows$Groups" 3 objectInit) mw_40) (hts (Cond.instanceMethod objectInit) mw_41) (hts (Cond.code objectInit ⟨#[0xb1]⟩ 1 none) mw_42) rfl (by rw [hml]; exact hl.1) rfl d_G_init_1 (Nat.le_of_ble_eq_true rfl) (Nat.le_of_ble_eq_true rfl) ?_
  refine W.eq (g2 := F0 m 4 ls []) rfl ?_
  refine lv_aload_n hx hb d_G_init_4 rfl (lv_at hl 0 rfl) ?_
  refine lv_bipush (v := 8) hx hb d_G_init_5 (by decide) ?_
  refine va_newa (atype := .int) hx hb (hts (Cond.arrayClass .int) mw_43) (ty := .int) rfl hK hP hD hS hA (n := 8) (N' := 8) (a0 := (8, .inl (fun _ => 0))) (fun _ => rfl) (by decide) (by decide) (by decide) (Nat.le_of_ble_eq_true rfl) (Nat.le_of_ble_eq_true rfl) d_G_init_7 (fun q_1 cA_2 H hK1 hP hD hS => ?_)
  rw [mr_sameI hK1] at hP hD
  clear hK1
  have hP : va_P (dC, dI) mr_cl [(q, .inr (1, [.null, .null])), (q_1, .inl (cI, 8, .inl (fun _ => 0)))] H := hP
  have hD : va_D A [(q, .inr (1, [.null, .null])), (q_1, .inl (cI, 8, .inl (fun _ => 0)))] := hD
  have hBH := hB.at hS hA0
  refine W.widen (k := 1) (n := 8) (by omega) (by omega) ?_
  refine va_putF (D := (dC, dI)) (ci := 1) (v := .ref q_1) (ty := (.array .int)) (C := R_G) (T := T_G) (N := 2) hx hb hts ti_G t_G to_G tn_G hown hK hP hD hS 0 rfl rfl 0 (by decide) (hts (Cond.fieldLink "MeasureRows$Groups" 9 "MeasureRows$Groups" "members" "[I") mw_44) (fun _ h9 => h9) rfl hin rfl (by decide +kernel) rfl rfl (Nat.le_of_ble_eq_true rfl) d_G_init_9 (fun H locs hP hD hS => ?_)
  have hP : va_P (dC, dI) mr_cl [(q, .inr (1, [.ref q_1, .null])), (q_1, .inl (cI, 8, .inl (fun _ => 0)))] H := hP
  have hD : va_D A [(q, .inr (1, [.ref q_1, .null])), (q_1, .inl (cI, 8, .inl (fun _ => 0)))] := hD
  have hBH := hB.at hS hA0
  refine lv_aload_n hx hb d_G_init_12 rfl (lv_at hl 0 rfl) ?_
  refine lv_bipush (v := 8) hx hb d_G_init_13 (by decide) ?_
  refine va_newa (atype := .int) hx hb (hts (Cond.arrayClass .int) mw_43) (ty := .int) rfl hK hP hD hS hA (n := 8) (N' := 8) (a0 := (8, .inl (fun _ => 0))) (fun _ => rfl) (by decide) (by decide) (by decide) (Nat.le_of_ble_eq_true rfl) (Nat.le_of_ble_eq_true rfl) d_G_init_15 (fun q_3 cA_4 H hK1 hP hD hS => ?_)
  rw [mr_sameI hK1] at hP hD
  clear hK1
  have hP : va_P (dC, dI) mr_cl [(q, .inr (1, [.ref q_1, .null])), (q_1, .inl (cI, 8, .inl (fun _ => 0))), (q_3, .inl (cI, 8, .inl (fun _ => 0)))] H := hP
  have hD : va_D A [(q, .inr (1, [.ref q_1, .null])), (q_1, .inl (cI, 8, .inl (fun _ => 0))), (q_3, .inl (cI, 8, .inl (fun _ => 0)))] := hD
  have hBH := hB.at hS hA0
  refine W.widen (k := 2) (n := 16) (by omega) (by omega) ?_
  refine va_putF (D := (dC, dI)) (ci := 1) (v := .ref q_3) (ty := (.array .int)) (C := R_G) (T := T_G) (N := 2) hx hb hts ti_G t_G to_G tn_G hown hK hP hD hS 0 rfl rfl 1 (by decide) (hts (Cond.fieldLink "MeasureRows$Groups" 15 "MeasureRows$Groups" "inside" "[I") mw_25) (fun _ h9 => h9) rfl hin rfl (by decide +kernel) rfl rfl (Nat.le_of_ble_eq_true rfl) d_G_init_17 (fun H locs hP hD hS => ?_)
  have hP : va_P (dC, dI) mr_cl [(q, .inr (1, [.ref q_1, .ref q_3])), (q_1, .inl (cI, 8, .inl (fun _ => 0))), (q_3, .inl (cI, 8, .inl (fun _ => 0)))] H := hP
  have hD : va_D A [(q, .inr (1, [.ref q_1, .ref q_3])), (q_1, .inl (cI, 8, .inl (fun _ => 0))), (q_3, .inl (cI, 8, .inl (fun _ => 0)))] := hD
  have hBH := hB.at hS hA0
  have hP9 := hP.sub (ws' := [(q, .inr (1, [.ref q_1, .ref q_3])), (q_1, .inl (cI, 8, .inl (fun _ => 0))), (q_3, .inl (cI, 8, .inl (fun _ => 0)))]) [0, 1, 2] rfl
  have hD9 := hD.sub (ws' := [(q, .inr (1, [.ref q_1, .ref q_3])), (q_1, .inl (cI, 8, .inl (fun _ => 0))), (q_3, .inl (cI, 8, .inl (fun _ => 0)))]) [0, 1, 2] (by decide) rfl
  exact W.vret hx hb hr (fun t ht hW => ⟨⟨(q_1, q_3), rfl, trivial, by rw [ht]; exact hP9, va_K.moved hW.alike hK, hD9⟩, hS.F ht⟩) hS.2.2 d_G_init_20
set_option maxHeartbeats 4000000 in
set_option maxRecDepth 100000 in
theorem mc_M_init (l : Launch) (s0 : State) (dC : Nat → ClassId) (dI : Nat → Nat → Nat) (cI cR cL cZ : ClassId) (q : Nat) (sz : Nat)   : Met l y_M_init [Cond.code y_M_init b_M_init 1 none] ({ frames := 2, cells := 7, slots := 266, locals := 40 }) (mr_PC s0 (dC, dI) [(cI, .int), (cR, .object "MeasureRows$Row"), (cL, .long), (cZ, .boolean)] [.ref q] [(q, .inr (0, [.null, .null, .int 0, .int 0, .int 0, .null, .int 0, .null, .null]))] sz) (va_Qv (fun u => u 0 = q) (fun (u : Nat → Nat) t => mr_W (dC, dI) [(cI, .int), (cR, .object "MeasureRows$Row"), (cL, .long), (cZ, .boolean)] (va_A [(q, .inr (0, [.null, .null, .int 0, .int 0, .int 0, .null, .int 0, .null, .null]))] sz) [((u 0), .inr (0, mf_M u (nI 0) 0 0 0)), ((u 1), .inr (1, [.ref (u 2), .ref (u 3)])), ((u 2), .inl (cI, 8, .inl (fun _ => 0))), ((u 3), .inl (cI, 8, .inl (fun _ => 0))), ((u 4), .inl (cR, 80, .inr (.inr (.inr (.inr (fun _ => none)))))), ((u 5), .inl (cI, 80, .inl (fun _ => 0))), ((u 6), .inl (cI, 80, .inl (fun _ => 0))), ((u 7), .inl (cI, 8, .inl (fun _ => 0)))] t) (va_A [(q, .inr (0, [.null, .null, .int 0, .int 0, .int 0, .null, .int 0, .null, .null]))] sz)) 7 266 (va_A [(q, .inr (0, [.null, .null, .int 0, .int 0, .int 0, .null, .int 0, .null, .null]))] sz) := by
  refine Met.ofW (cc := b_M_init) (maxL := 1) (ret := none) (by decide) rfl ?_
  intro p e s m args below meth c s₁ B hml hv
  obtain ⟨rfl, hsz, hB, hK, hP, hD0⟩ := hv
  subst hsz
  have hA0 := mr_A hB hD0
  have hD := hD0.self (sz := s.heap.size)
  generalize hAe : va_A [(q, .inr (0, [.null, .null, .int 0, .int 0, .int 0, .null, .int 0, .null, .null]))] s.heap.size = A at hD hA0 ⊢
  have hA : ∀ q : Nat, s.heap.size ≤ q → A q := fun q h => by rw [← hAe]; exact Or.inr h
  have hS : va_S A s.heap s.heap [] := va_S.rf
  have hP : va_P (dC, dI) mr_cl [(q, .inr (0, [.null, .null, .int 0, .int 0, .int 0, .null, .int 0, .null, .null]))] s.heap := hP
  have hBH := hB.at hS hA0
  have hin : meth.name = "<init>" := (name_of_methodNamed B.named B.method).1
  have hx := B.exec
  have hb := B.bytes
  have hr := B.returns
  have hlocks := B.notSynchronized
  have hts : ∀ w ∈ lw_tbl, w.before [.ref q].toArray s = true := hB.hts _
  have hown : s.vm.findClass "MeasureRows" = some m.cls := findClass_of_methodNamed B.named
  have hl := lv_entry ([.ref q]) (n := 1) (Nat.le_of_ble_eq_true rfl)
  rw [lg_entry_eq]
  generalize (lg_sl ([.ref q]) ++ List.replicate (1 - (lg_sl ([.ref q])).length) Slot.unset).toArray = ls at hl ⊢
  have hl : lv_has ls 1 [(0, .ref q)] := hl
  refine lv_aload_n hx hb d_M_init_0 rfl (lv_at hl 0 rfl) ?_
  refine W.objInit hx hb hown (hts (Cond.methodLink "MeasureRows" 1 objectInit) mw_45) (hts (Cond.instanceMethod objectInit) mw_41) (hts (Cond.code objectInit ⟨#[0xb1]⟩ 1 none) mw_42) rfl (by rw [hml]; exact hl.1) rfl d_M_init_1 (Nat.le_of_ble_eq_true rfl) (Nat.le_of_ble_eq_true rfl) ?_
  refine W.eq (g2 := F0 m 4 ls []) rfl ?_
  refine lv_aload_n hx hb d_M_init_4 rfl (lv_at hl 0 rfl) ?_
  refine va_new (ci := 1) (fs := [.null, .null]) (C := R_G) (T := T_G) (N := 2) hx hb hts ti_G t_G to_G hown (hts (Cond.classLink "MeasureRows" 7 R_G) mw_46) (hts (Cond.instantiable R_G 2) mw_47) (hts (Cond.initialized R_G) mw_48) hK hP hD hS hA rfl (fun j hj => by rcases (show j = 0 ∨ j = 1 by omega) with rfl | rfl <;> rfl) (Nat.le_of_ble_eq_true rfl) (Nat.le_of_ble_eq_true rfl) d_M_init_5 (fun q_1 H hP hD hS => ?_)
  have hP : va_P (dC, dI) mr_cl [(q, .inr (0, [.null, .null, .int 0, .int 0, .int 0, .null, .int 0, .null, .null])), (q_1, .inr (1, [.null, .null]))] H := hP
  have hD : va_D A [(q, .inr (0, [.null, .null, .int 0, .int 0, .int 0, .null, .int 0, .null, .null])), (q_1, .inr (1, [.null, .null]))] := hD
  have hBH := hB.at hS hA0
  refine W.widen (k := 1) (n := 2) (by omega) (by omega) ?_
  refine lv_dup hx hb d_M_init_8 rfl ?_
  have hPc := hP.sub (ws' := [(q_1, .inr (1, [.null, .null]))]) [1] rfl
  have hDc := hD.sub (ws' := [(q_1, .inr (1, [.null, .null]))]) [1] (by decide) rfl
  have hFc := va_free (wc := [(q_1, .inr (1, [.null, .null]))]) hD hS hA [1] rfl
  refine va_callv (va_runI (As := []) (rest := [.ref q_1, .ref q]) ⟨hx, hb, hml, hown, hts⟩ (mc_G_init l s0 dC dI cI cR cL cZ q_1 _) ⟨(mr_cB 0 (hts (Cond.code y_G_init b_G_init 1 none) mw_49) (hts (Cond.initialized y_G_init.cls) mw_50) (hts (Cond.methodLink "MeasureRows" 9 y_G_init) mw_51) rfl rfl (by decide +kernel) ⟨Nat.le_of_ble_eq_true rfl, Nat.le_of_ble_eq_true rfl⟩), rfl, (hts (Cond.instanceMethod y_G_init) mw_52)⟩ (mr_preCS hBH hK hPc (hDc.weaken (fun _ _ _ h => hA0 _ h))) rfl rfl hl.1 rfl (lv_room (Nat.le_of_ble_eq_true rfl)) d_M_init_9 ⟨Nat.le_of_ble_eq_true rfl, Nat.le_of_ble_eq_true rfl⟩) hS (fun q _ h => hFc q h) hFc (fun u_3 t H1 locs ht hvm hw hB1 hz1 hk1 hS => ?_)
  obtain ⟨gm_4, gi_5⟩ := u_3
  obtain ⟨hP1, hK1, hD1⟩ := hB1
  rw [ht] at hP1
  obtain ⟨hP, hD⟩ := va_join (wr := [(q, .inr (0, [.null, .null, .int 0, .int 0, .int 0, .null, .int 0, .null, .null]))]) (w1 := [(q_1, .inr (1, [.ref gm_4, .ref gi_5])), (gm_4, .inl (cI, 8, .inl (fun _ => 0))), (gi_5, .inl (cI, 8, .inl (fun _ => 0)))]) hP hD [1] [0] rfl rfl (by decide) (by decide) hk1 hFc hP1 hD1
  clear hK1 hk1 hPc hDc hFc
  generalize H1 = H at hP hS ht ⊢
  have hP : va_P (dC, dI) mr_cl [(q, .inr (0, [.null, .null, .int 0, .int 0, .int 0, .null, .int 0, .null, .null])), (q_1, .inr (1, [.ref gm_4, .ref gi_5])), (gm_4, .inl (cI, 8, .inl (fun _ => 0))), (gi_5, .inl (cI, 8, .inl (fun _ => 0)))] H := hP
  have hD : va_D A [(q, .inr (0, [.null, .null, .int 0, .int 0, .int 0, .null, .int 0, .null, .null])), (q_1, .inr (1, [.ref gm_4, .ref gi_5])), (gm_4, .inl (cI, 8, .inl (fun _ => 0))), (gi_5, .inl (cI, 8, .inl (fun _ => 0)))] := hD
  have hBH := hB.at hS hA0
  refine W.widen (k := 3) (n := 18) (by omega) (by omega) ?_
  refine va_putF (D := (dC, dI)) (ci := 0) (v := .ref q_1) (ty := (.object "MeasureRows$Groups")) (C := R_M) (T := T_M) (N := 9) hx hb hts ti_M t_M to_M tn_M hown hK hP hD hS 0 rfl rfl 0 (by decide) (hts (Cond.fieldLink "MeasureRows" 10 "MeasureRows" "groups" "LMeasureRows$Groups;") mw_53) (fun _ h9 => h9) rfl hin rfl (by decide +kernel) rfl rfl (Nat.le_of_ble_eq_true rfl) d_M_init_12 (fun H locs hP hD hS => ?_)
  have hP : va_P (dC, dI) mr_cl [(q, .inr (0, [.ref q_1, .null, .int 0, .int 0, .int 0, .null, .int 0, .null, .null])), (q_1, .inr (1, [.ref gm_4, .ref gi_5])), (gm_4, .inl (cI, 8, .inl (fun _ => 0))), (gi_5, .inl (cI, 8, .inl (fun _ => 0)))] H := hP
  have hD : va_D A [(q, .inr (0, [.ref q_1, .null, .int 0, .int 0, .int 0, .null, .int 0, .null, .null])), (q_1, .inr (1, [.ref gm_4, .ref gi_5])), (gm_4, .inl (cI, 8, .inl (fun _ => 0))), (gi_5, .inl (cI, 8, .inl (fun _ => 0)))] := hD
  have hBH := hB.at hS hA0
  refine lv_aload_n hx hb d_M_init_15 rfl (lv_at hl 0 rfl) ?_
  refine lv_bipush (v := 80) hx hb d_M_init_16 (by decide) ?_
  refine va_newq hx hb hown (hts (Cond.classLink "MeasureRows" 16 "MeasureRows$Row") mw_54) (va_AO.of (hts (Cond.arrayOver (.object "MeasureRows$Row")) mw_55)) hK hP hD hS hA (n := 80) (N' := 80) (by decide) (by decide) (by decide) (Nat.le_of_ble_eq_true rfl) (Nat.le_of_ble_eq_true rfl) d_M_init_18 (fun q_6 cA_7 H hK1 hP hD hS => ?_)
  rw [mr_sameR hK1] at hP hD
  clear hK1
  have hP : va_P (dC, dI) mr_cl [(q, .inr (0, [.ref q_1, .null, .int 0, .int 0, .int 0, .null, .int 0, .null, .null])), (q_1, .inr (1, [.ref gm_4, .ref gi_5])), (gm_4, .inl (cI, 8, .inl (fun _ => 0))), (gi_5, .inl (cI, 8, .inl (fun _ => 0))), (q_6, .inl (cR, 80, .inr (.inr (.inr (.inr (fun _ => none))))))] H := hP
  have hD : va_D A [(q, .inr (0, [.ref q_1, .null, .int 0, .int 0, .int 0, .null, .int 0, .null, .null])), (q_1, .inr (1, [.ref gm_4, .ref gi_5])), (gm_4, .inl (cI, 8, .inl (fun _ => 0))), (gi_5, .inl (cI, 8, .inl (fun _ => 0))), (q_6, .inl (cR, 80, .inr (.inr (.inr (.inr (fun _ => none))))))] := hD
  have hBH := hB.at hS hA0
  refine W.widen (k := 4) (n := 98) (by omega) (by omega) ?_
  refine va_putF (D := (dC, dI)) (ci := 0) (v := .ref q_6) (ty := (.array (.object "MeasureRows$Row"))) (C := R_M) (T := T_M) (N := 9) hx hb hts ti_M t_M to_M tn_M hown hK hP hD hS 0 rfl rfl 1 (by decide) (hts (Cond.fieldLink "MeasureRows" 18 "MeasureRows" "rows" "[LMeasureRows$Row;") mw_56) (fun _ h9 => h9) rfl hin rfl (by decide +kernel) rfl rfl (Nat.le_of_ble_eq_true rfl) d_M_init_21 (fun H locs hP hD hS => ?_)
  have hP : va_P (dC, dI) mr_cl [(q, .inr (0, [.ref q_1, .ref q_6, .int 0, .int 0, .int 0, .null, .int 0, .null, .null])), (q_1, .inr (1, [.ref gm_4, .ref gi_5])), (gm_4, .inl (cI, 8, .inl (fun _ => 0))), (gi_5, .inl (cI, 8, .inl (fun _ => 0))), (q_6, .inl (cR, 80, .inr (.inr (.inr (.inr (fun _ => none))))))] H := hP
  have hD : va_D A [(q, .inr (0, [.ref q_1, .ref q_6, .int 0, .int 0, .int 0, .null, .int 0, .null, .null])), (q_1, .inr (1, [.ref gm_4, .ref gi_5])), (gm_4, .inl (cI, 8, .inl (fun _ => 0))), (gi_5, .inl (cI, 8, .inl (fun _ => 0))), (q_6, .inl (cR, 80, .inr (.inr (.inr (.inr (fun _ => none))))))] := hD
  have hBH := hB.at hS hA0
  refine lv_aload_n hx hb d_M_init_24 rfl (lv_at hl 0 rfl) ?_
  refine lv_iconst (v := 0) hx hb d_M_init_25 (by decide) ?_
  refine va_put (D := (dC, dI)) (ci := 0) (v := .int 0) (ty := .int) (C := R_M) (T := T_M) (N := 9) hx hb hts ti_M t_M to_M tn_M hown hK hP hD hS 0 rfl rfl 2 (by decide) (hts (Cond.fieldLink "MeasureRows" 22 "MeasureRows" "rowCount" "I") mw_57) (fun _ h9 => h9) rfl (by decide +kernel) rfl rfl (Nat.le_of_ble_eq_true rfl) d_M_init_26 (fun H locs hP hD hS => ?_)
  have hP : va_P (dC, dI) mr_cl [(q, .inr (0, [.ref q_1, .ref q_6, .int 0, .int 0, .int 0, .null, .int 0, .null, .null])), (q_1, .inr (1, [.ref gm_4, .ref gi_5])), (gm_4, .inl (cI, 8, .inl (fun _ => 0))), (gi_5, .inl (cI, 8, .inl (fun _ => 0))), (q_6, .inl (cR, 80, .inr (.inr (.inr (.inr (fun _ => none))))))] H := hP
  have hD : va_D A [(q, .inr (0, [.ref q_1, .ref q_6, .int 0, .int 0, .int 0, .null, .int 0, .null, .null])), (q_1, .inr (1, [.ref gm_4, .ref gi_5])), (gm_4, .inl (cI, 8, .inl (fun _ => 0))), (gi_5, .inl (cI, 8, .inl (fun _ => 0))), (q_6, .inl (cR, 80, .inr (.inr (.inr (.inr (fun _ => none))))))] := hD
  have hBH := hB.at hS hA0
  refine lv_aload_n hx hb d_M_init_29 rfl (lv_at hl 0 rfl) ?_
  refine lv_iconst (v := 0) hx hb d_M_init_30 (by decide) ?_
  refine va_put (D := (dC, dI)) (ci := 0) (v := .int 0) (ty := .int) (C := R_M) (T := T_M) (N := 9) hx hb hts ti_M t_M to_M tn_M hown hK hP hD hS 0 rfl rfl 3 (by decide) (hts (Cond.fieldLink "MeasureRows" 26 "MeasureRows" "now" "I") mw_58) (fun _ h9 => h9) rfl (by decide +kernel) rfl rfl (Nat.le_of_ble_eq_true rfl) d_M_init_31 (fun H locs hP hD hS => ?_)
  have hP : va_P (dC, dI) mr_cl [(q, .inr (0, [.ref q_1, .ref q_6, .int 0, .int 0, .int 0, .null, .int 0, .null, .null])), (q_1, .inr (1, [.ref gm_4, .ref gi_5])), (gm_4, .inl (cI, 8, .inl (fun _ => 0))), (gi_5, .inl (cI, 8, .inl (fun _ => 0))), (q_6, .inl (cR, 80, .inr (.inr (.inr (.inr (fun _ => none))))))] H := hP
  have hD : va_D A [(q, .inr (0, [.ref q_1, .ref q_6, .int 0, .int 0, .int 0, .null, .int 0, .null, .null])), (q_1, .inr (1, [.ref gm_4, .ref gi_5])), (gm_4, .inl (cI, 8, .inl (fun _ => 0))), (gi_5, .inl (cI, 8, .inl (fun _ => 0))), (q_6, .inl (cR, 80, .inr (.inr (.inr (.inr (fun _ => none))))))] := hD
  have hBH := hB.at hS hA0
  refine lv_aload_n hx hb d_M_init_34 rfl (lv_at hl 0 rfl) ?_
  refine lv_iconst (v := 0) hx hb d_M_init_35 (by decide) ?_
  refine va_put (D := (dC, dI)) (ci := 0) (v := .int 0) (ty := .int) (C := R_M) (T := T_M) (N := 9) hx hb hts ti_M t_M to_M tn_M hown hK hP hD hS 0 rfl rfl 4 (by decide) (hts (Cond.fieldLink "MeasureRows" 29 "MeasureRows" "paperBits" "I") mw_59) (fun _ h9 => h9) rfl (by decide +kernel) rfl rfl (Nat.le_of_ble_eq_true rfl) d_M_init_36 (fun H locs hP hD hS => ?_)
  have hP : va_P (dC, dI) mr_cl [(q, .inr (0, [.ref q_1, .ref q_6, .int 0, .int 0, .int 0, .null, .int 0, .null, .null])), (q_1, .inr (1, [.ref gm_4, .ref gi_5])), (gm_4, .inl (cI, 8, .inl (fun _ => 0))), (gi_5, .inl (cI, 8, .inl (fun _ => 0))), (q_6, .inl (cR, 80, .inr (.inr (.inr (.inr (fun _ => none))))))] H := hP
  have hD : va_D A [(q, .inr (0, [.ref q_1, .ref q_6, .int 0, .int 0, .int 0, .null, .int 0, .null, .null])), (q_1, .inr (1, [.ref gm_4, .ref gi_5])), (gm_4, .inl (cI, 8, .inl (fun _ => 0))), (gi_5, .inl (cI, 8, .inl (fun _ => 0))), (q_6, .inl (cR, 80, .inr (.inr (.inr (.inr (fun _ => none))))))] := hD
  have hBH := hB.at hS hA0
  refine lv_aload_n hx hb d_M_init_39 rfl (lv_at hl 0 rfl) ?_
  refine lv_bipush (v := 80) hx hb d_M_init_40 (by decide) ?_
  refine va_newa (atype := .int) hx hb (hts (Cond.arrayClass .int) mw_43) (ty := .int) rfl hK hP hD hS hA (n := 80) (N' := 80) (a0 := (80, .inl (fun _ => 0))) (fun _ => rfl) (by decide) (by decide) (by decide) (Nat.le_of_ble_eq_true rfl) (Nat.le_of_ble_eq_true rfl) d_M_init_42 (fun q_8 cA_9 H hK1 hP hD hS => ?_)
  rw [mr_sameI hK1] at hP hD
  clear hK1
  have hP : va_P (dC, dI) mr_cl [(q, .inr (0, [.ref q_1, .ref q_6, .int 0, .int 0, .int 0, .null, .int 0, .null, .null])), (q_1, .inr (1, [.ref gm_4, .ref gi_5])), (gm_4, .inl (cI, 8, .inl (fun _ => 0))), (gi_5, .inl (cI, 8, .inl (fun _ => 0))), (q_6, .inl (cR, 80, .inr (.inr (.inr (.inr (fun _ => none)))))), (q_8, .inl (cI, 80, .inl (fun _ => 0)))] H := hP
  have hD : va_D A [(q, .inr (0, [.ref q_1, .ref q_6, .int 0, .int 0, .int 0, .null, .int 0, .null, .null])), (q_1, .inr (1, [.ref gm_4, .ref gi_5])), (gm_4, .inl (cI, 8, .inl (fun _ => 0))), (gi_5, .inl (cI, 8, .inl (fun _ => 0))), (q_6, .inl (cR, 80, .inr (.inr (.inr (.inr (fun _ => none)))))), (q_8, .inl (cI, 80, .inl (fun _ => 0)))] := hD
  have hBH := hB.at hS hA0
  refine W.widen (k := 5) (n := 178) (by omega) (by omega) ?_
  refine va_putF (D := (dC, dI)) (ci := 0) (v := .ref q_8) (ty := (.array .int)) (C := R_M) (T := T_M) (N := 9) hx hb hts ti_M t_M to_M tn_M hown hK hP hD hS 0 rfl rfl 5 (by decide) (hts (Cond.fieldLink "MeasureRows" 32 "MeasureRows" "listed" "[I") mw_60) (fun _ h9 => h9) rfl hin rfl (by decide +kernel) rfl rfl (Nat.le_of_ble_eq_true rfl) d_M_init_44 (fun H locs hP hD hS => ?_)
  have hP : va_P (dC, dI) mr_cl [(q, .inr (0, [.ref q_1, .ref q_6, .int 0, .int 0, .int 0, .ref q_8, .int 0, .null, .null])), (q_1, .inr (1, [.ref gm_4, .ref gi_5])), (gm_4, .inl (cI, 8, .inl (fun _ => 0))), (gi_5, .inl (cI, 8, .inl (fun _ => 0))), (q_6, .inl (cR, 80, .inr (.inr (.inr (.inr (fun _ => none)))))), (q_8, .inl (cI, 80, .inl (fun _ => 0)))] H := hP
  have hD : va_D A [(q, .inr (0, [.ref q_1, .ref q_6, .int 0, .int 0, .int 0, .ref q_8, .int 0, .null, .null])), (q_1, .inr (1, [.ref gm_4, .ref gi_5])), (gm_4, .inl (cI, 8, .inl (fun _ => 0))), (gi_5, .inl (cI, 8, .inl (fun _ => 0))), (q_6, .inl (cR, 80, .inr (.inr (.inr (.inr (fun _ => none)))))), (q_8, .inl (cI, 80, .inl (fun _ => 0)))] := hD
  have hBH := hB.at hS hA0
  refine lv_aload_n hx hb d_M_init_47 rfl (lv_at hl 0 rfl) ?_
  refine lv_iconst (v := 0) hx hb d_M_init_48 (by decide) ?_
  refine va_put (D := (dC, dI)) (ci := 0) (v := .int 0) (ty := .int) (C := R_M) (T := T_M) (N := 9) hx hb hts ti_M t_M to_M tn_M hown hK hP hD hS 0 rfl rfl 6 (by decide) (hts (Cond.fieldLink "MeasureRows" 36 "MeasureRows" "listedCount" "I") mw_61) (fun _ h9 => h9) rfl (by decide +kernel) rfl rfl (Nat.le_of_ble_eq_true rfl) d_M_init_49 (fun H locs hP hD hS => ?_)
  have hP : va_P (dC, dI) mr_cl [(q, .inr (0, [.ref q_1, .ref q_6, .int 0, .int 0, .int 0, .ref q_8, .int 0, .null, .null])), (q_1, .inr (1, [.ref gm_4, .ref gi_5])), (gm_4, .inl (cI, 8, .inl (fun _ => 0))), (gi_5, .inl (cI, 8, .inl (fun _ => 0))), (q_6, .inl (cR, 80, .inr (.inr (.inr (.inr (fun _ => none)))))), (q_8, .inl (cI, 80, .inl (fun _ => 0)))] H := hP
  have hD : va_D A [(q, .inr (0, [.ref q_1, .ref q_6, .int 0, .int 0, .int 0, .ref q_8, .int 0, .null, .null])), (q_1, .inr (1, [.ref gm_4, .ref gi_5])), (gm_4, .inl (cI, 8, .inl (fun _ => 0))), (gi_5, .inl (cI, 8, .inl (fun _ => 0))), (q_6, .inl (cR, 80, .inr (.inr (.inr (.inr (fun _ => none)))))), (q_8, .inl (cI, 80, .inl (fun _ => 0)))] := hD
  have hBH := hB.at hS hA0
  refine lv_aload_n hx hb d_M_init_52 rfl (lv_at hl 0 rfl) ?_
  refine lv_bipush (v := 80) hx hb d_M_init_53 (by decide) ?_
  refine va_newa (atype := .int) hx hb (hts (Cond.arrayClass .int) mw_43) (ty := .int) rfl hK hP hD hS hA (n := 80) (N' := 80) (a0 := (80, .inl (fun _ => 0))) (fun _ => rfl) (by decide) (by decide) (by decide) (Nat.le_of_ble_eq_true rfl) (Nat.le_of_ble_eq_true rfl) d_M_init_55 (fun q_10 cA_11 H hK1 hP hD hS => ?_)
  rw [mr_sameI hK1] at hP hD
  clear hK1
  have hP : va_P (dC, dI) mr_cl [(q, .inr (0, [.ref q_1, .ref q_6, .int 0, .int 0, .int 0, .ref q_8, .int 0, .null, .null])), (q_1, .inr (1, [.ref gm_4, .ref gi_5])), (gm_4, .inl (cI, 8, .inl (fun _ => 0))), (gi_5, .inl (cI, 8, .inl (fun _ => 0))), (q_6, .inl (cR, 80, .inr (.inr (.inr (.inr (fun _ => none)))))), (q_8, .inl (cI, 80, .inl (fun _ => 0))), (q_10, .inl (cI, 80, .inl (fun _ => 0)))] H := hP
  have hD : va_D A [(q, .inr (0, [.ref q_1, .ref q_6, .int 0, .int 0, .int 0, .ref q_8, .int 0, .null, .null])), (q_1, .inr (1, [.ref gm_4, .ref gi_5])), (gm_4, .inl (cI, 8, .inl (fun _ => 0))), (gi_5, .inl (cI, 8, .inl (fun _ => 0))), (q_6, .inl (cR, 80, .inr (.inr (.inr (.inr (fun _ => none)))))), (q_8, .inl (cI, 80, .inl (fun _ => 0))), (q_10, .inl (cI, 80, .inl (fun _ => 0)))] := hD
  have hBH := hB.at hS hA0
  refine W.widen (k := 6) (n := 258) (by omega) (by omega) ?_
  refine va_putF (D := (dC, dI)) (ci := 0) (v := .ref q_10) (ty := (.array .int)) (C := R_M) (T := T_M) (N := 9) hx hb hts ti_M t_M to_M tn_M hown hK hP hD hS 0 rfl rfl 7 (by decide) (hts (Cond.fieldLink "MeasureRows" 39 "MeasureRows" "candidates" "[I") mw_62) (fun _ h9 => h9) rfl hin rfl (by decide +kernel) rfl rfl (Nat.le_of_ble_eq_true rfl) d_M_init_57 (fun H locs hP hD hS => ?_)
  have hP : va_P (dC, dI) mr_cl [(q, .inr (0, [.ref q_1, .ref q_6, .int 0, .int 0, .int 0, .ref q_8, .int 0, .ref q_10, .null])), (q_1, .inr (1, [.ref gm_4, .ref gi_5])), (gm_4, .inl (cI, 8, .inl (fun _ => 0))), (gi_5, .inl (cI, 8, .inl (fun _ => 0))), (q_6, .inl (cR, 80, .inr (.inr (.inr (.inr (fun _ => none)))))), (q_8, .inl (cI, 80, .inl (fun _ => 0))), (q_10, .inl (cI, 80, .inl (fun _ => 0)))] H := hP
  have hD : va_D A [(q, .inr (0, [.ref q_1, .ref q_6, .int 0, .int 0, .int 0, .ref q_8, .int 0, .ref q_10, .null])), (q_1, .inr (1, [.ref gm_4, .ref gi_5])), (gm_4, .inl (cI, 8, .inl (fun _ => 0))), (gi_5, .inl (cI, 8, .inl (fun _ => 0))), (q_6, .inl (cR, 80, .inr (.inr (.inr (.inr (fun _ => none)))))), (q_8, .inl (cI, 80, .inl (fun _ => 0))), (q_10, .inl (cI, 80, .inl (fun _ => 0)))] := hD
  have hBH := hB.at hS hA0
  refine lv_aload_n hx hb d_M_init_60 rfl (lv_at hl 0 rfl) ?_
  refine lv_bipush (v := 8) hx hb d_M_init_61 (by decide) ?_
  refine va_newa (atype := .int) hx hb (hts (Cond.arrayClass .int) mw_43) (ty := .int) rfl hK hP hD hS hA (n := 8) (N' := 8) (a0 := (8, .inl (fun _ => 0))) (fun _ => rfl) (by decide) (by decide) (by decide) (Nat.le_of_ble_eq_true rfl) (Nat.le_of_ble_eq_true rfl) d_M_init_63 (fun q_12 cA_13 H hK1 hP hD hS => ?_)
  rw [mr_sameI hK1] at hP hD
  clear hK1
  have hP : va_P (dC, dI) mr_cl [(q, .inr (0, [.ref q_1, .ref q_6, .int 0, .int 0, .int 0, .ref q_8, .int 0, .ref q_10, .null])), (q_1, .inr (1, [.ref gm_4, .ref gi_5])), (gm_4, .inl (cI, 8, .inl (fun _ => 0))), (gi_5, .inl (cI, 8, .inl (fun _ => 0))), (q_6, .inl (cR, 80, .inr (.inr (.inr (.inr (fun _ => none)))))), (q_8, .inl (cI, 80, .inl (fun _ => 0))), (q_10, .inl (cI, 80, .inl (fun _ => 0))), (q_12, .inl (cI, 8, .inl (fun _ => 0)))] H := hP
  have hD : va_D A [(q, .inr (0, [.ref q_1, .ref q_6, .int 0, .int 0, .int 0, .ref q_8, .int 0, .ref q_10, .null])), (q_1, .inr (1, [.ref gm_4, .ref gi_5])), (gm_4, .inl (cI, 8, .inl (fun _ => 0))), (gi_5, .inl (cI, 8, .inl (fun _ => 0))), (q_6, .inl (cR, 80, .inr (.inr (.inr (.inr (fun _ => none)))))), (q_8, .inl (cI, 80, .inl (fun _ => 0))), (q_10, .inl (cI, 80, .inl (fun _ => 0))), (q_12, .inl (cI, 8, .inl (fun _ => 0)))] := hD
  have hBH := hB.at hS hA0
  refine W.widen (k := 7) (n := 266) (by omega) (by omega) ?_
  refine va_putF (D := (dC, dI)) (ci := 0) (v := .ref q_12) (ty := (.array .int)) (C := R_M) (T := T_M) (N := 9) hx hb hts ti_M t_M to_M tn_M hown hK hP hD hS 0 rfl rfl 8 (by decide) (hts (Cond.fieldLink "MeasureRows" 42 "MeasureRows" "greatestWeight" "[I") mw_63) (fun _ h9 => h9) rfl hin rfl (by decide +kernel) rfl rfl (Nat.le_of_ble_eq_true rfl) d_M_init_65 (fun H locs hP hD hS => ?_)
  have hP : va_P (dC, dI) mr_cl [(q, .inr (0, [.ref q_1, .ref q_6, .int 0, .int 0, .int 0, .ref q_8, .int 0, .ref q_10, .ref q_12])), (q_1, .inr (1, [.ref gm_4, .ref gi_5])), (gm_4, .inl (cI, 8, .inl (fun _ => 0))), (gi_5, .inl (cI, 8, .inl (fun _ => 0))), (q_6, .inl (cR, 80, .inr (.inr (.inr (.inr (fun _ => none)))))), (q_8, .inl (cI, 80, .inl (fun _ => 0))), (q_10, .inl (cI, 80, .inl (fun _ => 0))), (q_12, .inl (cI, 8, .inl (fun _ => 0)))] H := hP
  have hD : va_D A [(q, .inr (0, [.ref q_1, .ref q_6, .int 0, .int 0, .int 0, .ref q_8, .int 0, .ref q_10, .ref q_12])), (q_1, .inr (1, [.ref gm_4, .ref gi_5])), (gm_4, .inl (cI, 8, .inl (fun _ => 0))), (gi_5, .inl (cI, 8, .inl (fun _ => 0))), (q_6, .inl (cR, 80, .inr (.inr (.inr (.inr (fun _ => none)))))), (q_8, .inl (cI, 80, .inl (fun _ => 0))), (q_10, .inl (cI, 80, .inl (fun _ => 0))), (q_12, .inl (cI, 8, .inl (fun _ => 0)))] := hD
  have hBH := hB.at hS hA0
  obtain ⟨rr, hrr⟩ : ∃ rr : Nat → Nat, rr = fun k => match k with | 0 => q | 1 => q_1 | 2 => gm_4 | 3 => gi_5 | 4 => q_6 | 5 => q_8 | 6 => q_10 | _ => q_12 := ⟨_, rfl⟩
  have hP9 : va_P (dC, dI) mr_cl [((rr 0), .inr (0, mf_M rr (nI 0) 0 0 0)), ((rr 1), .inr (1, [.ref (rr 2), .ref (rr 3)])), ((rr 2), .inl (cI, 8, .inl (fun _ => 0))), ((rr 3), .inl (cI, 8, .inl (fun _ => 0))), ((rr 4), .inl (cR, 80, .inr (.inr (.inr (.inr (fun _ => none)))))), ((rr 5), .inl (cI, 80, .inl (fun _ => 0))), ((rr 6), .inl (cI, 80, .inl (fun _ => 0))), ((rr 7), .inl (cI, 8, .inl (fun _ => 0)))] H := by rw [hrr]; exact hP.sub [0, 1, 2, 3, 4, 5, 6, 7] rfl
  have hD9 : va_D A [((rr 0), .inr (0, mf_M rr (nI 0) 0 0 0)), ((rr 1), .inr (1, [.ref (rr 2), .ref (rr 3)])), ((rr 2), .inl (cI, 8, .inl (fun _ => 0))), ((rr 3), .inl (cI, 8, .inl (fun _ => 0))), ((rr 4), .inl (cR, 80, .inr (.inr (.inr (.inr (fun _ => none)))))), ((rr 5), .inl (cI, 80, .inl (fun _ => 0))), ((rr 6), .inl (cI, 80, .inl (fun _ => 0))), ((rr 7), .inl (cI, 8, .inl (fun _ => 0)))] := by rw [hrr]; exact hD.sub [0, 1, 2, 3, 4, 5, 6, 7] (by decide) rfl
  exact W.vret hx hb hr (fun t ht hW => ⟨⟨rr, rfl, by show rr 0 = q; subst hrr; rfl, by rw [ht]; exact hP9, va_K.moved hW.alike hK, hD9⟩, hS.F ht⟩) hS.2.2 d_M_init_68
end
section
/-- inside, with j of the groups gone through -/
def mv_jo (fi : Nat → Int32) (gr br : Int32) (j : Nat) : Nat → Int32 := fun k => if k < j then (if nI k + 16 = gr then fi k ||| br else if mv_M_hasBit (fi k) gr = 0 then fi k else fi k ||| br) else fi k
theorem mv_jo_at (fi : Nat → Int32) (gr br : Int32) (j : Nat) (hj : j < 8) : mv_jo fi gr br j (nI j).toNatClampNeg = fi j := by
  rw [nI_clamp (by omega)]; unfold mv_jo; rw [if_neg (Nat.lt_irrefl j)]
theorem mv_jo_set {fi : Nat → Int32} {gr br : Int32} {j : Nat} (hj : j < 8) (h : nI j + 16 = gr ∨ ¬ mv_M_hasBit (fi j) gr = 0) : upd (mv_jo fi gr br j) (nI j).toNatClampNeg (fi j ||| br) = mv_jo fi gr br (j + 1) := by
  funext k
  rw [nI_clamp (by omega)]
  unfold upd mv_jo
  by_cases hk : k = j
  · subst hk
    rw [if_pos rfl, if_pos (Nat.lt_succ_self k)]
    by_cases h1 : nI k + 16 = gr
    · rw [if_pos h1]
    · rw [if_neg h1, if_neg (h.resolve_left h1)]
  · rw [if_neg hk]
    by_cases h2 : k < j
    · rw [if_pos h2, if_pos (show k < j + 1 by omega)]
    · rw [if_neg h2, if_neg (show ¬ k < j + 1 by omega)]
theorem mv_jo_skip {fi : Nat → Int32} {gr br : Int32} {j : Nat} (h1 : ¬ nI j + 16 = gr) (h : mv_M_hasBit (fi j) gr = 0) : mv_jo fi gr br j = mv_jo fi gr br (j + 1) := by
  funext k
  unfold mv_jo
  by_cases hk : k = j
  · subst hk
    rw [if_neg (Nat.lt_irrefl k), if_pos (Nat.lt_succ_self k), if_neg h1, if_pos h]
  · by_cases h2 : k < j
    · rw [if_pos h2, if_pos (show k < j + 1 by omega)]
    · rw [if_neg h2, if_neg (show ¬ k < j + 1 by omega)]
theorem mv_jo_0 (fi : Nat → Int32) (gr br : Int32) : mv_jo fi gr br 0 = fi := by
  funext k; unfold mv_jo; rw [if_neg (Nat.not_lt_zero k)]
def mv_jbr (fi : Nat → Int32) (b : Int32) : Int32 := (1 <<< (b &&& 31)) ||| (mv_G_insideOf fi b)
def mv_G_join (fm fi : Nat → Int32) (a0 a1 : Int32) : Int32 := if mv_M_isGroup a0 = 0 then 0 else if mv_M_hasBit (fm (a0 - 16).toNatClampNeg) a1 = 0 then (if mv_G_wouldRing fi a0 a1 = 0 then 1 else 0) else 0
theorem mv_G_join_b (fm fi : Nat → Int32) (a0 a1 : Int32) : mr_b01 (mv_G_join fm fi a0 a1) := mr_bi mr_b0 (mr_bi (mr_bi mr_b1 mr_b0) mr_b0)
def mv_G_joinM (fm fi : Nat → Int32) (a0 a1 : Int32) : Nat → Int32 := if mv_G_join fm fi a0 a1 = 0 then fm else upd fm (a0 - 16).toNatClampNeg (fm (a0 - 16).toNatClampNeg ||| (1 <<< (a1 &&& 31)))
def mv_G_joinI (fm fi : Nat → Int32) (a0 a1 : Int32) : Nat → Int32 := if mv_G_join fm fi a0 a1 = 0 then fi else mv_jo fi a0 (mv_jbr fi a1) 8
theorem mw_64 : Cond.methodLink "MeasureRows$Row" 3 objectInit ∈ lw_tbl := by decide +kernel
theorem mw_65 : Cond.fieldLink "MeasureRows$Row" 9 "MeasureRows$Row" "code" "I" ∈ lw_tbl := by decide +kernel
theorem mw_66 : Cond.fieldLink "MeasureRows$Row" 15 "MeasureRows$Row" "place" "I" ∈ lw_tbl := by decide +kernel
theorem mw_67 : Cond.fieldLink "MeasureRows$Row" 18 "MeasureRows$Row" "first" "I" ∈ lw_tbl := by decide +kernel
theorem mw_68 : Cond.fieldLink "MeasureRows$Row" 21 "MeasureRows$Row" "kind" "I" ∈ lw_tbl := by decide +kernel
theorem mw_69 : Cond.fieldLink "MeasureRows$Row" 24 "MeasureRows$Row" "rank" "I" ∈ lw_tbl := by decide +kernel
theorem mw_70 : Cond.fieldLink "MeasureRows$Row" 27 "MeasureRows$Row" "known" "I" ∈ lw_tbl := by decide +kernel
theorem mw_71 : Cond.fieldLink "MeasureRows$Row" 30 "MeasureRows$Row" "excluded" "I" ∈ lw_tbl := by decide +kernel
theorem mw_72 : Cond.fieldLink "MeasureRows$Row" 33 "MeasureRows$Row" "wanted" "I" ∈ lw_tbl := by decide +kernel
theorem mw_73 : Cond.fieldLink "MeasureRows$Row" 36 "MeasureRows$Row" "lastDays" "[I" ∈ lw_tbl := by decide +kernel
theorem mw_74 : Cond.fieldLink "MeasureRows$Row" 40 "MeasureRows$Row" "knownDays" "[I" ∈ lw_tbl := by decide +kernel
theorem mw_75 : Cond.fieldLink "MeasureRows$Row" 43 "MeasureRows$Row" "told" "I" ∈ lw_tbl := by decide +kernel
theorem mw_76 : Cond.code y_G_wouldRing b_G_wouldRing 3 (some .boolean) ∈ lw_tbl := by decide +kernel
theorem mw_77 : Cond.initialized y_G_wouldRing.cls ∈ lw_tbl := by decide +kernel
theorem mw_78 : Cond.methodLink "MeasureRows$Groups" 26 y_G_wouldRing ∈ lw_tbl := by decide +kernel
theorem mw_79 : Cond.instanceMethod y_G_wouldRing ∈ lw_tbl := by decide +kernel
theorem mw_80 : Cond.selects "MeasureRows$Groups" y_G_wouldRing y_G_wouldRing ∈ lw_tbl := by decide +kernel
set_option maxHeartbeats 4000000 in
set_option maxRecDepth 100000 in
theorem mc_R_init (l : Launch) (s0 : State) (dC : Nat → ClassId) (dI : Nat → Nat → Nat) (cI cR cL cZ : ClassId) (q : Nat) (sz : Nat) (a0 : Int32) (a1 : Int32) (a2 : Int32) (a3 : Int32) (a4 : Int32) (a5 : Int32) (a6 : Int32)  : Met l y_R_init [Cond.code y_R_init b_R_init 8 none] ({ frames := 1, cells := 2, slots := 16, locals := 20 }) (mr_PC s0 (dC, dI) [(cI, .int), (cR, .object "MeasureRows$Row"), (cL, .long), (cZ, .boolean)] [.ref q, .int a0, .int a1, .int a2, .int a3, .int a4, .int a5, .int a6] [(q, .inr (2, [.int 0, .int 0, .int 0, .int 0, .int 0, .int 0, .int 0, .int 0, .int 0, .null, .null]))] sz) (va_Qv (fun _ => True) (fun (u : Nat × Nat) t => mr_W (dC, dI) [(cI, .int), (cR, .object "MeasureRows$Row"), (cL, .long), (cZ, .boolean)] (va_A [(q, .inr (2, [.int 0, .int 0, .int 0, .int 0, .int 0, .int 0, .int 0, .int 0, .int 0, .null, .null]))] sz) [(q, .inr (2, [.int a0, .int a1, .int a2, .int a4, .int a5, .int a6, .int 0, .int 0, .int 1, .ref u.1, .ref u.2])), (u.1, .inl (cI, 8, .inl (upd (fun _ => 0) (0 : Int32).toNatClampNeg a3))), (u.2, .inl (cI, 8, .inl (upd (fun _ => 0) (0 : Int32).toNatClampNeg a6)))] t) (va_A [(q, .inr (2, [.int 0, .int 0, .int 0, .int 0, .int 0, .int 0, .int 0, .int 0, .int 0, .null, .null]))] sz)) 2 16 (va_A [(q, .inr (2, [.int 0, .int 0, .int 0, .int 0, .int 0, .int 0, .int 0, .int 0, .int 0, .null, .null]))] sz) := by
  refine Met.ofW (cc := b_R_init) (maxL := 8) (ret := none) (by decide) rfl ?_
  intro p e s m args below meth c s₁ B hml hv
  obtain ⟨rfl, hsz, hB, hK, hP, hD0⟩ := hv
  subst hsz
  have hA0 := mr_A hB hD0
  have hD := hD0.self (sz := s.heap.size)
  generalize hAe : va_A [(q, .inr (2, [.int 0, .int 0, .int 0, .int 0, .int 0, .int 0, .int 0, .int 0, .int 0, .null, .null]))] s.heap.size = A at hD hA0 ⊢
  have hA : ∀ q : Nat, s.heap.size ≤ q → A q := fun q h => by rw [← hAe]; exact Or.inr h
  have hS : va_S A s.heap s.heap [] := va_S.rf
  have hP : va_P (dC, dI) mr_cl [(q, .inr (2, [.int 0, .int 0, .int 0, .int 0, .int 0, .int 0, .int 0, .int 0, .int 0, .null, .null]))] s.heap := hP
  have hBH := hB.at hS hA0
  have hin : meth.name = "<init>" := (name_of_methodNamed B.named B.method).1
  have hx := B.exec
  have hb := B.bytes
  have hr := B.returns
  have hlocks := B.notSynchronized
  have hts : ∀ w ∈ lw_tbl, w.before [.ref q, .int a0, .int a1, .int a2, .int a3, .int a4, .int a5, .int a6].toArray s = true := hB.hts _
  have hown : s.vm.findClass "MeasureRows$Row" = some m.cls := findClass_of_methodNamed B.named
  have hl := lv_entry ([.ref q, .int a0, .int a1, .int a2, .int a3, .int a4, .int a5, .int a6]) (n := 8) (Nat.le_of_ble_eq_true rfl)
  rw [lg_entry_eq]
  generalize (lg_sl ([.ref q, .int a0, .int a1, .int a2, .int a3, .int a4, .int a5, .int a6]) ++ List.replicate (8 - (lg_sl ([.ref q, .int a0, .int a1, .int a2, .int a3, .int a4, .int a5, .int a6])).length) Slot.unset).toArray = ls at hl ⊢
  have hl : lv_has ls 8 [(0, .ref q), (1, .int a0), (2, .int a1), (3, .int a2), (4, .int a3), (5, .int a4), (6, .int a5), (7, .int a6)] := hl
  refine lv_aload_n hx hb d_R_init_0 rfl (lv_at hl 0 rfl) ?_
  refine W.objInit hx hb hown (hts (Cond.methodLink "MeasureRows$Row" 3 objectInit) mw_64) (hts (Cond.instanceMethod objectInit) mw_41) (hts (Cond.code objectInit ⟨#[0xb1]⟩ 1 none) mw_42) rfl (by rw [hml]; exact hl.1) rfl d_R_init_1 (Nat.le_of_ble_eq_true rfl) (Nat.le_of_ble_eq_true rfl) ?_
  refine W.eq (g2 := F0 m 4 ls []) rfl ?_
  refine lv_aload_n hx hb d_R_init_4 rfl (lv_at hl 0 rfl) ?_
  refine lv_iload_n hx hb d_R_init_5 rfl (lv_at hl 1 rfl) ?_
  refine va_putF (D := (dC, dI)) (ci := 2) (v := .int a0) (ty := .int) (C := R_R) (T := T_R) (N := 11) hx hb hts ti_R t_R to_R tn_R hown hK hP hD hS 0 rfl rfl 0 (by decide) (hts (Cond.fieldLink "MeasureRows$Row" 9 "MeasureRows$Row" "code" "I") mw_65) (fun _ h9 => h9) rfl hin rfl (by decide +kernel) rfl rfl (Nat.le_of_ble_eq_true rfl) d_R_init_6 (fun H locs hP hD hS => ?_)
  have hP : va_P (dC, dI) mr_cl [(q, .inr (2, [.int a0, .int 0, .int 0, .int 0, .int 0, .int 0, .int 0, .int 0, .int 0, .null, .null]))] H := hP
  have hD : va_D A [(q, .inr (2, [.int a0, .int 0, .int 0, .int 0, .int 0, .int 0, .int 0, .int 0, .int 0, .null, .null]))] := hD
  have hBH := hB.at hS hA0
  refine lv_aload_n hx hb d_R_init_9 rfl (lv_at hl 0 rfl) ?_
  refine lv_iload_n hx hb d_R_init_10 rfl (lv_at hl 2 rfl) ?_
  refine va_putF (D := (dC, dI)) (ci := 2) (v := .int a1) (ty := .int) (C := R_R) (T := T_R) (N := 11) hx hb hts ti_R t_R to_R tn_R hown hK hP hD hS 0 rfl rfl 1 (by decide) (hts (Cond.fieldLink "MeasureRows$Row" 15 "MeasureRows$Row" "place" "I") mw_66) (fun _ h9 => h9) rfl hin rfl (by decide +kernel) rfl rfl (Nat.le_of_ble_eq_true rfl) d_R_init_11 (fun H locs hP hD hS => ?_)
  have hP : va_P (dC, dI) mr_cl [(q, .inr (2, [.int a0, .int a1, .int 0, .int 0, .int 0, .int 0, .int 0, .int 0, .int 0, .null, .null]))] H := hP
  have hD : va_D A [(q, .inr (2, [.int a0, .int a1, .int 0, .int 0, .int 0, .int 0, .int 0, .int 0, .int 0, .null, .null]))] := hD
  have hBH := hB.at hS hA0
  refine lv_aload_n hx hb d_R_init_14 rfl (lv_at hl 0 rfl) ?_
  refine lv_iload_n hx hb d_R_init_15 rfl (lv_at hl 3 rfl) ?_
  refine va_putF (D := (dC, dI)) (ci := 2) (v := .int a2) (ty := .int) (C := R_R) (T := T_R) (N := 11) hx hb hts ti_R t_R to_R tn_R hown hK hP hD hS 0 rfl rfl 2 (by decide) (hts (Cond.fieldLink "MeasureRows$Row" 18 "MeasureRows$Row" "first" "I") mw_67) (fun _ h9 => h9) rfl hin rfl (by decide +kernel) rfl rfl (Nat.le_of_ble_eq_true rfl) d_R_init_16 (fun H locs hP hD hS => ?_)
  have hP : va_P (dC, dI) mr_cl [(q, .inr (2, [.int a0, .int a1, .int a2, .int 0, .int 0, .int 0, .int 0, .int 0, .int 0, .null, .null]))] H := hP
  have hD : va_D A [(q, .inr (2, [.int a0, .int a1, .int a2, .int 0, .int 0, .int 0, .int 0, .int 0, .int 0, .null, .null]))] := hD
  have hBH := hB.at hS hA0
  refine lv_aload_n hx hb d_R_init_19 rfl (lv_at hl 0 rfl) ?_
  refine lv_iload hx hb d_R_init_20 (lv_at hl 5 rfl) ?_
  refine va_putF (D := (dC, dI)) (ci := 2) (v := .int a4) (ty := .int) (C := R_R) (T := T_R) (N := 11) hx hb hts ti_R t_R to_R tn_R hown hK hP hD hS 0 rfl rfl 3 (by decide) (hts (Cond.fieldLink "MeasureRows$Row" 21 "MeasureRows$Row" "kind" "I") mw_68) (fun _ h9 => h9) rfl hin rfl (by decide +kernel) rfl rfl (Nat.le_of_ble_eq_true rfl) d_R_init_22 (fun H locs hP hD hS => ?_)
  have hP : va_P (dC, dI) mr_cl [(q, .inr (2, [.int a0, .int a1, .int a2, .int a4, .int 0, .int 0, .int 0, .int 0, .int 0, .null, .null]))] H := hP
  have hD : va_D A [(q, .inr (2, [.int a0, .int a1, .int a2, .int a4, .int 0, .int 0, .int 0, .int 0, .int 0, .null, .null]))] := hD
  have hBH := hB.at hS hA0
  refine lv_aload_n hx hb d_R_init_25 rfl (lv_at hl 0 rfl) ?_
  refine lv_iload hx hb d_R_init_26 (lv_at hl 6 rfl) ?_
  refine va_putF (D := (dC, dI)) (ci := 2) (v := .int a5) (ty := .int) (C := R_R) (T := T_R) (N := 11) hx hb hts ti_R t_R to_R tn_R hown hK hP hD hS 0 rfl rfl 4 (by decide) (hts (Cond.fieldLink "MeasureRows$Row" 24 "MeasureRows$Row" "rank" "I") mw_69) (fun _ h9 => h9) rfl hin rfl (by decide +kernel) rfl rfl (Nat.le_of_ble_eq_true rfl) d_R_init_28 (fun H locs hP hD hS => ?_)
  have hP : va_P (dC, dI) mr_cl [(q, .inr (2, [.int a0, .int a1, .int a2, .int a4, .int a5, .int 0, .int 0, .int 0, .int 0, .null, .null]))] H := hP
  have hD : va_D A [(q, .inr (2, [.int a0, .int a1, .int a2, .int a4, .int a5, .int 0, .int 0, .int 0, .int 0, .null, .null]))] := hD
  have hBH := hB.at hS hA0
  refine lv_aload_n hx hb d_R_init_31 rfl (lv_at hl 0 rfl) ?_
  refine lv_iload hx hb d_R_init_32 (lv_at hl 7 rfl) ?_
  refine va_putF (D := (dC, dI)) (ci := 2) (v := .int a6) (ty := .int) (C := R_R) (T := T_R) (N := 11) hx hb hts ti_R t_R to_R tn_R hown hK hP hD hS 0 rfl rfl 5 (by decide) (hts (Cond.fieldLink "MeasureRows$Row" 27 "MeasureRows$Row" "known" "I") mw_70) (fun _ h9 => h9) rfl hin rfl (by decide +kernel) rfl rfl (Nat.le_of_ble_eq_true rfl) d_R_init_34 (fun H locs hP hD hS => ?_)
  have hP : va_P (dC, dI) mr_cl [(q, .inr (2, [.int a0, .int a1, .int a2, .int a4, .int a5, .int a6, .int 0, .int 0, .int 0, .null, .null]))] H := hP
  have hD : va_D A [(q, .inr (2, [.int a0, .int a1, .int a2, .int a4, .int a5, .int a6, .int 0, .int 0, .int 0, .null, .null]))] := hD
  have hBH := hB.at hS hA0
  refine lv_aload_n hx hb d_R_init_37 rfl (lv_at hl 0 rfl) ?_
  refine lv_iconst (v := 0) hx hb d_R_init_38 (by decide) ?_
  refine va_put (D := (dC, dI)) (ci := 2) (v := .int 0) (ty := .int) (C := R_R) (T := T_R) (N := 11) hx hb hts ti_R t_R to_R tn_R hown hK hP hD hS 0 rfl rfl 6 (by decide) (hts (Cond.fieldLink "MeasureRows$Row" 30 "MeasureRows$Row" "excluded" "I") mw_71) (fun _ h9 => h9) rfl (by decide +kernel) rfl rfl (Nat.le_of_ble_eq_true rfl) d_R_init_39 (fun H locs hP hD hS => ?_)
  have hP : va_P (dC, dI) mr_cl [(q, .inr (2, [.int a0, .int a1, .int a2, .int a4, .int a5, .int a6, .int 0, .int 0, .int 0, .null, .null]))] H := hP
  have hD : va_D A [(q, .inr (2, [.int a0, .int a1, .int a2, .int a4, .int a5, .int a6, .int 0, .int 0, .int 0, .null, .null]))] := hD
  have hBH := hB.at hS hA0
  refine lv_aload_n hx hb d_R_init_42 rfl (lv_at hl 0 rfl) ?_
  refine lv_iconst (v := 0) hx hb d_R_init_43 (by decide) ?_
  refine va_put (D := (dC, dI)) (ci := 2) (v := .int 0) (ty := .int) (C := R_R) (T := T_R) (N := 11) hx hb hts ti_R t_R to_R tn_R hown hK hP hD hS 0 rfl rfl 7 (by decide) (hts (Cond.fieldLink "MeasureRows$Row" 33 "MeasureRows$Row" "wanted" "I") mw_72) (fun _ h9 => h9) rfl (by decide +kernel) rfl rfl (Nat.le_of_ble_eq_true rfl) d_R_init_44 (fun H locs hP hD hS => ?_)
  have hP : va_P (dC, dI) mr_cl [(q, .inr (2, [.int a0, .int a1, .int a2, .int a4, .int a5, .int a6, .int 0, .int 0, .int 0, .null, .null]))] H := hP
  have hD : va_D A [(q, .inr (2, [.int a0, .int a1, .int a2, .int a4, .int a5, .int a6, .int 0, .int 0, .int 0, .null, .null]))] := hD
  have hBH := hB.at hS hA0
  refine lv_aload_n hx hb d_R_init_47 rfl (lv_at hl 0 rfl) ?_
  refine lv_bipush (v := 8) hx hb d_R_init_48 (by decide) ?_
  refine va_newa (atype := .int) hx hb (hts (Cond.arrayClass .int) mw_43) (ty := .int) rfl hK hP hD hS hA (n := 8) (N' := 8) (a0 := (8, .inl (fun _ => 0))) (fun _ => rfl) (by decide) (by decide) (by decide) (Nat.le_of_ble_eq_true rfl) (Nat.le_of_ble_eq_true rfl) d_R_init_50 (fun q_1 cA_2 H hK1 hP hD hS => ?_)
  rw [mr_sameI hK1] at hP hD
  clear hK1
  have hP : va_P (dC, dI) mr_cl [(q, .inr (2, [.int a0, .int a1, .int a2, .int a4, .int a5, .int a6, .int 0, .int 0, .int 0, .null, .null])), (q_1, .inl (cI, 8, .inl (fun _ => 0)))] H := hP
  have hD : va_D A [(q, .inr (2, [.int a0, .int a1, .int a2, .int a4, .int a5, .int a6, .int 0, .int 0, .int 0, .null, .null])), (q_1, .inl (cI, 8, .inl (fun _ => 0)))] := hD
  have hBH := hB.at hS hA0
  refine W.widen (k := 1) (n := 8) (by omega) (by omega) ?_
  refine va_putF (D := (dC, dI)) (ci := 2) (v := .ref q_1) (ty := (.array .int)) (C := R_R) (T := T_R) (N := 11) hx hb hts ti_R t_R to_R tn_R hown hK hP hD hS 0 rfl rfl 9 (by decide) (hts (Cond.fieldLink "MeasureRows$Row" 36 "MeasureRows$Row" "lastDays" "[I") mw_73) (fun _ h9 => h9) rfl hin rfl (by decide +kernel) rfl rfl (Nat.le_of_ble_eq_true rfl) d_R_init_52 (fun H locs hP hD hS => ?_)
  have hP : va_P (dC, dI) mr_cl [(q, .inr (2, [.int a0, .int a1, .int a2, .int a4, .int a5, .int a6, .int 0, .int 0, .int 0, .ref q_1, .null])), (q_1, .inl (cI, 8, .inl (fun _ => 0)))] H := hP
  have hD : va_D A [(q, .inr (2, [.int a0, .int a1, .int a2, .int a4, .int a5, .int a6, .int 0, .int 0, .int 0, .ref q_1, .null])), (q_1, .inl (cI, 8, .inl (fun _ => 0)))] := hD
  have hBH := hB.at hS hA0
  refine lv_aload_n hx hb d_R_init_55 rfl (lv_at hl 0 rfl) ?_
  refine lv_bipush (v := 8) hx hb d_R_init_56 (by decide) ?_
  refine va_newa (atype := .int) hx hb (hts (Cond.arrayClass .int) mw_43) (ty := .int) rfl hK hP hD hS hA (n := 8) (N' := 8) (a0 := (8, .inl (fun _ => 0))) (fun _ => rfl) (by decide) (by decide) (by decide) (Nat.le_of_ble_eq_true rfl) (Nat.le_of_ble_eq_true rfl) d_R_init_58 (fun q_3 cA_4 H hK1 hP hD hS => ?_)
  rw [mr_sameI hK1] at hP hD
  clear hK1
  have hP : va_P (dC, dI) mr_cl [(q, .inr (2, [.int a0, .int a1, .int a2, .int a4, .int a5, .int a6, .int 0, .int 0, .int 0, .ref q_1, .null])), (q_1, .inl (cI, 8, .inl (fun _ => 0))), (q_3, .inl (cI, 8, .inl (fun _ => 0)))] H := hP
  have hD : va_D A [(q, .inr (2, [.int a0, .int a1, .int a2, .int a4, .int a5, .int a6, .int 0, .int 0, .int 0, .ref q_1, .null])), (q_1, .inl (cI, 8, .inl (fun _ => 0))), (q_3, .inl (cI, 8, .inl (fun _ => 0)))] := hD
  have hBH := hB.at hS hA0
  refine W.widen (k := 2) (n := 16) (by omega) (by omega) ?_
  refine va_putF (D := (dC, dI)) (ci := 2) (v := .ref q_3) (ty := (.array .int)) (C := R_R) (T := T_R) (N := 11) hx hb hts ti_R t_R to_R tn_R hown hK hP hD hS 0 rfl rfl 10 (by decide) (hts (Cond.fieldLink "MeasureRows$Row" 40 "MeasureRows$Row" "knownDays" "[I") mw_74) (fun _ h9 => h9) rfl hin rfl (by decide +kernel) rfl rfl (Nat.le_of_ble_eq_true rfl) d_R_init_60 (fun H locs hP hD hS => ?_)
  have hP : va_P (dC, dI) mr_cl [(q, .inr (2, [.int a0, .int a1, .int a2, .int a4, .int a5, .int a6, .int 0, .int 0, .int 0, .ref q_1, .ref q_3])), (q_1, .inl (cI, 8, .inl (fun _ => 0))), (q_3, .inl (cI, 8, .inl (fun _ => 0)))] H := hP
  have hD : va_D A [(q, .inr (2, [.int a0, .int a1, .int a2, .int a4, .int a5, .int a6, .int 0, .int 0, .int 0, .ref q_1, .ref q_3])), (q_1, .inl (cI, 8, .inl (fun _ => 0))), (q_3, .inl (cI, 8, .inl (fun _ => 0)))] := hD
  have hBH := hB.at hS hA0
  refine lv_aload_n hx hb d_R_init_63 rfl (lv_at hl 0 rfl) ?_
  refine va_get (D := (dC, dI)) (ci := 2) (v := .ref q_1) (C := R_R) (T := T_R) (N := 11) hx hb hts ti_R hown hK hP 0 rfl rfl 9 (by decide) (hts (Cond.fieldLink "MeasureRows$Row" 36 "MeasureRows$Row" "lastDays" "[I") mw_73) (fun _ h9 => h9) rfl d_R_init_64 ?_
  refine lv_iconst (v := 0) hx hb d_R_init_67 (by decide) ?_
  refine lv_iload hx hb d_R_init_68 (lv_at hl 4 rfl) ?_
  refine va_iast (D := (dC, dI)) hx hb hK hP hD hS 1 0 rfl rfl (i := 0) (by unfold vp_in; decide) d_R_init_70 (fun H locs hP hD hS => ?_)
  have hP : va_P (dC, dI) mr_cl [(q, .inr (2, [.int a0, .int a1, .int a2, .int a4, .int a5, .int a6, .int 0, .int 0, .int 0, .ref q_1, .ref q_3])), (q_1, .inl (cI, 8, .inl (upd (fun _ => 0) (0 : Int32).toNatClampNeg a3))), (q_3, .inl (cI, 8, .inl (fun _ => 0)))] H := hP
  have hD : va_D A [(q, .inr (2, [.int a0, .int a1, .int a2, .int a4, .int a5, .int a6, .int 0, .int 0, .int 0, .ref q_1, .ref q_3])), (q_1, .inl (cI, 8, .inl (upd (fun _ => 0) (0 : Int32).toNatClampNeg a3))), (q_3, .inl (cI, 8, .inl (fun _ => 0)))] := hD
  have hBH := hB.at hS hA0
  refine lv_aload_n hx hb d_R_init_71 rfl (lv_at hl 0 rfl) ?_
  refine va_get (D := (dC, dI)) (ci := 2) (v := .ref q_3) (C := R_R) (T := T_R) (N := 11) hx hb hts ti_R hown hK hP 0 rfl rfl 10 (by decide) (hts (Cond.fieldLink "MeasureRows$Row" 40 "MeasureRows$Row" "knownDays" "[I") mw_74) (fun _ h9 => h9) rfl d_R_init_72 ?_
  refine lv_iconst (v := 0) hx hb d_R_init_75 (by decide) ?_
  refine lv_iload hx hb d_R_init_76 (lv_at hl 7 rfl) ?_
  refine va_iast (D := (dC, dI)) hx hb hK hP hD hS 2 0 rfl rfl (i := 0) (by unfold vp_in; decide) d_R_init_78 (fun H locs hP hD hS => ?_)
  have hP : va_P (dC, dI) mr_cl [(q, .inr (2, [.int a0, .int a1, .int a2, .int a4, .int a5, .int a6, .int 0, .int 0, .int 0, .ref q_1, .ref q_3])), (q_1, .inl (cI, 8, .inl (upd (fun _ => 0) (0 : Int32).toNatClampNeg a3))), (q_3, .inl (cI, 8, .inl (upd (fun _ => 0) (0 : Int32).toNatClampNeg a6)))] H := hP
  have hD : va_D A [(q, .inr (2, [.int a0, .int a1, .int a2, .int a4, .int a5, .int a6, .int 0, .int 0, .int 0, .ref q_1, .ref q_3])), (q_1, .inl (cI, 8, .inl (upd (fun _ => 0) (0 : Int32).toNatClampNeg a3))), (q_3, .inl (cI, 8, .inl (upd (fun _ => 0) (0 : Int32).toNatClampNeg a6)))] := hD
  have hBH := hB.at hS hA0
  refine lv_aload_n hx hb d_R_init_79 rfl (lv_at hl 0 rfl) ?_
  refine lv_iconst (v := 1) hx hb d_R_init_80 (by decide) ?_
  refine va_put (D := (dC, dI)) (ci := 2) (v := .int 1) (ty := .int) (C := R_R) (T := T_R) (N := 11) hx hb hts ti_R t_R to_R tn_R hown hK hP hD hS 0 rfl rfl 8 (by decide) (hts (Cond.fieldLink "MeasureRows$Row" 43 "MeasureRows$Row" "told" "I") mw_75) (fun _ h9 => h9) rfl (by decide +kernel) rfl rfl (Nat.le_of_ble_eq_true rfl) d_R_init_81 (fun H locs hP hD hS => ?_)
  have hP : va_P (dC, dI) mr_cl [(q, .inr (2, [.int a0, .int a1, .int a2, .int a4, .int a5, .int a6, .int 0, .int 0, .int 1, .ref q_1, .ref q_3])), (q_1, .inl (cI, 8, .inl (upd (fun _ => 0) (0 : Int32).toNatClampNeg a3))), (q_3, .inl (cI, 8, .inl (upd (fun _ => 0) (0 : Int32).toNatClampNeg a6)))] H := hP
  have hD : va_D A [(q, .inr (2, [.int a0, .int a1, .int a2, .int a4, .int a5, .int a6, .int 0, .int 0, .int 1, .ref q_1, .ref q_3])), (q_1, .inl (cI, 8, .inl (upd (fun _ => 0) (0 : Int32).toNatClampNeg a3))), (q_3, .inl (cI, 8, .inl (upd (fun _ => 0) (0 : Int32).toNatClampNeg a6)))] := hD
  have hBH := hB.at hS hA0
  have hP9 := hP.sub (ws' := [(q, .inr (2, [.int a0, .int a1, .int a2, .int a4, .int a5, .int a6, .int 0, .int 0, .int 1, .ref q_1, .ref q_3])), (q_1, .inl (cI, 8, .inl (upd (fun _ => 0) (0 : Int32).toNatClampNeg a3))), (q_3, .inl (cI, 8, .inl (upd (fun _ => 0) (0 : Int32).toNatClampNeg a6)))]) [0, 1, 2] rfl
  have hD9 := hD.sub (ws' := [(q, .inr (2, [.int a0, .int a1, .int a2, .int a4, .int a5, .int a6, .int 0, .int 0, .int 1, .ref q_1, .ref q_3])), (q_1, .inl (cI, 8, .inl (upd (fun _ => 0) (0 : Int32).toNatClampNeg a3))), (q_3, .inl (cI, 8, .inl (upd (fun _ => 0) (0 : Int32).toNatClampNeg a6)))]) [0, 1, 2] (by decide) rfl
  exact W.vret hx hb hr (fun t ht hW => ⟨⟨(q_1, q_3), rfl, trivial, by rw [ht]; exact hP9, va_K.moved hW.alike hK, hD9⟩, hS.F ht⟩) hS.2.2 d_R_init_84
set_option maxHeartbeats 4000000 in
set_option maxRecDepth 100000 in
theorem mc_G_join (l : Launch) (s0 : State) (dC : Nat → ClassId) (dI : Nat → Nat → Nat) (cI cR cL cZ : ClassId) (q gm gi : Nat) (fm fi : Nat → Int32) (sz : Nat) (a0 : Int32) (a1 : Int32)  : Met l y_G_join [Cond.code y_G_join b_G_join 5 (some .boolean)] ({ frames := 3, cells := 0, slots := 0, locals := 63 }) (mr_PC s0 (dC, dI) [(cI, .int), (cR, .object "MeasureRows$Row"), (cL, .long), (cZ, .boolean)] [.ref q, .int a0, .int a1] [(q, .inr (1, [.ref gm, .ref gi])), (gm, .inl (cI, 8, .inl fm)), (gi, .inl (cI, 8, .inl fi))] sz) (va_Qi (fun rr u => rr = mv_G_join fm fi a0 a1 ∧ u.1 = mv_G_joinM fm fi a0 a1 ∧ u.2 = mv_G_joinI fm fi a0 a1) (fun (u : (Nat → Int32) × (Nat → Int32)) t => mr_W (dC, dI) [(cI, .int), (cR, .object "MeasureRows$Row"), (cL, .long), (cZ, .boolean)] (va_A [(q, .inr (1, [.ref gm, .ref gi])), (gm, .inl (cI, 8, .inl fm)), (gi, .inl (cI, 8, .inl fi))] sz) [(q, .inr (1, [.ref gm, .ref gi])), (gm, .inl (cI, 8, .inl u.1)), (gi, .inl (cI, 8, .inl u.2))] t) (va_A [(q, .inr (1, [.ref gm, .ref gi])), (gm, .inl (cI, 8, .inl fm)), (gi, .inl (cI, 8, .inl fi))] sz)) 0 0 (va_A [(q, .inr (1, [.ref gm, .ref gi])), (gm, .inl (cI, 8, .inl fm)), (gi, .inl (cI, 8, .inl fi))] sz) := by
  refine Met.ofW (cc := b_G_join) (maxL := 5) (ret := (some .boolean)) (by decide) rfl ?_
  intro p e s m args below meth c s₁ B hml hv
  obtain ⟨rfl, hsz, hB, hK, hP, hD0⟩ := hv
  subst hsz
  have hA0 := mr_A hB hD0
  have hD := hD0.self (sz := s.heap.size)
  generalize hAe : va_A [(q, .inr (1, [.ref gm, .ref gi])), (gm, .inl (cI, 8, .inl fm)), (gi, .inl (cI, 8, .inl fi))] s.heap.size = A at hD hA0 ⊢
  have hA : ∀ q : Nat, s.heap.size ≤ q → A q := fun q h => by rw [← hAe]; exact Or.inr h
  have hS : va_S A s.heap s.heap [] := va_S.rf
  have hP : va_P (dC, dI) mr_cl [(q, .inr (1, [.ref gm, .ref gi])), (gm, .inl (cI, 8, .inl fm)), (gi, .inl (cI, 8, .inl fi))] s.heap := hP
  have hBH := hB.at hS hA0
  have hx := B.exec
  have hb := B.bytes
  have hr := B.returns
  have hlocks := B.notSynchronized
  have hts : ∀ w ∈ lw_tbl, w.before [.ref q, .int a0, .int a1].toArray s = true := hB.hts _
  have hown : s.vm.findClass "MeasureRows$Groups" = some m.cls := findClass_of_methodNamed B.named
  have hl := lv_entry ([.ref q, .int a0, .int a1]) (n := 5) (Nat.le_of_ble_eq_true rfl)
  rw [lg_entry_eq]
  generalize (lg_sl ([.ref q, .int a0, .int a1]) ++ List.replicate (5 - (lg_sl ([.ref q, .int a0, .int a1])).length) Slot.unset).toArray = ls at hl ⊢
  have hl : lv_has ls 5 [(0, .ref q), (1, .int a0), (2, .int a1)] := hl
  refine lv_iload_n hx hb d_G_join_0 rfl (lv_at hl 1 rfl) ?_
  refine vp_callSi (va_Run.run (va_runSN (As := [.int a0]) (rest := []) ⟨hx, hb, hml, hown, hts⟩ (mc_M_isGroup l s0 a0) ⟨(mr_cN 1 (hts (Cond.code y_M_isGroup b_M_isGroup 1 (some .boolean)) mw_5) (hts (Cond.initialized y_M_isGroup.cls) mw_6) (hts (Cond.methodLinkNest "MeasureRows$Groups" 18 y_M_isGroup "MeasureRows") mw_24) rfl rfl (by decide +kernel) ⟨Nat.le_of_ble_eq_true rfl, Nat.le_of_ble_eq_true rfl⟩), (hts (Cond.static y_M_isGroup) mw_8), trivial⟩ (mr_pre0 hBH) rfl rfl hl.1 rfl (lv_room (Nat.le_of_ble_eq_true rfl)) d_G_join_1 ⟨Nat.le_of_ble_eq_true rfl, Nat.le_of_ble_eq_true rfl⟩)) (fun r_1 h_2 => ?_)
  subst h_2
  refine lv_if_eq (tgt := 32) hx hb d_G_join_4 (by decide) (fun c_3 => ?_) (fun c_3 => ?_)
  · refine lv_iconst (v := 0) hx hb d_G_join_32 (by decide) ?_
    have e0 : mv_G_join fm fi a0 a1 = 0 := by unfold mv_G_join; rw [if_pos c_3]
    have hP9 := hP.sub (ws' := [(q, .inr (1, [.ref gm, .ref gi])), (gm, .inl (cI, 8, .inl fm)), (gi, .inl (cI, 8, .inl fi))]) [0, 1, 2] rfl
    have hD9 := hD.sub (ws' := [(q, .inr (1, [.ref gm, .ref gi])), (gm, .inl (cI, 8, .inl fm)), (gi, .inl (cI, 8, .inl fi))]) [0, 1, 2] (by decide) rfl
    exact W.zret (v := 0) hx hb hr (mr_narz mr_b0) (fun t ht hW => ⟨⟨_, (fm, fi), rfl, ⟨e0.symm, by unfold mv_G_joinM; rw [if_pos e0], by unfold mv_G_joinI; rw [if_pos e0]⟩, by rw [ht]; exact hP9, va_K.moved hW.alike hK, hD9⟩, hS.F ht⟩) hS.2.2 d_G_join_33
  · refine lv_aload_n hx hb d_G_join_7 rfl (lv_at hl 0 rfl) ?_
    refine va_get (D := (dC, dI)) (ci := 1) (v := .ref gm) (C := R_G) (T := T_G) (N := 2) hx hb hts ti_G hown hK hP 0 rfl rfl 0 (by decide) (hts (Cond.fieldLink "MeasureRows$Groups" 9 "MeasureRows$Groups" "members" "[I") mw_44) (fun _ h9 => h9) rfl d_G_join_8 ?_
    refine lv_iload_n hx hb d_G_join_11 rfl (lv_at hl 1 rfl) ?_
    refine lv_bipush (v := 16) hx hb d_G_join_12 (by decide) ?_
    refine lv_isub hx hb d_G_join_14 ?_
    refine va_iald (D := (dC, dI)) hx hb hK hP 1 0 rfl rfl (i := a0 - 16) (mr_gi c_3) d_G_join_15 ?_
    refine lv_iload_n hx hb d_G_join_16 rfl (lv_at hl 2 rfl) ?_
    refine vp_callSi (va_Run.run (va_runSN (As := [.int (fm (a0 - 16).toNatClampNeg), .int a1]) (rest := []) ⟨hx, hb, hml, hown, hts⟩ (mc_M_hasBit l s0 (fm (a0 - 16).toNatClampNeg) a1) ⟨(mr_cN 2 (hts (Cond.code y_M_hasBit b_M_hasBit 2 (some .boolean)) mw_31) (hts (Cond.initialized y_M_hasBit.cls) mw_32) (hts (Cond.methodLinkNest "MeasureRows$Groups" 22 y_M_hasBit "MeasureRows") mw_33) rfl rfl (by decide +kernel) ⟨Nat.le_of_ble_eq_true rfl, Nat.le_of_ble_eq_true rfl⟩), (hts (Cond.static y_M_hasBit) mw_34), trivial⟩ (mr_pre0 hBH) rfl rfl hl.1 rfl (lv_room (Nat.le_of_ble_eq_true rfl)) d_G_join_17 ⟨Nat.le_of_ble_eq_true rfl, Nat.le_of_ble_eq_true rfl⟩)) (fun r_4 h_5 => ?_)
    subst h_5
    refine lv_if_ne (tgt := 32) hx hb d_G_join_20 (by decide) (fun c_6 => ?_) (fun c_6 => ?_)
    · refine lv_iconst (v := 0) hx hb d_G_join_32 (by decide) ?_
      have e0 : mv_G_join fm fi a0 a1 = 0 := by unfold mv_G_join; rw [if_neg c_3, if_neg c_6]
      have hP9 := hP.sub (ws' := [(q, .inr (1, [.ref gm, .ref gi])), (gm, .inl (cI, 8, .inl fm)), (gi, .inl (cI, 8, .inl fi))]) [0, 1, 2] rfl
      have hD9 := hD.sub (ws' := [(q, .inr (1, [.ref gm, .ref gi])), (gm, .inl (cI, 8, .inl fm)), (gi, .inl (cI, 8, .inl fi))]) [0, 1, 2] (by decide) rfl
      exact W.zret (v := 0) hx hb hr (mr_narz mr_b0) (fun t ht hW => ⟨⟨_, (fm, fi), rfl, ⟨e0.symm, by unfold mv_G_joinM; rw [if_pos e0], by unfold mv_G_joinI; rw [if_pos e0]⟩, by rw [ht]; exact hP9, va_K.moved hW.alike hK, hD9⟩, hS.F ht⟩) hS.2.2 d_G_join_33
    · refine lv_aload_n hx hb d_G_join_23 rfl (lv_at hl 0 rfl) ?_
      refine lv_iload_n hx hb d_G_join_24 rfl (lv_at hl 1 rfl) ?_
      refine lv_iload_n hx hb d_G_join_25 rfl (lv_at hl 2 rfl) ?_
      refine vp_callSi (va_Run.run (va_runV (As := [.int a0, .int a1]) (rest := []) (C := R_G) ⟨hx, hb, hml, hown, hts⟩ (mc_G_wouldRing l s0 dC dI cI cR cL cZ q gm gi fi a0 a1) ⟨(mr_cB 2 (hts (Cond.code y_G_wouldRing b_G_wouldRing 3 (some .boolean)) mw_76) (hts (Cond.initialized y_G_wouldRing.cls) mw_77) (hts (Cond.methodLink "MeasureRows$Groups" 26 y_G_wouldRing) mw_78) rfl rfl (by decide +kernel) ⟨Nat.le_of_ble_eq_true rfl, Nat.le_of_ble_eq_true rfl⟩), (hts (Cond.instanceMethod y_G_wouldRing) mw_79), (hts (Cond.selects "MeasureRows$Groups" y_G_wouldRing y_G_wouldRing) mw_80)⟩ (mr_preV hBH hK (hP.sub (ws' := [(q, .inr (1, [.ref gm, .ref gi])), (gi, .inl (cI, 8, .inl fi))]) [0, 2] rfl) (ci := 1) (q0 := 0) rfl rfl) rfl rfl hl.1 rfl (lv_room (Nat.le_of_ble_eq_true rfl)) d_G_join_26 ⟨Nat.le_of_ble_eq_true rfl, Nat.le_of_ble_eq_true rfl⟩)) (fun r_7 h_8 => ?_)
      subst h_8
      refine lv_if_eq (tgt := 34) hx hb d_G_join_29 (by decide) (fun c_9 => ?_) (fun c_9 => ?_)
      · refine lv_aload_n hx hb d_G_join_34 rfl (lv_at hl 0 rfl) ?_
        refine va_get (D := (dC, dI)) (ci := 1) (v := .ref gm) (C := R_G) (T := T_G) (N := 2) hx hb hts ti_G hown hK hP 0 rfl rfl 0 (by decide) (hts (Cond.fieldLink "MeasureRows$Groups" 9 "MeasureRows$Groups" "members" "[I") mw_44) (fun _ h9 => h9) rfl d_G_join_35 ?_
        refine lv_iload_n hx hb d_G_join_38 rfl (lv_at hl 1 rfl) ?_
        refine lv_bipush (v := 16) hx hb d_G_join_39 (by decide) ?_
        refine lv_isub hx hb d_G_join_41 ?_
        refine lv_dup2_11 hx hb d_G_join_42 rfl rfl ?_
        refine va_iald (D := (dC, dI)) hx hb hK hP 1 0 rfl rfl (i := a0 - 16) (mr_gi c_3) d_G_join_43 ?_
        refine lv_iconst (v := 1) hx hb d_G_join_44 (by decide) ?_
        refine lv_iload_n hx hb d_G_join_45 rfl (lv_at hl 2 rfl) ?_
        refine lv_ishl hx hb d_G_join_46 ?_
        refine lv_ior hx hb d_G_join_47 ?_
        refine va_iast (D := (dC, dI)) hx hb hK hP hD hS 1 0 rfl rfl (i := a0 - 16) (mr_gi c_3) d_G_join_48 (fun H locs hP hD hS => ?_)
        have hP : va_P (dC, dI) mr_cl [(q, .inr (1, [.ref gm, .ref gi])), (gm, .inl (cI, 8, .inl (upd fm (a0 - 16).toNatClampNeg ((fm (a0 - 16).toNatClampNeg) ||| (1 <<< (a1 &&& 31)))))), (gi, .inl (cI, 8, .inl fi))] H := hP
        have hD : va_D A [(q, .inr (1, [.ref gm, .ref gi])), (gm, .inl (cI, 8, .inl (upd fm (a0 - 16).toNatClampNeg ((fm (a0 - 16).toNatClampNeg) ||| (1 <<< (a1 &&& 31)))))), (gi, .inl (cI, 8, .inl fi))] := hD
        have hBH := hB.at hS hA0
        refine lv_iconst (v := 1) hx hb d_G_join_49 (by decide) ?_
        refine lv_iload_n hx hb d_G_join_50 rfl (lv_at hl 2 rfl) ?_
        refine lv_ishl hx hb d_G_join_51 ?_
        refine lv_aload_n hx hb d_G_join_52 rfl (lv_at hl 0 rfl) ?_
        refine lv_iload_n hx hb d_G_join_53 rfl (lv_at hl 2 rfl) ?_
        refine vp_callSi (va_Run.run (va_runV (As := [.int a1]) (rest := [.int (1 <<< (a1 &&& 31))]) (C := R_G) ⟨hx, hb, hml, hown, hts⟩ (mc_G_insideOf l s0 dC dI cI cR cL cZ q gm gi fi a1) ⟨(mr_cB 1 (hts (Cond.code y_G_insideOf b_G_insideOf 2 (some .int)) mw_26) (hts (Cond.initialized y_G_insideOf.cls) mw_27) (hts (Cond.methodLink "MeasureRows$Groups" 29 y_G_insideOf) mw_28) rfl rfl (by decide +kernel) ⟨Nat.le_of_ble_eq_true rfl, Nat.le_of_ble_eq_true rfl⟩), (hts (Cond.instanceMethod y_G_insideOf) mw_29), (hts (Cond.selects "MeasureRows$Groups" y_G_insideOf y_G_insideOf) mw_30)⟩ (mr_preV hBH hK (hP.sub (ws' := [(q, .inr (1, [.ref gm, .ref gi])), (gi, .inl (cI, 8, .inl fi))]) [0, 2] rfl) (ci := 1) (q0 := 0) rfl rfl) rfl rfl hl.1 rfl (lv_room (Nat.le_of_ble_eq_true rfl)) d_G_join_54 ⟨Nat.le_of_ble_eq_true rfl, Nat.le_of_ble_eq_true rfl⟩)) (fun r_10 h_11 => ?_)
        subst h_11
        refine lv_ior hx hb d_G_join_57 ?_
        refine lv_istore_n (lv' := [(3, .int ((1 <<< (a1 &&& 31)) ||| (mv_G_insideOf fi a1))), (0, .ref q), (1, .int a0), (2, .int a1)]) hx hb d_G_join_58 rfl hl (by decide) rfl (fun ls hl => ?_)
        refine lv_iconst (v := 0) hx hb d_G_join_59 (by decide) ?_
        refine lv_istore (lv' := [(4, .int 0), (3, .int ((1 <<< (a1 &&& 31)) ||| (mv_G_insideOf fi a1))), (0, .ref q), (1, .int a0), (2, .int a1)]) hx hb d_G_join_60 hl (by decide) rfl (fun ls hl => ?_)
        have e1 : mv_G_join fm fi a0 a1 = 1 := by unfold mv_G_join; rw [if_neg c_3, if_pos c_6, if_pos c_9]
        rw [← mv_jo_0 fi a0 (mv_jbr fi a1)] at hP hD
        refine mr_loop (N := 8) (I := fun j H locs ls => va_P (dC, dI) mr_cl [(q, .inr (1, [.ref gm, .ref gi])), (gm, .inl (cI, 8, .inl (upd fm (a0 - 16).toNatClampNeg ((fm (a0 - 16).toNatClampNeg) ||| (1 <<< (a1 &&& 31)))))), (gi, .inl (cI, 8, .inl (mv_jo fi a0 (mv_jbr fi a1) j)))] H ∧ va_D A [(q, .inr (1, [.ref gm, .ref gi])), (gm, .inl (cI, 8, .inl (upd fm (a0 - 16).toNatClampNeg ((fm (a0 - 16).toNatClampNeg) ||| (1 <<< (a1 &&& 31)))))), (gi, .inl (cI, 8, .inl (mv_jo fi a0 (mv_jbr fi a1) j)))] ∧ va_S A s.heap H locs ∧ lv_has ls 5 [(4, .int (nI j)), (3, .int (mv_jbr fi a1)), (0, .ref q), (1, .int a0), (2, .int a1)]) (fun j H locs ls hj hI ih => ?_) (fun H locs ls hI => ?_) 0 _ _ _ (by decide) ⟨hP, hD, hS, (lv_sub hl [0, 1, 2, 3, 4] rfl)⟩
        · obtain ⟨hP, hD, hS, hl⟩ := hI
          have hBH := hB.at hS hA0
          refine lv_iload hx hb d_G_join_62 (lv_at hl 0 rfl) ?_
          refine lv_bipush (v := 8) hx hb d_G_join_64 (by decide) ?_
          refine lv_icmp_ge (tgt := 109) hx hb d_G_join_66 (by decide) (fun c_12 => absurd c_12 (nI_ge (b := 8) hj (by decide))) (fun _ => ?_)
          refine lv_iload hx hb d_G_join_69 (lv_at hl 0 rfl) ?_
          refine lv_bipush (v := 16) hx hb d_G_join_71 (by decide) ?_
          refine lv_iadd hx hb d_G_join_73 ?_
          refine lv_iload_n hx hb d_G_join_74 rfl (lv_at hl 3 rfl) ?_
          refine lv_icmp_eq (tgt := 92) hx hb d_G_join_75 (by decide) (fun c_13 => ?_) (fun c_13 => ?_)
          · refine lv_aload_n hx hb d_G_join_92 rfl (lv_at hl 2 rfl) ?_
            refine va_get (D := (dC, dI)) (ci := 1) (v := .ref gi) (C := R_G) (T := T_G) (N := 2) hx hb hts ti_G hown hK hP 0 rfl rfl 1 (by decide) (hts (Cond.fieldLink "MeasureRows$Groups" 15 "MeasureRows$Groups" "inside" "[I") mw_25) (fun _ h9 => h9) rfl d_G_join_93 ?_
            refine lv_iload hx hb d_G_join_96 (lv_at hl 0 rfl) ?_
            refine lv_dup2_11 hx hb d_G_join_98 rfl rfl ?_
            refine va_iald (D := (dC, dI)) hx hb hK hP 2 0 rfl rfl (i := nI j) (nI_in hj (by decide)) d_G_join_99 ?_
            refine mr_top (mv_jo_at fi a0 (mv_jbr fi a1) j hj) ?_
            refine lv_iload_n hx hb d_G_join_100 rfl (lv_at hl 1 rfl) ?_
            refine lv_ior hx hb d_G_join_101 ?_
            refine va_iast (D := (dC, dI)) hx hb hK hP hD hS 2 0 rfl rfl (i := nI j) (nI_in hj (by decide)) d_G_join_102 (fun H locs hP hD hS => ?_)
            have hP : va_P (dC, dI) mr_cl [(q, .inr (1, [.ref gm, .ref gi])), (gm, .inl (cI, 8, .inl (upd fm (a0 - 16).toNatClampNeg ((fm (a0 - 16).toNatClampNeg) ||| (1 <<< (a1 &&& 31)))))), (gi, .inl (cI, 8, .inl (upd (mv_jo fi a0 (mv_jbr fi a1) j) (nI j).toNatClampNeg ((fi j) ||| (mv_jbr fi a1)))))] H := hP
            have hD : va_D A [(q, .inr (1, [.ref gm, .ref gi])), (gm, .inl (cI, 8, .inl (upd fm (a0 - 16).toNatClampNeg ((fm (a0 - 16).toNatClampNeg) ||| (1 <<< (a1 &&& 31)))))), (gi, .inl (cI, 8, .inl (upd (mv_jo fi a0 (mv_jbr fi a1) j) (nI j).toNatClampNeg ((fi j) ||| (mv_jbr fi a1)))))] := hD
            have hBH := hB.at hS hA0
            refine lv_iinc (v := nI (j + 1)) (lv' := [(4, .int (nI (j + 1))), (3, .int (mv_jbr fi a1)), (0, .ref q), (1, .int a0), (2, .int a1)]) hx hb d_G_join_103 hl (k := 0) rfl ((nI_succ j).symm) (by decide) rfl (fun ls hl => ?_)
            refine lv_goto (tgt := 62) hx hb d_G_join_106 (by decide) ?_
            have ej := mv_jo_set (fi := fi) (br := mv_jbr fi a1) hj (Or.inl c_13)
            rw [ej] at hP hD
            exact ih _ _ _ ⟨hP, hD, hS, (lv_sub hl [0, 1, 2, 3, 4] rfl)⟩
          · refine lv_aload_n hx hb d_G_join_78 rfl (lv_at hl 2 rfl) ?_
            refine va_get (D := (dC, dI)) (ci := 1) (v := .ref gi) (C := R_G) (T := T_G) (N := 2) hx hb hts ti_G hown hK hP 0 rfl rfl 1 (by decide) (hts (Cond.fieldLink "MeasureRows$Groups" 15 "MeasureRows$Groups" "inside" "[I") mw_25) (fun _ h9 => h9) rfl d_G_join_79 ?_
            refine lv_iload hx hb d_G_join_82 (lv_at hl 0 rfl) ?_
            refine va_iald (D := (dC, dI)) hx hb hK hP 2 0 rfl rfl (i := nI j) (nI_in hj (by decide)) d_G_join_84 ?_
            refine mr_top (mv_jo_at fi a0 (mv_jbr fi a1) j hj) ?_
            refine lv_iload_n hx hb d_G_join_85 rfl (lv_at hl 3 rfl) ?_
            refine vp_callSi (va_Run.run (va_runSN (As := [.int (fi j), .int a0]) (rest := []) ⟨hx, hb, hml, hown, hts⟩ (mc_M_hasBit l s0 (fi j) a0) ⟨(mr_cN 2 (hts (Cond.code y_M_hasBit b_M_hasBit 2 (some .boolean)) mw_31) (hts (Cond.initialized y_M_hasBit.cls) mw_32) (hts (Cond.methodLinkNest "MeasureRows$Groups" 22 y_M_hasBit "MeasureRows") mw_33) rfl rfl (by decide +kernel) ⟨Nat.le_of_ble_eq_true rfl, Nat.le_of_ble_eq_true rfl⟩), (hts (Cond.static y_M_hasBit) mw_34), trivial⟩ (mr_pre0 hBH) rfl rfl hl.1 rfl (lv_room (Nat.le_of_ble_eq_true rfl)) d_G_join_86 ⟨Nat.le_of_ble_eq_true rfl, Nat.le_of_ble_eq_true rfl⟩)) (fun r_14 h_15 => ?_)
            subst h_15
            refine lv_if_eq (tgt := 103) hx hb d_G_join_89 (by decide) (fun c_16 => ?_) (fun c_16 => ?_)
            · refine lv_iinc (v := nI (j + 1)) (lv' := [(4, .int (nI (j + 1))), (3, .int (mv_jbr fi a1)), (0, .ref q), (1, .int a0), (2, .int a1)]) hx hb d_G_join_103 hl (k := 0) rfl ((nI_succ j).symm) (by decide) rfl (fun ls hl => ?_)
              refine lv_goto (tgt := 62) hx hb d_G_join_106 (by decide) ?_
              have ej := mv_jo_skip (fi := fi) (br := mv_jbr fi a1) c_13 c_16
              rw [ej] at hP hD
              exact ih _ _ _ ⟨hP, hD, hS, (lv_sub hl [0, 1, 2, 3, 4] rfl)⟩
            · refine lv_aload_n hx hb d_G_join_92 rfl (lv_at hl 2 rfl) ?_
              refine va_get (D := (dC, dI)) (ci := 1) (v := .ref gi) (C := R_G) (T := T_G) (N := 2) hx hb hts ti_G hown hK hP 0 rfl rfl 1 (by decide) (hts (Cond.fieldLink "MeasureRows$Groups" 15 "MeasureRows$Groups" "inside" "[I") mw_25) (fun _ h9 => h9) rfl d_G_join_93 ?_
              refine lv_iload hx hb d_G_join_96 (lv_at hl 0 rfl) ?_
              refine lv_dup2_11 hx hb d_G_join_98 rfl rfl ?_
              refine va_iald (D := (dC, dI)) hx hb hK hP 2 0 rfl rfl (i := nI j) (nI_in hj (by decide)) d_G_join_99 ?_
              refine mr_top (mv_jo_at fi a0 (mv_jbr fi a1) j hj) ?_
              refine lv_iload_n hx hb d_G_join_100 rfl (lv_at hl 1 rfl) ?_
              refine lv_ior hx hb d_G_join_101 ?_
              refine va_iast (D := (dC, dI)) hx hb hK hP hD hS 2 0 rfl rfl (i := nI j) (nI_in hj (by decide)) d_G_join_102 (fun H locs hP hD hS => ?_)
              have hP : va_P (dC, dI) mr_cl [(q, .inr (1, [.ref gm, .ref gi])), (gm, .inl (cI, 8, .inl (upd fm (a0 - 16).toNatClampNeg ((fm (a0 - 16).toNatClampNeg) ||| (1 <<< (a1 &&& 31)))))), (gi, .inl (cI, 8, .inl (upd (mv_jo fi a0 (mv_jbr fi a1) j) (nI j).toNatClampNeg ((fi j) ||| (mv_jbr fi a1)))))] H := hP
              have hD : va_D A [(q, .inr (1, [.ref gm, .ref gi])), (gm, .inl (cI, 8, .inl (upd fm (a0 - 16).toNatClampNeg ((fm (a0 - 16).toNatClampNeg) ||| (1 <<< (a1 &&& 31)))))), (gi, .inl (cI, 8, .inl (upd (mv_jo fi a0 (mv_jbr fi a1) j) (nI j).toNatClampNeg ((fi j) ||| (mv_jbr fi a1)))))] := hD
              have hBH := hB.at hS hA0
              refine lv_iinc (v := nI (j + 1)) (lv' := [(4, .int (nI (j + 1))), (3, .int (mv_jbr fi a1)), (0, .ref q), (1, .int a0), (2, .int a1)]) hx hb d_G_join_103 hl (k := 0) rfl ((nI_succ j).symm) (by decide) rfl (fun ls hl => ?_)
              refine lv_goto (tgt := 62) hx hb d_G_join_106 (by decide) ?_
              have ej := mv_jo_set (fi := fi) (br := mv_jbr fi a1) hj (Or.inr c_16)
              rw [ej] at hP hD
              exact ih _ _ _ ⟨hP, hD, hS, (lv_sub hl [0, 1, 2, 3, 4] rfl)⟩
        · obtain ⟨hP, hD, hS, hl⟩ := hI
          have hBH := hB.at hS hA0
          refine lv_iload hx hb d_G_join_62 (lv_at hl 0 rfl) ?_
          refine lv_bipush (v := 8) hx hb d_G_join_64 (by decide) ?_
          refine lv_icmp_ge (tgt := 109) hx hb d_G_join_66 (by decide) (fun _ => ?_) (fun c_17 => absurd c_17 (by decide))
          refine lv_iconst (v := 1) hx hb d_G_join_109 (by decide) ?_
          have e1 : mv_G_join fm fi a0 a1 = 1 := e1
          have e2 : ¬ mv_G_join fm fi a0 a1 = 0 := by rw [e1]; decide
          have hP9 := hP.sub (ws' := [(q, .inr (1, [.ref gm, .ref gi])), (gm, .inl (cI, 8, .inl (upd fm (a0 - 16).toNatClampNeg ((fm (a0 - 16).toNatClampNeg) ||| (1 <<< (a1 &&& 31)))))), (gi, .inl (cI, 8, .inl (mv_jo fi a0 (mv_jbr fi a1) 8)))]) [0, 1, 2] rfl
          have hD9 := hD.sub (ws' := [(q, .inr (1, [.ref gm, .ref gi])), (gm, .inl (cI, 8, .inl (upd fm (a0 - 16).toNatClampNeg ((fm (a0 - 16).toNatClampNeg) ||| (1 <<< (a1 &&& 31)))))), (gi, .inl (cI, 8, .inl (mv_jo fi a0 (mv_jbr fi a1) 8)))]) [0, 1, 2] (by decide) rfl
          exact W.zret (v := 1) hx hb hr (mr_narz mr_b1) (fun t ht hW => ⟨⟨_, ((upd fm (a0 - 16).toNatClampNeg ((fm (a0 - 16).toNatClampNeg) ||| (1 <<< (a1 &&& 31)))), mv_jo fi a0 (mv_jbr fi a1) 8), rfl, ⟨e1.symm, by unfold mv_G_joinM; rw [if_neg e2], by unfold mv_G_joinI; rw [if_neg e2]⟩, by rw [ht]; exact hP9, va_K.moved hW.alike hK, hD9⟩, hS.F ht⟩) hS.2.2 d_G_join_110
      · refine lv_iconst (v := 0) hx hb d_G_join_32 (by decide) ?_
        have e0 : mv_G_join fm fi a0 a1 = 0 := by unfold mv_G_join; rw [if_neg c_3, if_pos c_6, if_neg c_9]
        have hP9 := hP.sub (ws' := [(q, .inr (1, [.ref gm, .ref gi])), (gm, .inl (cI, 8, .inl fm)), (gi, .inl (cI, 8, .inl fi))]) [0, 1, 2] rfl
        have hD9 := hD.sub (ws' := [(q, .inr (1, [.ref gm, .ref gi])), (gm, .inl (cI, 8, .inl fm)), (gi, .inl (cI, 8, .inl fi))]) [0, 1, 2] (by decide) rfl
        exact W.zret (v := 0) hx hb hr (mr_narz mr_b0) (fun t ht hW => ⟨⟨_, (fm, fi), rfl, ⟨e0.symm, by unfold mv_G_joinM; rw [if_pos e0], by unfold mv_G_joinI; rw [if_pos e0]⟩, by rw [ht]; exact hP9, va_K.moved hW.alike hK, hD9⟩, hS.F ht⟩) hS.2.2 d_G_join_33
end
section
def mv_M_member (fm fi : Nat → Int32) (a0 a1 : Int32) : Int32 := if mv_M_isGroup a0 = 0 then 0 else if mv_M_isLand a1 = 0 then (if mv_M_isGroup a1 = 0 then 0 else mv_G_join fm fi a0 a1) else mv_G_join fm fi a0 a1
def mv_M_memM (fm fi : Nat → Int32) (a0 a1 : Int32) : Nat → Int32 := if mv_M_isGroup a0 = 0 then fm else if mv_M_isLand a1 = 0 then (if mv_M_isGroup a1 = 0 then fm else mv_G_joinM fm fi a0 a1) else mv_G_joinM fm fi a0 a1
def mv_M_memI (fm fi : Nat → Int32) (a0 a1 : Int32) : Nat → Int32 := if mv_M_isGroup a0 = 0 then fi else if mv_M_isLand a1 = 0 then (if mv_M_isGroup a1 = 0 then fi else mv_G_joinI fm fi a0 a1) else mv_G_joinI fm fi a0 a1
theorem mw_81 : Cond.code y_G_join b_G_join 5 (some .boolean) ∈ lw_tbl := by decide +kernel
theorem mw_82 : Cond.initialized y_G_join.cls ∈ lw_tbl := by decide +kernel
theorem mw_83 : Cond.methodLink "MeasureRows" 52 y_G_join ∈ lw_tbl := by decide +kernel
theorem mw_84 : Cond.instanceMethod y_G_join ∈ lw_tbl := by decide +kernel
theorem mw_85 : Cond.selects "MeasureRows$Groups" y_G_join y_G_join ∈ lw_tbl := by decide +kernel
theorem mw_86 : Cond.constant "MeasureRows" 135 65535 ∈ lw_tbl := by decide +kernel
set_option maxHeartbeats 4000000 in
set_option maxRecDepth 100000 in
theorem mc_M_member (l : Launch) (s0 : State) (dC : Nat → ClassId) (dI : Nat → Nat → Nat) (cI cR cL cZ : ClassId) (r : Nat → Nat) (rc nw pb lc : Int32) (fm fi : Nat → Int32) (sz : Nat) (a0 : Int32) (a1 : Int32)  : Met l y_M_member [Cond.code y_M_member b_M_member 3 (some .boolean)] ({ frames := 4, cells := 0, slots := 0, locals := 87 }) (mr_PC s0 (dC, dI) [(cI, .int), (cR, .object "MeasureRows$Row"), (cL, .long), (cZ, .boolean)] [.ref (r 0), .int a0, .int a1] [((r 0), .inr (0, mf_M r rc nw pb lc)), ((r 1), .inr (1, [.ref (r 2), .ref (r 3)])), ((r 2), .inl (cI, 8, .inl fm)), ((r 3), .inl (cI, 8, .inl fi))] sz) (va_Qi (fun rr u => rr = mv_M_member fm fi a0 a1 ∧ u.1 = mv_M_memM fm fi a0 a1 ∧ u.2 = mv_M_memI fm fi a0 a1) (fun (u : (Nat → Int32) × (Nat → Int32)) t => mr_W (dC, dI) [(cI, .int), (cR, .object "MeasureRows$Row"), (cL, .long), (cZ, .boolean)] (va_A [((r 0), .inr (0, mf_M r rc nw pb lc)), ((r 1), .inr (1, [.ref (r 2), .ref (r 3)])), ((r 2), .inl (cI, 8, .inl fm)), ((r 3), .inl (cI, 8, .inl fi))] sz) [((r 0), .inr (0, mf_M r rc nw pb lc)), ((r 1), .inr (1, [.ref (r 2), .ref (r 3)])), ((r 2), .inl (cI, 8, .inl u.1)), ((r 3), .inl (cI, 8, .inl u.2))] t) (va_A [((r 0), .inr (0, mf_M r rc nw pb lc)), ((r 1), .inr (1, [.ref (r 2), .ref (r 3)])), ((r 2), .inl (cI, 8, .inl fm)), ((r 3), .inl (cI, 8, .inl fi))] sz)) 0 0 (va_A [((r 0), .inr (0, mf_M r rc nw pb lc)), ((r 1), .inr (1, [.ref (r 2), .ref (r 3)])), ((r 2), .inl (cI, 8, .inl fm)), ((r 3), .inl (cI, 8, .inl fi))] sz) := by
  refine Met.ofW (cc := b_M_member) (maxL := 3) (ret := (some .boolean)) (by decide) rfl ?_
  intro p e s m args below meth c s₁ B hml hv
  obtain ⟨rfl, hsz, hB, hK, hP, hD0⟩ := hv
  subst hsz
  have hA0 := mr_A hB hD0
  have hD := hD0.self (sz := s.heap.size)
  generalize hAe : va_A [((r 0), .inr (0, mf_M r rc nw pb lc)), ((r 1), .inr (1, [.ref (r 2), .ref (r 3)])), ((r 2), .inl (cI, 8, .inl fm)), ((r 3), .inl (cI, 8, .inl fi))] s.heap.size = A at hD hA0 ⊢
  have hA : ∀ q : Nat, s.heap.size ≤ q → A q := fun q h => by rw [← hAe]; exact Or.inr h
  have hS : va_S A s.heap s.heap [] := va_S.rf
  have hP : va_P (dC, dI) mr_cl [((r 0), .inr (0, mf_M r rc nw pb lc)), ((r 1), .inr (1, [.ref (r 2), .ref (r 3)])), ((r 2), .inl (cI, 8, .inl fm)), ((r 3), .inl (cI, 8, .inl fi))] s.heap := hP
  have hBH := hB.at hS hA0
  have hx := B.exec
  have hb := B.bytes
  have hr := B.returns
  have hlocks := B.notSynchronized
  have hts : ∀ w ∈ lw_tbl, w.before [.ref (r 0), .int a0, .int a1].toArray s = true := hB.hts _
  have hown : s.vm.findClass "MeasureRows" = some m.cls := findClass_of_methodNamed B.named
  have hl := lv_entry ([.ref (r 0), .int a0, .int a1]) (n := 3) (Nat.le_of_ble_eq_true rfl)
  rw [lg_entry_eq]
  generalize (lg_sl ([.ref (r 0), .int a0, .int a1]) ++ List.replicate (3 - (lg_sl ([.ref (r 0), .int a0, .int a1])).length) Slot.unset).toArray = ls at hl ⊢
  have hl : lv_has ls 3 [(0, .ref (r 0)), (1, .int a0), (2, .int a1)] := hl
  refine lv_iload_n hx hb d_M_member_0 rfl (lv_at hl 1 rfl) ?_
  refine vp_callSi (va_Run.run (va_runS (As := [.int a0]) (rest := []) ⟨hx, hb, hml, hown, hts⟩ (mc_M_isGroup l s0 a0) ⟨(mr_cB 1 (hts (Cond.code y_M_isGroup b_M_isGroup 1 (some .boolean)) mw_5) (hts (Cond.initialized y_M_isGroup.cls) mw_6) (hts (Cond.methodLink "MeasureRows" 45 y_M_isGroup) mw_7) rfl rfl (by decide +kernel) ⟨Nat.le_of_ble_eq_true rfl, Nat.le_of_ble_eq_true rfl⟩), (hts (Cond.static y_M_isGroup) mw_8)⟩ (mr_pre0 hBH) rfl rfl hl.1 rfl (lv_room (Nat.le_of_ble_eq_true rfl)) d_M_member_1 ⟨Nat.le_of_ble_eq_true rfl, Nat.le_of_ble_eq_true rfl⟩)) (fun r_1 h_2 => ?_)
  subst h_2
  refine lv_if_eq (tgt := 21) hx hb d_M_member_4 (by decide) (fun c_3 => ?_) (fun c_3 => ?_)
  · refine lv_iconst (v := 0) hx hb d_M_member_21 (by decide) ?_
    have hP9 := hP.sub (ws' := [((r 0), .inr (0, mf_M r rc nw pb lc)), ((r 1), .inr (1, [.ref (r 2), .ref (r 3)])), ((r 2), .inl (cI, 8, .inl fm)), ((r 3), .inl (cI, 8, .inl fi))]) [0, 1, 2, 3] rfl
    have hD9 := hD.sub (ws' := [((r 0), .inr (0, mf_M r rc nw pb lc)), ((r 1), .inr (1, [.ref (r 2), .ref (r 3)])), ((r 2), .inl (cI, 8, .inl fm)), ((r 3), .inl (cI, 8, .inl fi))]) [0, 1, 2, 3] (by decide) rfl
    exact W.zret (v := 0) hx hb hr (mr_narz mr_b0) (fun t ht hW => ⟨⟨_, (fm, fi), rfl, ⟨by unfold mv_M_member; rw [if_pos c_3], by unfold mv_M_memM; rw [if_pos c_3], by unfold mv_M_memI; rw [if_pos c_3]⟩, by rw [ht]; exact hP9, va_K.moved hW.alike hK, hD9⟩, hS.F ht⟩) hS.2.2 d_M_member_22
  · refine lv_iload_n hx hb d_M_member_7 rfl (lv_at hl 2 rfl) ?_
    refine vp_callSi (va_Run.run (va_runS (As := [.int a1]) (rest := []) ⟨hx, hb, hml, hown, hts⟩ (mc_M_isLand l s0 a1) ⟨(mr_cB 1 (hts (Cond.code y_M_isLand b_M_isLand 1 (some .boolean)) mw_1) (hts (Cond.initialized y_M_isLand.cls) mw_2) (hts (Cond.methodLink "MeasureRows" 49 y_M_isLand) mw_3) rfl rfl (by decide +kernel) ⟨Nat.le_of_ble_eq_true rfl, Nat.le_of_ble_eq_true rfl⟩), (hts (Cond.static y_M_isLand) mw_4)⟩ (mr_pre0 hBH) rfl rfl hl.1 rfl (lv_room (Nat.le_of_ble_eq_true rfl)) d_M_member_8 ⟨Nat.le_of_ble_eq_true rfl, Nat.le_of_ble_eq_true rfl⟩)) (fun r_4 h_5 => ?_)
    subst h_5
    refine lv_if_ne (tgt := 23) hx hb d_M_member_11 (by decide) (fun c_6 => ?_) (fun c_6 => ?_)
    · refine lv_aload_n hx hb d_M_member_23 rfl (lv_at hl 0 rfl) ?_
      refine va_get (D := (dC, dI)) (ci := 0) (v := .ref (r 1)) (C := R_M) (T := T_M) (N := 9) hx hb hts ti_M hown hK hP 0 rfl rfl 0 (by decide) (hts (Cond.fieldLink "MeasureRows" 10 "MeasureRows" "groups" "LMeasureRows$Groups;") mw_53) (fun _ h9 => h9) rfl d_M_member_24 ?_
      refine lv_iload_n hx hb d_M_member_27 rfl (lv_at hl 1 rfl) ?_
      refine lv_iload_n hx hb d_M_member_28 rfl (lv_at hl 2 rfl) ?_
      have hPc := hP.sub (ws' := [((r 1), .inr (1, [.ref (r 2), .ref (r 3)])), ((r 2), .inl (cI, 8, .inl fm)), ((r 3), .inl (cI, 8, .inl fi))]) [1, 2, 3] rfl
      have hDc := hD.sub (ws' := [((r 1), .inr (1, [.ref (r 2), .ref (r 3)])), ((r 2), .inl (cI, 8, .inl fm)), ((r 3), .inl (cI, 8, .inl fi))]) [1, 2, 3] (by decide) rfl
      have hFc := va_free (wc := [((r 1), .inr (1, [.ref (r 2), .ref (r 3)])), ((r 2), .inl (cI, 8, .inl fm)), ((r 3), .inl (cI, 8, .inl fi))]) hD hS hA [1, 2, 3] rfl
      refine va_calli (va_runV (As := [.int a0, .int a1]) (rest := []) (C := R_G) ⟨hx, hb, hml, hown, hts⟩ (mc_G_join l s0 dC dI cI cR cL cZ (r 1) (r 2) (r 3) fm fi _ a0 a1) ⟨(mr_cB 2 (hts (Cond.code y_G_join b_G_join 5 (some .boolean)) mw_81) (hts (Cond.initialized y_G_join.cls) mw_82) (hts (Cond.methodLink "MeasureRows" 52 y_G_join) mw_83) rfl rfl (by decide +kernel) ⟨Nat.le_of_ble_eq_true rfl, Nat.le_of_ble_eq_true rfl⟩), (hts (Cond.instanceMethod y_G_join) mw_84), (hts (Cond.selects "MeasureRows$Groups" y_G_join y_G_join) mw_85)⟩ (mr_preCV hBH hK hPc (hDc.weaken (fun _ _ _ h => hA0 _ h)) (ci := 1) (q0 := 0) rfl rfl) rfl rfl hl.1 rfl (lv_room (Nat.le_of_ble_eq_true rfl)) d_M_member_29 ⟨Nat.le_of_ble_eq_true rfl, Nat.le_of_ble_eq_true rfl⟩) hS (fun q _ h => hFc q h) hFc (fun r_7 u_8 t H1 locs ht hvm hw hB1 hz1 hk1 hS => ?_)
      obtain ⟨fm_9, fi_10⟩ := u_8
      obtain ⟨hP1, hK1, hD1⟩ := hB1
      rw [ht] at hP1
      obtain ⟨hP, hD⟩ := va_join (wr := [((r 0), .inr (0, mf_M r rc nw pb lc))]) (w1 := [((r 1), .inr (1, [.ref (r 2), .ref (r 3)])), ((r 2), .inl (cI, 8, .inl fm_9)), ((r 3), .inl (cI, 8, .inl fi_10))]) hP hD [1, 2, 3] [0] rfl rfl (by decide) (by decide) hk1 hFc hP1 hD1
      clear hK1 hk1 hPc hDc hFc
      generalize H1 = H at hP hS ht ⊢
      have hP : va_P (dC, dI) mr_cl [((r 0), .inr (0, mf_M r rc nw pb lc)), ((r 1), .inr (1, [.ref (r 2), .ref (r 3)])), ((r 2), .inl (cI, 8, .inl fm_9)), ((r 3), .inl (cI, 8, .inl fi_10))] H := hP
      have hD : va_D A [((r 0), .inr (0, mf_M r rc nw pb lc)), ((r 1), .inr (1, [.ref (r 2), .ref (r 3)])), ((r 2), .inl (cI, 8, .inl fm_9)), ((r 3), .inl (cI, 8, .inl fi_10))] := hD
      have hBH := hB.at hS hA0
      have hP9 := hP.sub (ws' := [((r 0), .inr (0, mf_M r rc nw pb lc)), ((r 1), .inr (1, [.ref (r 2), .ref (r 3)])), ((r 2), .inl (cI, 8, .inl fm_9)), ((r 3), .inl (cI, 8, .inl fi_10))]) [0, 1, 2, 3] rfl
      have hD9 := hD.sub (ws' := [((r 0), .inr (0, mf_M r rc nw pb lc)), ((r 1), .inr (1, [.ref (r 2), .ref (r 3)])), ((r 2), .inl (cI, 8, .inl fm_9)), ((r 3), .inl (cI, 8, .inl fi_10))]) [0, 1, 2, 3] (by decide) rfl
      exact W.zret (v := r_7) hx hb hr (mr_narz (by rw [hw.1]; exact mv_G_join_b _ _ _ _)) (fun t ht hW => ⟨⟨_, (fm_9, fi_10), rfl, ⟨by unfold mv_M_member; rw [if_neg c_3, if_neg c_6, hw.1], by unfold mv_M_memM; rw [if_neg c_3, if_neg c_6]; exact hw.2.1, by unfold mv_M_memI; rw [if_neg c_3, if_neg c_6]; exact hw.2.2⟩, by rw [ht]; exact hP9, va_K.moved hW.alike hK, hD9⟩, hS.F ht⟩) hS.2.2 d_M_member_32
    · refine lv_iload_n hx hb d_M_member_14 rfl (lv_at hl 2 rfl) ?_
      refine vp_callSi (va_Run.run (va_runS (As := [.int a1]) (rest := []) ⟨hx, hb, hml, hown, hts⟩ (mc_M_isGroup l s0 a1) ⟨(mr_cB 1 (hts (Cond.code y_M_isGroup b_M_isGroup 1 (some .boolean)) mw_5) (hts (Cond.initialized y_M_isGroup.cls) mw_6) (hts (Cond.methodLink "MeasureRows" 45 y_M_isGroup) mw_7) rfl rfl (by decide +kernel) ⟨Nat.le_of_ble_eq_true rfl, Nat.le_of_ble_eq_true rfl⟩), (hts (Cond.static y_M_isGroup) mw_8)⟩ (mr_pre0 hBH) rfl rfl hl.1 rfl (lv_room (Nat.le_of_ble_eq_true rfl)) d_M_member_15 ⟨Nat.le_of_ble_eq_true rfl, Nat.le_of_ble_eq_true rfl⟩)) (fun r_11 h_12 => ?_)
      subst h_12
      refine lv_if_ne (tgt := 23) hx hb d_M_member_18 (by decide) (fun c_13 => ?_) (fun c_13 => ?_)
      · refine lv_aload_n hx hb d_M_member_23 rfl (lv_at hl 0 rfl) ?_
        refine va_get (D := (dC, dI)) (ci := 0) (v := .ref (r 1)) (C := R_M) (T := T_M) (N := 9) hx hb hts ti_M hown hK hP 0 rfl rfl 0 (by decide) (hts (Cond.fieldLink "MeasureRows" 10 "MeasureRows" "groups" "LMeasureRows$Groups;") mw_53) (fun _ h9 => h9) rfl d_M_member_24 ?_
        refine lv_iload_n hx hb d_M_member_27 rfl (lv_at hl 1 rfl) ?_
        refine lv_iload_n hx hb d_M_member_28 rfl (lv_at hl 2 rfl) ?_
        have hPc := hP.sub (ws' := [((r 1), .inr (1, [.ref (r 2), .ref (r 3)])), ((r 2), .inl (cI, 8, .inl fm)), ((r 3), .inl (cI, 8, .inl fi))]) [1, 2, 3] rfl
        have hDc := hD.sub (ws' := [((r 1), .inr (1, [.ref (r 2), .ref (r 3)])), ((r 2), .inl (cI, 8, .inl fm)), ((r 3), .inl (cI, 8, .inl fi))]) [1, 2, 3] (by decide) rfl
        have hFc := va_free (wc := [((r 1), .inr (1, [.ref (r 2), .ref (r 3)])), ((r 2), .inl (cI, 8, .inl fm)), ((r 3), .inl (cI, 8, .inl fi))]) hD hS hA [1, 2, 3] rfl
        refine va_calli (va_runV (As := [.int a0, .int a1]) (rest := []) (C := R_G) ⟨hx, hb, hml, hown, hts⟩ (mc_G_join l s0 dC dI cI cR cL cZ (r 1) (r 2) (r 3) fm fi _ a0 a1) ⟨(mr_cB 2 (hts (Cond.code y_G_join b_G_join 5 (some .boolean)) mw_81) (hts (Cond.initialized y_G_join.cls) mw_82) (hts (Cond.methodLink "MeasureRows" 52 y_G_join) mw_83) rfl rfl (by decide +kernel) ⟨Nat.le_of_ble_eq_true rfl, Nat.le_of_ble_eq_true rfl⟩), (hts (Cond.instanceMethod y_G_join) mw_84), (hts (Cond.selects "MeasureRows$Groups" y_G_join y_G_join) mw_85)⟩ (mr_preCV hBH hK hPc (hDc.weaken (fun _ _ _ h => hA0 _ h)) (ci := 1) (q0 := 0) rfl rfl) rfl rfl hl.1 rfl (lv_room (Nat.le_of_ble_eq_true rfl)) d_M_member_29 ⟨Nat.le_of_ble_eq_true rfl, Nat.le_of_ble_eq_true rfl⟩) hS (fun q _ h => hFc q h) hFc (fun r_14 u_15 t H1 locs ht hvm hw hB1 hz1 hk1 hS => ?_)
        obtain ⟨fm_16, fi_17⟩ := u_15
        obtain ⟨hP1, hK1, hD1⟩ := hB1
        rw [ht] at hP1
        obtain ⟨hP, hD⟩ := va_join (wr := [((r 0), .inr (0, mf_M r rc nw pb lc))]) (w1 := [((r 1), .inr (1, [.ref (r 2), .ref (r 3)])), ((r 2), .inl (cI, 8, .inl fm_16)), ((r 3), .inl (cI, 8, .inl fi_17))]) hP hD [1, 2, 3] [0] rfl rfl (by decide) (by decide) hk1 hFc hP1 hD1
        clear hK1 hk1 hPc hDc hFc
        generalize H1 = H at hP hS ht ⊢
        have hP : va_P (dC, dI) mr_cl [((r 0), .inr (0, mf_M r rc nw pb lc)), ((r 1), .inr (1, [.ref (r 2), .ref (r 3)])), ((r 2), .inl (cI, 8, .inl fm_16)), ((r 3), .inl (cI, 8, .inl fi_17))] H := hP
        have hD : va_D A [((r 0), .inr (0, mf_M r rc nw pb lc)), ((r 1), .inr (1, [.ref (r 2), .ref (r 3)])), ((r 2), .inl (cI, 8, .inl fm_16)), ((r 3), .inl (cI, 8, .inl fi_17))] := hD
        have hBH := hB.at hS hA0
        have hP9 := hP.sub (ws' := [((r 0), .inr (0, mf_M r rc nw pb lc)), ((r 1), .inr (1, [.ref (r 2), .ref (r 3)])), ((r 2), .inl (cI, 8, .inl fm_16)), ((r 3), .inl (cI, 8, .inl fi_17))]) [0, 1, 2, 3] rfl
        have hD9 := hD.sub (ws' := [((r 0), .inr (0, mf_M r rc nw pb lc)), ((r 1), .inr (1, [.ref (r 2), .ref (r 3)])), ((r 2), .inl (cI, 8, .inl fm_16)), ((r 3), .inl (cI, 8, .inl fi_17))]) [0, 1, 2, 3] (by decide) rfl
        exact W.zret (v := r_14) hx hb hr (mr_narz (by rw [hw.1]; exact mv_G_join_b _ _ _ _)) (fun t ht hW => ⟨⟨_, (fm_16, fi_17), rfl, ⟨by unfold mv_M_member; rw [if_neg c_3, if_pos c_6, if_neg c_13, hw.1], by unfold mv_M_memM; rw [if_neg c_3, if_pos c_6, if_neg c_13]; exact hw.2.1, by unfold mv_M_memI; rw [if_neg c_3, if_pos c_6, if_neg c_13]; exact hw.2.2⟩, by rw [ht]; exact hP9, va_K.moved hW.alike hK, hD9⟩, hS.F ht⟩) hS.2.2 d_M_member_32
      · refine lv_iconst (v := 0) hx hb d_M_member_21 (by decide) ?_
        have hP9 := hP.sub (ws' := [((r 0), .inr (0, mf_M r rc nw pb lc)), ((r 1), .inr (1, [.ref (r 2), .ref (r 3)])), ((r 2), .inl (cI, 8, .inl fm)), ((r 3), .inl (cI, 8, .inl fi))]) [0, 1, 2, 3] rfl
        have hD9 := hD.sub (ws' := [((r 0), .inr (0, mf_M r rc nw pb lc)), ((r 1), .inr (1, [.ref (r 2), .ref (r 3)])), ((r 2), .inl (cI, 8, .inl fm)), ((r 3), .inl (cI, 8, .inl fi))]) [0, 1, 2, 3] (by decide) rfl
        exact W.zret (v := 0) hx hb hr (mr_narz mr_b0) (fun t ht hW => ⟨⟨_, (fm, fi), rfl, ⟨by unfold mv_M_member; rw [if_neg c_3, if_pos c_6, if_pos c_13], by unfold mv_M_memM; rw [if_neg c_3, if_pos c_6, if_pos c_13], by unfold mv_M_memI; rw [if_neg c_3, if_pos c_6, if_pos c_13]⟩, by rw [ht]; exact hP9, va_K.moved hW.alike hK, hD9⟩, hS.F ht⟩) hS.2.2 d_M_member_22
set_option maxHeartbeats 4000000 in
set_option maxRecDepth 100000 in
theorem mc_M_papers (l : Launch) (s0 : State) (dC : Nat → ClassId) (dI : Nat → Nat → Nat) (cI cR cL cZ : ClassId) (r : Nat → Nat) (rc nw pb lc : Int32) (sz : Nat) (a0 : Int32)  : Met l y_M_papers [Cond.code y_M_papers b_M_papers 2 none] ({ frames := 0, cells := 0, slots := 0, locals := 0 }) (mr_PC s0 (dC, dI) [(cI, .int), (cR, .object "MeasureRows$Row"), (cL, .long), (cZ, .boolean)] [.ref (r 0), .int a0] [((r 0), .inr (0, mf_M r rc nw pb lc))] sz) (va_Qv (fun _ => True) (fun (u : Unit) t => mr_W (dC, dI) [(cI, .int), (cR, .object "MeasureRows$Row"), (cL, .long), (cZ, .boolean)] (va_A [((r 0), .inr (0, mf_M r rc nw pb lc))] sz) [((r 0), .inr (0, mf_M r rc nw (a0 &&& 65535) lc))] t) (va_A [((r 0), .inr (0, mf_M r rc nw pb lc))] sz)) 0 0 (va_A [((r 0), .inr (0, mf_M r rc nw pb lc))] sz) := by
  refine Met.ofW (cc := b_M_papers) (maxL := 2) (ret := none) (by decide) rfl ?_
  intro p e s m args below meth c s₁ B hml hv
  obtain ⟨rfl, hsz, hB, hK, hP, hD0⟩ := hv
  subst hsz
  have hA0 := mr_A hB hD0
  have hD := hD0.self (sz := s.heap.size)
  generalize hAe : va_A [((r 0), .inr (0, mf_M r rc nw pb lc))] s.heap.size = A at hD hA0 ⊢
  have hA : ∀ q : Nat, s.heap.size ≤ q → A q := fun q h => by rw [← hAe]; exact Or.inr h
  have hS : va_S A s.heap s.heap [] := va_S.rf
  have hP : va_P (dC, dI) mr_cl [((r 0), .inr (0, mf_M r rc nw pb lc))] s.heap := hP
  have hBH := hB.at hS hA0
  have hx := B.exec
  have hb := B.bytes
  have hr := B.returns
  have hlocks := B.notSynchronized
  have hts : ∀ w ∈ lw_tbl, w.before [.ref (r 0), .int a0].toArray s = true := hB.hts _
  have hown : s.vm.findClass "MeasureRows" = some m.cls := findClass_of_methodNamed B.named
  have hl := lv_entry ([.ref (r 0), .int a0]) (n := 2) (Nat.le_of_ble_eq_true rfl)
  rw [lg_entry_eq]
  generalize (lg_sl ([.ref (r 0), .int a0]) ++ List.replicate (2 - (lg_sl ([.ref (r 0), .int a0])).length) Slot.unset).toArray = ls at hl ⊢
  have hl : lv_has ls 2 [(0, .ref (r 0)), (1, .int a0)] := hl
  refine lv_aload_n hx hb d_M_papers_0 rfl (lv_at hl 0 rfl) ?_
  refine lv_iload_n hx hb d_M_papers_1 rfl (lv_at hl 1 rfl) ?_
  refine lv_ldc (v := 65535) hx hb hown (hts (Cond.constant "MeasureRows" 135 65535) mw_86) d_M_papers_2 ?_
  refine lv_iand hx hb d_M_papers_4 ?_
  refine va_put (D := (dC, dI)) (ci := 0) (v := .int (a0 &&& 65535)) (ty := .int) (C := R_M) (T := T_M) (N := 9) hx hb hts ti_M t_M to_M tn_M hown hK hP hD hS 0 rfl rfl 4 (by decide) (hts (Cond.fieldLink "MeasureRows" 29 "MeasureRows" "paperBits" "I") mw_59) (fun _ h9 => h9) rfl (by decide +kernel) rfl rfl (Nat.le_of_ble_eq_true rfl) d_M_papers_5 (fun H locs hP hD hS => ?_)
  have hP : va_P (dC, dI) mr_cl [((r 0), .inr (0, mf_M r rc nw (a0 &&& 65535) lc))] H := hP
  have hD : va_D A [((r 0), .inr (0, mf_M r rc nw (a0 &&& 65535) lc))] := hD
  have hBH := hB.at hS hA0
  have hP9 := hP.sub (ws' := [((r 0), .inr (0, mf_M r rc nw (a0 &&& 65535) lc))]) [0] rfl
  have hD9 := hD.sub (ws' := [((r 0), .inr (0, mf_M r rc nw (a0 &&& 65535) lc))]) [0] (by decide) rfl
  exact W.vret hx hb hr (fun t ht hW => ⟨⟨(), rfl, trivial, by rw [ht]; exact hP9, va_K.moved hW.alike hK, hD9⟩, hS.F ht⟩) hS.2.2 d_M_papers_8
end
section
def mv_bt (v : Int32) : Nat → Int32
  | 0 => 0
  | k + 1 => mv_bt v k + ((v >>> (nI k &&& 31)) &&& 1)
theorem mv_bt_s (v : Int32) (k : Nat) : mv_bt v (k + 1) = mv_bt v k + ((v >>> (nI k &&& 31)) &&& 1) := rfl
def mv_al (f : Nat → Int32) (v : Int32) : Nat → Int32
  | 0 => v
  | k + 1 => if ((mv_al f v k) >>> ((16 + nI k) &&& 31)) &&& 1 = 1 then (mv_al f v k) ||| f k else mv_al f v k
theorem mv_al_s (f : Nat → Int32) (v : Int32) (k : Nat) : mv_al f v (k + 1) = if ((mv_al f v k) >>> ((16 + nI k) &&& 31)) &&& 1 = 1 then (mv_al f v k) ||| f k else mv_al f v k := rfl
def mv_alr (f : Nat → Int32) (v : Int32) : Nat → Int32
  | 0 => v
  | r + 1 => mv_al f (mv_alr f v r) 8
theorem mv_alr_s (f : Nat → Int32) (v : Int32) (r : Nat) : mv_alr f v (r + 1) = mv_al f (mv_alr f v r) 8 := rfl
theorem mr_gd {x : Int32} (h : ¬ mv_D_isGroup x = 0) : vp_in (x - 16) 8 := by
  unfold mv_D_isGroup mv_D_in at h
  by_cases h1 : x < 16
  · rw [if_pos h1] at h; exact absurd rfl h
  · rw [if_neg h1] at h
    by_cases h2 : 23 < x
    · rw [if_pos h2] at h; exact absurd rfl h
    · refine mr_i8 h1 (fun h3 => h2 ?_)
      rw [Int32.lt_iff_toInt_lt]
      rw [Int32.le_iff_toInt_le] at h3
      have a1 : (24 : Int32).toInt = 24 := by decide
      have a2 : (23 : Int32).toInt = 23 := by decide
      omega
theorem mw_87 : Cond.fieldLink "MeasureRowsModel" 7 "MeasureRowsModel" "members" "[I" ∈ lw_tbl := by decide +kernel
theorem mw_88 : Cond.code y_D_all b_D_all 5 (some .int) ∈ lw_tbl := by decide +kernel
theorem mw_89 : Cond.initialized y_D_all.cls ∈ lw_tbl := by decide +kernel
theorem mw_90 : Cond.methodLink "MeasureRowsModel" 63 y_D_all ∈ lw_tbl := by decide +kernel
theorem mw_91 : Cond.instanceMethod y_D_all ∈ lw_tbl := by decide +kernel
theorem mw_92 : Cond.selects "MeasureRowsModel" y_D_all y_D_all ∈ lw_tbl := by decide +kernel
theorem mw_93 : Cond.code y_D_isGroup b_D_isGroup 1 (some .boolean) ∈ lw_tbl := by decide +kernel
theorem mw_94 : Cond.initialized y_D_isGroup.cls ∈ lw_tbl := by decide +kernel
theorem mw_95 : Cond.methodLink "MeasureRowsModel" 67 y_D_isGroup ∈ lw_tbl := by decide +kernel
theorem mw_96 : Cond.static y_D_isGroup ∈ lw_tbl := by decide +kernel
def mv_D_bits (a0 : Int32) : Int32 := mv_bt a0 32
set_option maxHeartbeats 4000000 in
set_option maxRecDepth 100000 in
theorem mc_D_bits (l : Launch) (s0 : State) (a0 : Int32) : Met l y_D_bits [Cond.code y_D_bits b_D_bits 3 (some .int)] ({ frames := 0, cells := 0, slots := 0, locals := 0 }) (va_Pc [.int a0] (fun U => mr_B s0 U)) (vp_Si (fun r => r = mv_D_bits a0)) 0 0 (fun _ => False) := by
  refine Met.ofW (cc := b_D_bits) (maxL := 3) (ret := (some .int)) (by decide) rfl ?_
  intro p e s m args below meth c s₁ B hml hv
  obtain ⟨rfl, hB⟩ := hv
  have hBH := hB.here
  have hx := B.exec
  have hb := B.bytes
  have hr := B.returns
  have hlocks := B.notSynchronized
  have hts : ∀ w ∈ lw_tbl, w.before [.int a0].toArray s = true := hB.hts _
  have hown : s.vm.findClass "MeasureRowsModel" = some m.cls := findClass_of_methodNamed B.named
  have hl := lv_entry ([.int a0]) (n := 3) (Nat.le_of_ble_eq_true rfl)
  rw [lg_entry_eq]
  generalize (lg_sl ([.int a0]) ++ List.replicate (3 - (lg_sl ([.int a0])).length) Slot.unset).toArray = ls at hl ⊢
  have hl : lv_has ls 3 [(0, .int a0)] := hl
  refine lv_iconst (v := 0) hx hb d_D_bits_0 (by decide) ?_
  refine lv_istore_n (lv' := [(1, .int 0), (0, .int a0)]) hx hb d_D_bits_1 rfl hl (by decide) rfl (fun ls hl => ?_)
  refine lv_iconst (v := 0) hx hb d_D_bits_2 (by decide) ?_
  refine lv_istore_n (lv' := [(2, .int 0), (1, .int 0), (0, .int a0)]) hx hb d_D_bits_3 rfl hl (by decide) rfl (fun ls hl => ?_)
  refine mr_loop (N := 32) (I := fun j H locs ls => H = s.heap ∧ locs = [] ∧ lv_has ls 3 [(2, .int (nI j)), (1, .int (mv_bt a0 j)), (0, .int a0)]) (fun j H locs ls hj hI ih => ?_) (fun H locs ls hI => ?_) 0 _ _ _ (Nat.zero_le _) ⟨rfl, rfl, (lv_sub hl [0, 1, 2] rfl)⟩
  · obtain ⟨rfl, rfl, hl⟩ := hI
    refine lv_iload_n hx hb d_D_bits_4 rfl (lv_at hl 0 rfl) ?_
    refine lv_bipush (v := 32) hx hb d_D_bits_5 (by decide) ?_
    refine lv_icmp_ge (tgt := 24) hx hb d_D_bits_7 (by decide) (fun c_1 => absurd c_1 (nI_ge (b := 32) hj (by decide))) (fun _ => ?_)
    refine lv_iload_n hx hb d_D_bits_10 rfl (lv_at hl 1 rfl) ?_
    refine lv_iload_n hx hb d_D_bits_11 rfl (lv_at hl 2 rfl) ?_
    refine lv_iload_n hx hb d_D_bits_12 rfl (lv_at hl 0 rfl) ?_
    refine lv_ishr hx hb d_D_bits_13 ?_
    refine lv_iconst (v := 1) hx hb d_D_bits_14 (by decide) ?_
    refine lv_iand hx hb d_D_bits_15 ?_
    refine lv_iadd hx hb d_D_bits_16 ?_
    refine lv_istore_n (lv' := [(1, .int ((mv_bt a0 j) + ((a0 >>> ((nI j) &&& 31)) &&& 1))), (2, .int (nI j)), (0, .int a0)]) hx hb d_D_bits_17 rfl hl (by decide) rfl (fun ls hl => ?_)
    refine lv_iinc (v := nI (j + 1)) (lv' := [(2, .int (nI (j + 1))), (1, .int ((mv_bt a0 j) + ((a0 >>> ((nI j) &&& 31)) &&& 1))), (0, .int a0)]) hx hb d_D_bits_18 hl (k := 1) rfl ((nI_succ j).symm) (by decide) rfl (fun ls hl => ?_)
    refine lv_goto (tgt := 4) hx hb d_D_bits_21 (by decide) ?_
    rw [← mv_bt_s a0 j] at hl
    exact ih _ _ _ ⟨rfl, rfl, lv_sub hl [0, 1, 2] rfl⟩
  · obtain ⟨rfl, rfl, hl⟩ := hI
    refine lv_iload_n hx hb d_D_bits_4 rfl (lv_at hl 0 rfl) ?_
    refine lv_bipush (v := 32) hx hb d_D_bits_5 (by decide) ?_
    refine lv_icmp_ge (tgt := 24) hx hb d_D_bits_7 (by decide) (fun _ => ?_) (fun c_2 => absurd c_2 (by decide))
    refine lv_iload_n hx hb d_D_bits_24 rfl (lv_at hl 1 rfl) ?_
    exact W.iret (v := mv_bt a0 32) hx hb hr (fun t ht _ => ⟨_, rfl, rfl, ht⟩) (fun _ h => nomatch h) d_D_bits_25
def mv_D_all (fm : Nat → Int32) (a0 : Int32) : Int32 := mv_alr fm (fm (a0 - 16).toNatClampNeg) 8
set_option maxHeartbeats 4000000 in
set_option maxRecDepth 100000 in
theorem mc_D_all (l : Launch) (s0 : State) (dC : Nat → ClassId) (dI : Nat → Nat → Nat) (cI cR cL cZ : ClassId) (r : Nat → Nat) (th rw nw pb lc : Int32) (fm : Nat → Int32) (a0 : Int32) (hg : ¬ mv_D_isGroup a0 = 0) : Met l y_D_all [Cond.code y_D_all b_D_all 5 (some .int)] ({ frames := 0, cells := 0, slots := 0, locals := 0 }) (mr_PW s0 (dC, dI) [(cI, .int), (cR, .object "MeasureRows$Row"), (cL, .long), (cZ, .boolean)] [.ref (r 0), .int a0] [((r 0), .inr (3, mf_D r th rw nw pb lc)), ((r 1), .inl (cI, 8, .inl fm))]) (vp_Si (fun r => r = mv_D_all fm a0)) 0 0 (fun _ => False) := by
  refine Met.ofW (cc := b_D_all) (maxL := 5) (ret := (some .int)) (by decide) rfl ?_
  intro p e s m args below meth c s₁ B hml hv
  obtain ⟨rfl, hB, hK, hP⟩ := hv
  have hBH := hB.here
  have hx := B.exec
  have hb := B.bytes
  have hr := B.returns
  have hlocks := B.notSynchronized
  have hts : ∀ w ∈ lw_tbl, w.before [.ref (r 0), .int a0].toArray s = true := hB.hts _
  have hown : s.vm.findClass "MeasureRowsModel" = some m.cls := findClass_of_methodNamed B.named
  have hl := lv_entry ([.ref (r 0), .int a0]) (n := 5) (Nat.le_of_ble_eq_true rfl)
  rw [lg_entry_eq]
  generalize (lg_sl ([.ref (r 0), .int a0]) ++ List.replicate (5 - (lg_sl ([.ref (r 0), .int a0])).length) Slot.unset).toArray = ls at hl ⊢
  have hl : lv_has ls 5 [(0, .ref (r 0)), (1, .int a0)] := hl
  refine lv_aload_n hx hb d_D_all_0 rfl (lv_at hl 0 rfl) ?_
  refine va_get (D := (dC, dI)) (ci := 3) (v := .ref (r 1)) (C := R_D) (T := T_D) (N := 19) hx hb hts ti_D hown hK hP 0 rfl rfl 1 (by decide) (hts (Cond.fieldLink "MeasureRowsModel" 7 "MeasureRowsModel" "members" "[I") mw_87) (fun _ h9 => h9) rfl d_D_all_1 ?_
  refine lv_iload_n hx hb d_D_all_4 rfl (lv_at hl 1 rfl) ?_
  refine lv_bipush (v := 16) hx hb d_D_all_5 (by decide) ?_
  refine lv_isub hx hb d_D_all_7 ?_
  refine va_iald (D := (dC, dI)) hx hb hK hP 1 0 rfl rfl (i := a0 - 16) (mr_gd hg) d_D_all_8 ?_
  refine lv_istore_n (lv' := [(2, .int (fm (a0 - 16).toNatClampNeg)), (0, .ref (r 0)), (1, .int a0)]) hx hb d_D_all_9 rfl hl (by decide) rfl (fun ls hl => ?_)
  refine lv_iconst (v := 0) hx hb d_D_all_10 (by decide) ?_
  refine lv_istore_n (lv' := [(3, .int 0), (2, .int (fm (a0 - 16).toNatClampNeg)), (0, .ref (r 0)), (1, .int a0)]) hx hb d_D_all_11 rfl hl (by decide) rfl (fun ls hl => ?_)
  refine mr_loop (N := 8) (I := fun i H locs ls => H = s.heap ∧ locs = [] ∧ lv_has ls 5 [(3, .int (nI i)), (2, .int (mv_alr fm (fm (a0 - 16).toNatClampNeg) i)), (0, .ref (r 0)), (1, .int a0)]) (fun i H locs ls hi hI1 ih1 => ?_) (fun H locs ls hI1 => ?_) 0 _ _ _ (Nat.zero_le _) ⟨rfl, rfl, (lv_sub hl [0, 1, 2, 3] rfl)⟩
  · obtain ⟨rfl, rfl, hl⟩ := hI1
    refine lv_iload_n hx hb d_D_all_12 rfl (lv_at hl 0 rfl) ?_
    refine lv_bipush (v := 8) hx hb d_D_all_13 (by decide) ?_
    refine lv_icmp_ge (tgt := 63) hx hb d_D_all_15 (by decide) (fun c_1 => absurd c_1 (nI_ge (b := 8) hi (by decide))) (fun _ => ?_)
    refine lv_iconst (v := 0) hx hb d_D_all_18 (by decide) ?_
    refine lv_istore (lv' := [(4, .int 0), (3, .int (nI i)), (2, .int (mv_alr fm (fm (a0 - 16).toNatClampNeg) i)), (0, .ref (r 0)), (1, .int a0)]) hx hb d_D_all_19 hl (by decide) rfl (fun ls hl => ?_)
    refine mr_loop (N := 8) (I := fun j H locs ls => H = s.heap ∧ locs = [] ∧ lv_has ls 5 [(4, .int (nI j)), (2, .int (mv_al fm (mv_alr fm (fm (a0 - 16).toNatClampNeg) i) j)), (3, .int (nI i)), (0, .ref (r 0)), (1, .int a0)]) (fun j H locs ls hj hI ih => ?_) (fun H locs ls hI => ?_) 0 _ _ _ (Nat.zero_le _) ⟨rfl, rfl, (lv_sub hl [0, 2, 1, 3, 4] rfl)⟩
    · obtain ⟨rfl, rfl, hl⟩ := hI
      refine lv_iload hx hb d_D_all_21 (lv_at hl 0 rfl) ?_
      refine lv_bipush (v := 8) hx hb d_D_all_23 (by decide) ?_
      refine lv_icmp_ge (tgt := 57) hx hb d_D_all_25 (by decide) (fun c_2 => absurd c_2 (nI_ge (b := 8) hj (by decide))) (fun _ => ?_)
      refine lv_iload_n hx hb d_D_all_28 rfl (lv_at hl 1 rfl) ?_
      refine lv_bipush (v := 16) hx hb d_D_all_29 (by decide) ?_
      refine lv_iload hx hb d_D_all_31 (lv_at hl 0 rfl) ?_
      refine lv_iadd hx hb d_D_all_33 ?_
      refine lv_ishr hx hb d_D_all_34 ?_
      refine lv_iconst (v := 1) hx hb d_D_all_35 (by decide) ?_
      refine lv_iand hx hb d_D_all_36 ?_
      refine lv_iconst (v := 1) hx hb d_D_all_37 (by decide) ?_
      refine lv_icmp_ne (tgt := 51) hx hb d_D_all_38 (by decide) (fun c_3 => ?_) (fun c_3 => ?_)
      · refine lv_iinc (v := nI (j + 1)) (lv' := [(4, .int (nI (j + 1))), (2, .int (mv_al fm (mv_alr fm (fm (a0 - 16).toNatClampNeg) i) j)), (3, .int (nI i)), (0, .ref (r 0)), (1, .int a0)]) hx hb d_D_all_51 hl (k := 0) rfl ((nI_succ j).symm) (by decide) rfl (fun ls hl => ?_)
        refine lv_goto (tgt := 21) hx hb d_D_all_54 (by decide) ?_
        have e9 : mv_al fm (mv_alr fm (fm (a0 - 16).toNatClampNeg) i) (j + 1) = mv_al fm (mv_alr fm (fm (a0 - 16).toNatClampNeg) i) j := by rw [mv_al_s, if_neg c_3]
        rw [← e9] at hl
        exact ih _ _ _ ⟨rfl, rfl, lv_sub hl [0, 1, 2, 3, 4] rfl⟩
      · refine lv_iload_n hx hb d_D_all_41 rfl (lv_at hl 1 rfl) ?_
        refine lv_aload_n hx hb d_D_all_42 rfl (lv_at hl 3 rfl) ?_
        refine va_get (D := (dC, dI)) (ci := 3) (v := .ref (r 1)) (C := R_D) (T := T_D) (N := 19) hx hb hts ti_D hown hK hP 0 rfl rfl 1 (by decide) (hts (Cond.fieldLink "MeasureRowsModel" 7 "MeasureRowsModel" "members" "[I") mw_87) (fun _ h9 => h9) rfl d_D_all_43 ?_
        refine lv_iload hx hb d_D_all_46 (lv_at hl 0 rfl) ?_
        refine va_iald (D := (dC, dI)) hx hb hK hP 1 0 rfl rfl (i := nI j) (nI_in hj (by decide)) d_D_all_48 ?_
        refine mr_top (show fm (nI j).toNatClampNeg = fm j by rw [nI_clamp (by omega)]) ?_
        refine lv_ior hx hb d_D_all_49 ?_
        refine lv_istore_n (lv' := [(2, .int ((mv_al fm (mv_alr fm (fm (a0 - 16).toNatClampNeg) i) j) ||| (fm j))), (4, .int (nI j)), (3, .int (nI i)), (0, .ref (r 0)), (1, .int a0)]) hx hb d_D_all_50 rfl hl (by decide) rfl (fun ls hl => ?_)
        refine lv_iinc (v := nI (j + 1)) (lv' := [(4, .int (nI (j + 1))), (2, .int ((mv_al fm (mv_alr fm (fm (a0 - 16).toNatClampNeg) i) j) ||| (fm j))), (3, .int (nI i)), (0, .ref (r 0)), (1, .int a0)]) hx hb d_D_all_51 hl (k := 1) rfl ((nI_succ j).symm) (by decide) rfl (fun ls hl => ?_)
        refine lv_goto (tgt := 21) hx hb d_D_all_54 (by decide) ?_
        have e9 : mv_al fm (mv_alr fm (fm (a0 - 16).toNatClampNeg) i) (j + 1) = (mv_al fm (mv_alr fm (fm (a0 - 16).toNatClampNeg) i) j) ||| (fm j) := by rw [mv_al_s, if_pos c_3]
        rw [← e9] at hl
        exact ih _ _ _ ⟨rfl, rfl, lv_sub hl [0, 1, 2, 3, 4] rfl⟩
    · obtain ⟨rfl, rfl, hl⟩ := hI
      refine lv_iload hx hb d_D_all_21 (lv_at hl 0 rfl) ?_
      refine lv_bipush (v := 8) hx hb d_D_all_23 (by decide) ?_
      refine lv_icmp_ge (tgt := 57) hx hb d_D_all_25 (by decide) (fun _ => ?_) (fun c_4 => absurd c_4 (by decide))
      refine lv_iinc (v := nI (i + 1)) (lv' := [(3, .int (nI (i + 1))), (4, .int (nI 8)), (2, .int (mv_al fm (mv_alr fm (fm (a0 - 16).toNatClampNeg) i) 8)), (0, .ref (r 0)), (1, .int a0)]) hx hb d_D_all_57 hl (k := 2) rfl ((nI_succ i).symm) (by decide) rfl (fun ls hl => ?_)
      refine lv_goto (tgt := 12) hx hb d_D_all_60 (by decide) ?_
      rw [← mv_alr_s fm _ i] at hl
      exact ih1 _ _ _ ⟨rfl, rfl, lv_sub hl [0, 2, 3, 4] rfl⟩
  · obtain ⟨rfl, rfl, hl⟩ := hI1
    refine lv_iload_n hx hb d_D_all_12 rfl (lv_at hl 0 rfl) ?_
    refine lv_bipush (v := 8) hx hb d_D_all_13 (by decide) ?_
    refine lv_icmp_ge (tgt := 63) hx hb d_D_all_15 (by decide) (fun _ => ?_) (fun c_5 => absurd c_5 (by decide))
    refine lv_iload_n hx hb d_D_all_63 rfl (lv_at hl 1 rfl) ?_
    exact W.iret (v := mv_alr fm (fm (a0 - 16).toNatClampNeg) 8) hx hb hr (fun t ht _ => ⟨_, rfl, rfl, ht⟩) (fun _ h => nomatch h) d_D_all_64
def mv_D_rings (fm : Nat → Int32) (a0 : Int32) (a1 : Int32) : Int32 := if a0 = a1 then 1 else if (((mv_D_all fm a1) >>> (a0 &&& 31)) &&& 1) = 1 then 1 else 0
theorem mv_D_rings_b (fm : Nat → Int32) (a0 : Int32) (a1 : Int32) : mr_b01 (mv_D_rings fm a0 a1) := (mr_bi mr_b1 (mr_bi mr_b1 mr_b0))
set_option maxHeartbeats 4000000 in
set_option maxRecDepth 100000 in
theorem mc_D_rings (l : Launch) (s0 : State) (dC : Nat → ClassId) (dI : Nat → Nat → Nat) (cI cR cL cZ : ClassId) (r : Nat → Nat) (th rw nw pb lc : Int32) (fm : Nat → Int32) (a0 : Int32) (a1 : Int32) (hg : ¬ mv_D_isGroup a1 = 0) : Met l y_D_rings [Cond.code y_D_rings b_D_rings 3 (some .boolean)] ({ frames := 1, cells := 0, slots := 0, locals := 24 }) (mr_PW s0 (dC, dI) [(cI, .int), (cR, .object "MeasureRows$Row"), (cL, .long), (cZ, .boolean)] [.ref (r 0), .int a0, .int a1] [((r 0), .inr (3, mf_D r th rw nw pb lc)), ((r 1), .inl (cI, 8, .inl fm))]) (vp_Si (fun r => r = mv_D_rings fm a0 a1)) 0 0 (fun _ => False) := by
  refine Met.ofW (cc := b_D_rings) (maxL := 3) (ret := (some .boolean)) (by decide) rfl ?_
  intro p e s m args below meth c s₁ B hml hv
  obtain ⟨rfl, hB, hK, hP⟩ := hv
  have hBH := hB.here
  have hx := B.exec
  have hb := B.bytes
  have hr := B.returns
  have hlocks := B.notSynchronized
  have hts : ∀ w ∈ lw_tbl, w.before [.ref (r 0), .int a0, .int a1].toArray s = true := hB.hts _
  have hown : s.vm.findClass "MeasureRowsModel" = some m.cls := findClass_of_methodNamed B.named
  have hl := lv_entry ([.ref (r 0), .int a0, .int a1]) (n := 3) (Nat.le_of_ble_eq_true rfl)
  rw [lg_entry_eq]
  generalize (lg_sl ([.ref (r 0), .int a0, .int a1]) ++ List.replicate (3 - (lg_sl ([.ref (r 0), .int a0, .int a1])).length) Slot.unset).toArray = ls at hl ⊢
  have hl : lv_has ls 3 [(0, .ref (r 0)), (1, .int a0), (2, .int a1)] := hl
  refine lv_iload_n hx hb d_D_rings_0 rfl (lv_at hl 1 rfl) ?_
  refine lv_iload_n hx hb d_D_rings_1 rfl (lv_at hl 2 rfl) ?_
  refine lv_icmp_eq (tgt := 18) hx hb d_D_rings_2 (by decide) (fun c_1 => ?_) (fun c_1 => ?_)
  · refine lv_iconst (v := 1) hx hb d_D_rings_18 (by decide) ?_
    refine lv_goto (tgt := 23) hx hb d_D_rings_19 (by decide) ?_
    exact W.zret (v := 1) hx hb hr (mr_narz mr_b1) (fun t ht _ => ⟨_, rfl, by unfold mv_D_rings; rw [if_pos c_1], ht⟩) (fun _ h => nomatch h) d_D_rings_23
  · refine lv_aload_n hx hb d_D_rings_5 rfl (lv_at hl 0 rfl) ?_
    refine lv_iload_n hx hb d_D_rings_6 rfl (lv_at hl 2 rfl) ?_
    refine vp_callSi (va_Run.run (va_runV (As := [.int a1]) (rest := []) (C := R_D) ⟨hx, hb, hml, hown, hts⟩ (mc_D_all l s0 dC dI cI cR cL cZ r th rw nw pb lc fm a1 hg) ⟨(mr_cB 1 (hts (Cond.code y_D_all b_D_all 5 (some .int)) mw_88) (hts (Cond.initialized y_D_all.cls) mw_89) (hts (Cond.methodLink "MeasureRowsModel" 63 y_D_all) mw_90) rfl rfl (by decide +kernel) ⟨Nat.le_of_ble_eq_true rfl, Nat.le_of_ble_eq_true rfl⟩), (hts (Cond.instanceMethod y_D_all) mw_91), (hts (Cond.selects "MeasureRowsModel" y_D_all y_D_all) mw_92)⟩ (mr_preV hBH hK (hP.sub (ws' := [((r 0), .inr (3, mf_D r th rw nw pb lc)), ((r 1), .inl (cI, 8, .inl fm))]) [0, 1] rfl) (ci := 3) (q0 := 0) rfl rfl) rfl rfl hl.1 rfl (lv_room (Nat.le_of_ble_eq_true rfl)) d_D_rings_7 ⟨Nat.le_of_ble_eq_true rfl, Nat.le_of_ble_eq_true rfl⟩)) (fun r_2 h_3 => ?_)
    subst h_3
    refine lv_iload_n hx hb d_D_rings_10 rfl (lv_at hl 1 rfl) ?_
    refine lv_ishr hx hb d_D_rings_11 ?_
    refine lv_iconst (v := 1) hx hb d_D_rings_12 (by decide) ?_
    refine lv_iand hx hb d_D_rings_13 ?_
    refine lv_iconst (v := 1) hx hb d_D_rings_14 (by decide) ?_
    refine lv_icmp_ne (tgt := 22) hx hb d_D_rings_15 (by decide) (fun c_4 => ?_) (fun c_4 => ?_)
    · refine lv_iconst (v := 0) hx hb d_D_rings_22 (by decide) ?_
      exact W.zret (v := 0) hx hb hr (mr_narz mr_b0) (fun t ht _ => ⟨_, rfl, by unfold mv_D_rings; rw [if_neg c_1, if_neg c_4], ht⟩) (fun _ h => nomatch h) d_D_rings_23
    · refine lv_iconst (v := 1) hx hb d_D_rings_18 (by decide) ?_
      refine lv_goto (tgt := 23) hx hb d_D_rings_19 (by decide) ?_
      exact W.zret (v := 1) hx hb hr (mr_narz mr_b1) (fun t ht _ => ⟨_, rfl, by unfold mv_D_rings; rw [if_neg c_1, if_pos c_4], ht⟩) (fun _ h => nomatch h) d_D_rings_23
def mv_D_isIn (fm : Nat → Int32) (a0 : Int32) (a1 : Int32) : Int32 := if a1 = 31 then 1 else if a1 = a0 then 1 else if (mv_D_isGroup a1) = 0 then 0 else if (((mv_D_all fm a1) >>> (a0 &&& 31)) &&& 1) = 1 then 1 else 0
theorem mv_D_isIn_b (fm : Nat → Int32) (a0 : Int32) (a1 : Int32) : mr_b01 (mv_D_isIn fm a0 a1) := (mr_bi mr_b1 (mr_bi mr_b1 (mr_bi mr_b0 (mr_bi mr_b1 mr_b0))))
set_option maxHeartbeats 4000000 in
set_option maxRecDepth 100000 in
theorem mc_D_isIn (l : Launch) (s0 : State) (dC : Nat → ClassId) (dI : Nat → Nat → Nat) (cI cR cL cZ : ClassId) (r : Nat → Nat) (th rw nw pb lc : Int32) (fm : Nat → Int32) (a0 : Int32) (a1 : Int32) : Met l y_D_isIn [Cond.code y_D_isIn b_D_isIn 3 (some .boolean)] ({ frames := 2, cells := 0, slots := 0, locals := 42 }) (mr_PW s0 (dC, dI) [(cI, .int), (cR, .object "MeasureRows$Row"), (cL, .long), (cZ, .boolean)] [.ref (r 0), .int a0, .int a1] [((r 0), .inr (3, mf_D r th rw nw pb lc)), ((r 1), .inl (cI, 8, .inl fm))]) (vp_Si (fun r => r = mv_D_isIn fm a0 a1)) 0 0 (fun _ => False) := by
  refine Met.ofW (cc := b_D_isIn) (maxL := 3) (ret := (some .boolean)) (by decide) rfl ?_
  intro p e s m args below meth c s₁ B hml hv
  obtain ⟨rfl, hB, hK, hP⟩ := hv
  have hBH := hB.here
  have hx := B.exec
  have hb := B.bytes
  have hr := B.returns
  have hlocks := B.notSynchronized
  have hts : ∀ w ∈ lw_tbl, w.before [.ref (r 0), .int a0, .int a1].toArray s = true := hB.hts _
  have hown : s.vm.findClass "MeasureRowsModel" = some m.cls := findClass_of_methodNamed B.named
  have hl := lv_entry ([.ref (r 0), .int a0, .int a1]) (n := 3) (Nat.le_of_ble_eq_true rfl)
  rw [lg_entry_eq]
  generalize (lg_sl ([.ref (r 0), .int a0, .int a1]) ++ List.replicate (3 - (lg_sl ([.ref (r 0), .int a0, .int a1])).length) Slot.unset).toArray = ls at hl ⊢
  have hl : lv_has ls 3 [(0, .ref (r 0)), (1, .int a0), (2, .int a1)] := hl
  refine lv_iload_n hx hb d_D_isIn_0 rfl (lv_at hl 2 rfl) ?_
  refine lv_bipush (v := 31) hx hb d_D_isIn_1 (by decide) ?_
  refine lv_icmp_eq (tgt := 31) hx hb d_D_isIn_3 (by decide) (fun c_1 => ?_) (fun c_1 => ?_)
  · refine lv_iconst (v := 1) hx hb d_D_isIn_31 (by decide) ?_
    refine lv_goto (tgt := 36) hx hb d_D_isIn_32 (by decide) ?_
    exact W.zret (v := 1) hx hb hr (mr_narz mr_b1) (fun t ht _ => ⟨_, rfl, by unfold mv_D_isIn; rw [if_pos c_1], ht⟩) (fun _ h => nomatch h) d_D_isIn_36
  · refine lv_iload_n hx hb d_D_isIn_6 rfl (lv_at hl 2 rfl) ?_
    refine lv_iload_n hx hb d_D_isIn_7 rfl (lv_at hl 1 rfl) ?_
    refine lv_icmp_eq (tgt := 31) hx hb d_D_isIn_8 (by decide) (fun c_2 => ?_) (fun c_2 => ?_)
    · refine lv_iconst (v := 1) hx hb d_D_isIn_31 (by decide) ?_
      refine lv_goto (tgt := 36) hx hb d_D_isIn_32 (by decide) ?_
      exact W.zret (v := 1) hx hb hr (mr_narz mr_b1) (fun t ht _ => ⟨_, rfl, by unfold mv_D_isIn; rw [if_neg c_1, if_pos c_2], ht⟩) (fun _ h => nomatch h) d_D_isIn_36
    · refine lv_iload_n hx hb d_D_isIn_11 rfl (lv_at hl 2 rfl) ?_
      refine vp_callSi (va_Run.run (va_runS (As := [.int a1]) (rest := []) ⟨hx, hb, hml, hown, hts⟩ (mc_D_isGroup l s0 a1) ⟨(mr_cB 1 (hts (Cond.code y_D_isGroup b_D_isGroup 1 (some .boolean)) mw_93) (hts (Cond.initialized y_D_isGroup.cls) mw_94) (hts (Cond.methodLink "MeasureRowsModel" 67 y_D_isGroup) mw_95) rfl rfl (by decide +kernel) ⟨Nat.le_of_ble_eq_true rfl, Nat.le_of_ble_eq_true rfl⟩), (hts (Cond.static y_D_isGroup) mw_96)⟩ (mr_pre0 hBH) rfl rfl hl.1 rfl (lv_room (Nat.le_of_ble_eq_true rfl)) d_D_isIn_12 ⟨Nat.le_of_ble_eq_true rfl, Nat.le_of_ble_eq_true rfl⟩)) (fun r_3 h_4 => ?_)
      subst h_4
      refine lv_if_eq (tgt := 35) hx hb d_D_isIn_15 (by decide) (fun c_5 => ?_) (fun c_5 => ?_)
      · refine lv_iconst (v := 0) hx hb d_D_isIn_35 (by decide) ?_
        exact W.zret (v := 0) hx hb hr (mr_narz mr_b0) (fun t ht _ => ⟨_, rfl, by unfold mv_D_isIn; rw [if_neg c_1, if_neg c_2, if_pos c_5], ht⟩) (fun _ h => nomatch h) d_D_isIn_36
      · refine lv_aload_n hx hb d_D_isIn_18 rfl (lv_at hl 0 rfl) ?_
        refine lv_iload_n hx hb d_D_isIn_19 rfl (lv_at hl 2 rfl) ?_
        refine vp_callSi (va_Run.run (va_runV (As := [.int a1]) (rest := []) (C := R_D) ⟨hx, hb, hml, hown, hts⟩ (mc_D_all l s0 dC dI cI cR cL cZ r th rw nw pb lc fm a1 c_5) ⟨(mr_cB 1 (hts (Cond.code y_D_all b_D_all 5 (some .int)) mw_88) (hts (Cond.initialized y_D_all.cls) mw_89) (hts (Cond.methodLink "MeasureRowsModel" 63 y_D_all) mw_90) rfl rfl (by decide +kernel) ⟨Nat.le_of_ble_eq_true rfl, Nat.le_of_ble_eq_true rfl⟩), (hts (Cond.instanceMethod y_D_all) mw_91), (hts (Cond.selects "MeasureRowsModel" y_D_all y_D_all) mw_92)⟩ (mr_preV hBH hK (hP.sub (ws' := [((r 0), .inr (3, mf_D r th rw nw pb lc)), ((r 1), .inl (cI, 8, .inl fm))]) [0, 1] rfl) (ci := 3) (q0 := 0) rfl rfl) rfl rfl hl.1 rfl (lv_room (Nat.le_of_ble_eq_true rfl)) d_D_isIn_20 ⟨Nat.le_of_ble_eq_true rfl, Nat.le_of_ble_eq_true rfl⟩)) (fun r_6 h_7 => ?_)
        subst h_7
        refine lv_iload_n hx hb d_D_isIn_23 rfl (lv_at hl 1 rfl) ?_
        refine lv_ishr hx hb d_D_isIn_24 ?_
        refine lv_iconst (v := 1) hx hb d_D_isIn_25 (by decide) ?_
        refine lv_iand hx hb d_D_isIn_26 ?_
        refine lv_iconst (v := 1) hx hb d_D_isIn_27 (by decide) ?_
        refine lv_icmp_ne (tgt := 35) hx hb d_D_isIn_28 (by decide) (fun c_8 => ?_) (fun c_8 => ?_)
        · refine lv_iconst (v := 0) hx hb d_D_isIn_35 (by decide) ?_
          exact W.zret (v := 0) hx hb hr (mr_narz mr_b0) (fun t ht _ => ⟨_, rfl, by unfold mv_D_isIn; rw [if_neg c_1, if_neg c_2, if_neg c_5, if_neg c_8], ht⟩) (fun _ h => nomatch h) d_D_isIn_36
        · refine lv_iconst (v := 1) hx hb d_D_isIn_31 (by decide) ?_
          refine lv_goto (tgt := 36) hx hb d_D_isIn_32 (by decide) ?_
          exact W.zret (v := 1) hx hb hr (mr_narz mr_b1) (fun t ht _ => ⟨_, rfl, by unfold mv_D_isIn; rw [if_neg c_1, if_neg c_2, if_neg c_5, if_pos c_8], ht⟩) (fun _ h => nomatch h) d_D_isIn_36
end
section
/-! THE LAW'S HELPERS: methods with a table of their own; calls that may throw into it -/
section MRJ
variable {p : Program} {l : Launch} {e : Env} {R : Room} {s : State} {m : MethodId} {args : Array Value} {below : List Frame} {meth : Method} {c : Code} {H : Heap} {locs : List Loc} {cells slots : Nat} {Q : State → Prop}
variable {Qc : Array Value → State → Outcome → State → Prop} {XC : String → Prop} {mc ms : Nat} {free : Addr → Prop} {Pc : Array Value → State → Prop} {rm : Room} {y : MethodName} {hh : List (Nat × Nat × Nat × Nat)}
theorem mr_ofH {cc : ByteArray} {maxL : Nat} {ret : Option FieldType} (hy : plainName y.cls = true)
    (body : ∀ p e s m args below meth c s₁, BodyLoose p l y (headSpec [Cond.codeWith y cc maxL ret hh] rm) cc maxL ret e s m args below meth c s₁ → c.maxLocals = maxL → c.exceptionTable.toList.map (fun h => (h.startPc, h.endPc, h.handlerPc, h.catchType)) = hh → Pc args s →
      W p l e (headSpec [Cond.codeWith y cc maxL ret hh] rm).room s m args below meth c s.heap [] 0 0 (MQ below Qc args s mc ms free) (entryFrame m args maxL)) : Met l y [Cond.codeWith y cc maxL ret hh] rm Pc Qc mc ms free := by
  refine MetFree.of_bodyS (code := cc) (maxLocals := maxL) (ret := ret) hy ?_ ?_
  · intro args s m h hn
    obtain ⟨m', meth, c, h0, h1, h2, h3, h4, -, h5, h6, -⟩ := Cond.codeWith_spec (atoms_spec (ws := [Cond.codeWith y cc maxL ret hh]) h _ List.mem_cons_self)
    cases hn.symm.trans h0
    exact ⟨meth, c, h1, h2, h3, h4, h5, h6⟩
  · intro p e s m args below meth c s₁ B hml hP _
    obtain ⟨m', meth', c', h0, h1, h2, -, -, htab, -, -, -⟩ := Cond.codeWith_spec (atoms_spec (ws := [Cond.codeWith y cc maxL ret hh]) B.pre _ List.mem_cons_self)
    cases B.named.symm.trans h0
    cases B.method.symm.trans h1
    have hcc : c' = c := by
      have h9 := B.here.code
      rw [B.state, State.code?_eq] at h9
      have h8 : (s.vm.method? m).bind (fun z => z.code) = some c := by simpa [State.setFrames] using h9
      rw [h1] at h8
      exact Option.some.inj (h2.symm.trans h8)
    subst hcc
    have hh0 : s₁.heap = s.heap := by rw [B.state]; rfl
    obtain ⟨t, a1, o, b1, b2, b3⟩ := body p e s m args below meth _ s₁ B hml htab hP s₁ hh0 (Stand.of_body B)
    exact ⟨t, o, a1, b1, b2, ⟨b3.1, b3.2⟩⟩
theorem mr_backH {bytes : ByteArray} {maxL : Nat} {ret : Option FieldType} {T : State} (X : Stand p l e R s m args below meth c T locs cells slots) (hM : Met l y [Cond.codeWith y bytes maxL ret hh] rm Pc Qc mc ms free) (hbl : FrameBlind Pc) (hrc : rm.cells = mc) (hrs : rm.slots = ms) (hRf : rm.frames + 1 ≤ R.frames) (hRl : 8 + (maxL + 11) + rm.locals ≤ R.locals)
    (hcode0 : (Cond.codeWith y bytes maxL ret hh).before args s = true) (hini : (Cond.initialized y.cls).before args s = true)
    {g : JFrame} (hg : g.method = m) (hsize : g.locals.size = c.maxLocals) {ig : Instr} (hdg : decode c.code g.pc = .ok (ig, 3)) (hW : 2 * g.monitorRoom + (g.stack.map fun v => v.category).sum ≤ 8) {mk : MethodId} (hn : T.methodNamed? y = some mk) {a : Array Value} (hc : cells + mc ≤ R.cells) (hs : slots + ms ≤ R.slots) (hP : Pc a T) :
    ∃ (v : Option Value) (t T' : State) (L : List Loc), Stand p l e R s m args below meth c T' (locs ++ L) (cells + mc) (slots + ms) ∧ (∀ q ∈ L, free q.base) ∧ T'.heap = t.heap ∧ T'.vm = t.vm ∧ Qc a (T.calling g mk a) (.returned v) t ∧
      Steps p.tables e below (doInvoke e (T.setTop g) [] mk a).1 (T'.setTop { g with pc := g.pc + 3, stack := v.toList ++ g.stack }) := by
  have hcode : (Cond.codeWith y bytes maxL ret hh).before a T = true := word_at X.warmed (Or.inl rfl) hcode0
  have hini' : (Cond.initialized y.cls).before a T = true := word_at X.warmed (Or.inl rfl) hini
  obtain ⟨mY, methY, cY, hnY, hmY, hcY, -, hlY, -, -, -, -⟩ := Cond.codeWith_spec hcode
  cases hn.symm.trans hnY
  obtain ⟨kY, hkY, -⟩ := className_of_methodNamed hn
  have hinitY : kY.init = .initialized := Cond.initialized_spec (findClass_of_methodNamed hn) hkY hini'
  have h : At T g.method c below := by rw [hg]; exact X.here
  have happ : (headSpec [Cond.codeWith y bytes maxL ret hh] rm).appliesLoose y e.platform (T.calling g mk a) = true :=
    Spec.appliesLoose_calling (g := g) h hdg hn hkY hinitY
      (X.room_calling (g := g) (R' := (headSpec [Cond.codeWith y bytes maxL ret hh] rm).room) hsize hmY hcY hRf (by rw [hlY]; show _ + _ + rm.locals ≤ _; omega) (by show cells + rm.cells ≤ _; omega) (by show slots + rm.slots ≤ _; omega)) (atoms_intro fun w hw => by rw [List.mem_singleton.mp hw]; exact hcode)
  have hF : (T.setTop g).frames = .java g :: below := by rw [State.frames_setTop' _ X.here.top, X.tail]
  obtain ⟨o, t, hsteps, -, hend, hq⟩ := Steps.callFree hM p X.admits X.cas X.clock (acts := []) (mid := [.java g]) (below := below) hF happ (hbl _ _ _ _ hP) trivial
  rw [hF] at hend
  obtain ⟨hq, L, ⟨⟨v, rfl⟩, hW2, hsame⟩, hL⟩ := hq
  obtain ⟨T', X', -, hB, rfl⟩ := X.outOf hg hdg hend hW2 hsame
  refine ⟨v, _, T', L, X', hL, ?_, ?_, hq, hsteps⟩
  · rfl
  · rfl
/-- a static call of a method with a table -/
theorem mr_runH {cc bytes : ByteArray} {nL maxL n index pc : Nat} {ret : Option FieldType} {Ts : List Cond} {own : String} {As st0 rest : List Value} {ls : Array Slot} (S : CallFix p m c cc nL s args Ts own) (hM : Met l y [Cond.codeWith y bytes maxL ret hh] rm Pc Qc mc ms free)
    (hcode : (Cond.codeWith y bytes maxL ret hh).before args s = true) (hini : (Cond.initialized y.cls).before args s = true) (hlk : (Cond.methodLink own index y).before args s = true) (hst : (Cond.static y).before args s = true) (hrc : rm.cells = mc) (hrs : rm.slots = ms)
    (hd : y.cls ≠ "java/lang/invoke/MethodHandle" ∧ y.cls ≠ "java/lang/invoke/VarHandle" ∧ (parseMethodDescriptor y.desc).map (fun d => d.parameters.length) = some n) (hR : rm.frames + 1 ≤ R.frames ∧ 8 + (maxL + 11) + rm.locals ≤ R.locals)
    (hp : PreS s H Pc As) (hn : As.length = n) (hsize : ls.size = nL) (hstack : st0 = As.reverse ++ rest) (hW : (rest.map fun v => v.category).sum ≤ 8) (hdg : decode cc pc = .ok (.invokestatic index, 3)) (hf : cells + mc ≤ R.cells ∧ slots + ms ≤ R.slots) :
    va_Run p l e R s m args below meth c H locs cells slots mc ms (F0 m pc ls st0) rest (Qc As.toArray) free := by
  obtain ⟨hexec, hb, hml, hown, -⟩ := S
  obtain ⟨hbl, hPc⟩ := hp
  intro T hT X
  have hd' : decode c.code pc = .ok (.invokestatic index, 3) := by rw [hb]; exact hdg
  obtain ⟨mk, methM, cM, hnamed, hmethM, -, -, -, -, -, -, hsig⟩ := Cond.codeWith_spec hcode
  have hstatic : methM.isStatic = true := Cond.static_spec hnamed hmethM hst
  obtain ⟨kP, hkP, -⟩ := className_of_methodNamed hnamed
  have hinitP : kP.init = .initialized := Cond.initialized_spec (findClass_of_methodNamed hnamed) hkP hini
  have hlen : n = methM.sig.parameters.length := by
    have h9 := hd.2.2
    rw [hsig] at h9
    exact (Option.some.inj h9).symm
  obtain ⟨vm₁, X₁, hstep₁⟩ := X.invokestatic hexec hown hlk hnamed hmethM hstatic hkP hinitP ⟨hd.1, hd.2.1⟩ (g := F0 m pc ls st0) rfl (argsL := As) (rest := rest) (hn.trans hlen) hstack hd'
  obtain ⟨v, t, T', L, X', hL, e1, e2, hq, hs⟩ := mr_backH X₁ hM hbl hrc hrs hR.1 hR.2 hcode hini (g := F0 m pc ls rest) rfl (hsize.trans hml.symm) (ig := .invokestatic index) hd' (by simpa using hW) (X₁.named hnamed) (a := As.toArray) hf.1 hf.2 (hPc (T.setVm vm₁) hT X₁.warmed)
  exact ⟨v, _, t, T', L, (by exact hT), X', hL, e1, e2, hq, fun target hgo => hstep₁ _ fun acts => by rw [doInvoke_state]; exact hs.trans hgo⟩
/-- .. of one that may write or throw -/
theorem mr_callVw {S9 : Type} {post : Int32 → S9 → Prop} {B : S9 → State → Prop} {A0 A1 : Nat → Prop} {H0 : Heap} {ws : List Cond} {cc bytes : ByteArray} {nL maxL n index pc : Nat} {ret : Option FieldType} {Ts : List Cond} {own C : String} {b : Addr} {As st0 rest : List Value} {ls : Array Slot} (S : CallFix p m c cc nL s args Ts own) (hM : mr_Met l y ws rm Pc (va_Qi post B A1) XC mc ms free) (cw : CallW R s args own C index y bytes maxL ret ws rm mc ms n) (hp : PreV s H C b Pc As)
    (hn : As.length = n) (hsize : ls.size = nL) (hstack : st0 = As.reverse ++ .ref b :: rest) (hW : (rest.map fun v => v.category).sum ≤ 8) (hdg : decode cc pc = .ok (.invokevirtual index, 3)) (hf : cells + mc ≤ R.cells ∧ slots + ms ≤ R.slots)
    (hS : va_S A0 H0 H locs) (hA : ∀ q, q < H.size → A1 q → A0 q) (hfr : ∀ q, free q → A0 q)
    (kk : ∀ (r : Int32) (u : S9) (t : State) (H1 : Heap) (locs1 : List Loc), t.heap = H1 → s.vm.Alike t.vm → post r u → B u t → H.size ≤ H1.size → (∀ q : Nat, q < H.size → ¬ A1 q → H1[q]? = H[q]?) → va_S A0 H0 H1 locs1 → W p l e R s m args below meth c H1 locs1 (cells + mc) (slots + ms) Q (F0 m (pc + 3) ls (.int r :: rest)))
    (kx : ∀ E : String, XC E → ∃ pcx : Nat, mr_Row c own args s pc E pcx ∧ ∀ (q : Addr) (H1 : Heap), H.size ≤ H1.size → (∀ a : Nat, a < H.size → H1[a]? = H[a]?) → W p l e R s m args below meth c H1 locs (cells + mc) (slots + ms) Q (F0 m pcx ls [.ref q])) :
    W p l e R s m args below meth c H locs cells slots Q (F0 m pc ls st0) := by
  refine mr_callV S hM cw hp hn hsize hstack hW hdg hf (fun v st₀ t L h0 hal hq hL => ?_) kx
  obtain ⟨⟨r, u, hv, hpo, hB⟩, hz, hk⟩ := hq
  cases hv
  rw [h0] at hz hk
  exact kk r u t t.heap (locs ++ L) rfl hal hpo hB hz hk ⟨Nat.le_trans hS.1 hz, fun q h1 h2 => by rw [hk q (Nat.lt_of_lt_of_le h1 hS.1) (fun z => h2 (hA q (Nat.lt_of_lt_of_le h1 hS.1) z))]; exact hS.2.1 q h1 h2, fun q hq => by
      rcases List.mem_append.mp hq with h | h
      · exact hS.2.2 q h
      · exact hfr _ (hL q h)⟩
end MRJ
/-- the table's rows -/
theorem mr_tab1 {L : List ExceptionTableEntry} {a : Nat × Nat × Nat × Nat} (h : L.map (fun h => (h.startPc, h.endPc, h.handlerPc, h.catchType)) = [a]) : ∃ x, L = [x] ∧ x.startPc = a.1 ∧ x.endPc = a.2.1 ∧ x.handlerPc = a.2.2.1 ∧ x.catchType = a.2.2.2 := by
  match L, h with
  | [x], h => simp at h; subst h; exact ⟨x, rfl, rfl, rfl, rfl, rfl⟩
theorem mr_tab2 {L : List ExceptionTableEntry} {a b : Nat × Nat × Nat × Nat} (h : L.map (fun h => (h.startPc, h.endPc, h.handlerPc, h.catchType)) = [a, b]) : ∃ x z, L = [x, z] ∧ (x.startPc = a.1 ∧ x.endPc = a.2.1 ∧ x.handlerPc = a.2.2.1 ∧ x.catchType = a.2.2.2) ∧ z.startPc = b.1 ∧ z.endPc = b.2.1 ∧ z.handlerPc = b.2.2.1 ∧ z.catchType = b.2.2.2 := by
  match L, h with
  | [x, z], h => simp at h; obtain ⟨h1, h2⟩ := h; subst h1 h2; exact ⟨x, z, rfl, ⟨rfl, rfl, rfl, rfl⟩, rfl, rfl, rfl, rfl⟩
theorem mr_tab3 {L : List ExceptionTableEntry} {a b d : Nat × Nat × Nat × Nat} (h : L.map (fun h => (h.startPc, h.endPc, h.handlerPc, h.catchType)) = [a, b, d]) : ∃ x z w, L = [x, z, w] ∧ (x.startPc = a.1 ∧ x.endPc = a.2.1 ∧ x.handlerPc = a.2.2.1 ∧ x.catchType = a.2.2.2) ∧ (z.startPc = b.1 ∧ z.endPc = b.2.1 ∧ z.handlerPc = b.2.2.1 ∧ z.catchType = b.2.2.2) ∧ w.startPc = d.1 ∧ w.endPc = d.2.1 ∧ w.handlerPc = d.2.2.1 ∧ w.catchType = d.2.2.2 := by
  match L, h with
  | [x, z, w], h => simp at h; obtain ⟨h1, h2, h3⟩ := h; subst h1 h2 h3; exact ⟨x, z, w, rfl, ⟨rfl, rfl, rfl, rfl⟩, ⟨rfl, rfl, rfl, rfl⟩, rfl, rfl, rfl, rfl⟩
theorem mr_B.nc {s0 U : State} (h : mr_B s0 U) : va_Nc mr_ise mr_iae U ∧ va_Nc mr_iae mr_iob U ∧ va_Nc mr_ise mr_iob U := by
  obtain ⟨⟨A, -, -, -, h1, h2, h3⟩, h4, -⟩ := h
  exact ⟨h1.moved h4.alike, h2.moved h4.alike, h3.moved h4.alike⟩
theorem mr_cov {x : ExceptionTableEntry} {a b pc : Nat} (h1 : x.startPc = a) (h2 : x.endPc = b) (h : a ≤ pc ∧ pc < b) : covers x pc = true := by
  simp only [covers, h1, h2, Bool.and_eq_true, decide_eq_true_eq]; exact h
end
section
/-- the last day as of 'on', with j of the told days gone through: (lastDay, latest) -/
def mv_la (ld kd : Nat → Int32) (on : Int32) : Nat → Int32 × Int32
  | 0 => (-1, -1)
  | j + 1 => if kd j ≤ on ∧ (mv_la ld kd on j).2 ≤ kd j then (ld j, kd j) else mv_la ld kd on j
theorem mv_la_y {ld kd : Nat → Int32} {on : Int32} {j : Nat} (h1 : ¬ on < kd j) (h2 : ¬ kd j < (mv_la ld kd on j).2) : mv_la ld kd on (j + 1) = (ld j, kd j) := by
  show (if kd j ≤ on ∧ (mv_la ld kd on j).2 ≤ kd j then (ld j, kd j) else mv_la ld kd on j) = _
  rw [if_pos ⟨Int32.not_lt.mp h1, Int32.not_lt.mp h2⟩]
theorem mv_la_n1 {ld kd : Nat → Int32} {on : Int32} {j : Nat} (h1 : on < kd j) : mv_la ld kd on (j + 1) = mv_la ld kd on j := by
  show (if kd j ≤ on ∧ (mv_la ld kd on j).2 ≤ kd j then (ld j, kd j) else mv_la ld kd on j) = _
  rw [if_neg (fun h => absurd h.1 (Int32.not_le.mpr h1))]
theorem mv_la_n2 {ld kd : Nat → Int32} {on : Int32} {j : Nat} (h2 : kd j < (mv_la ld kd on j).2) : mv_la ld kd on (j + 1) = mv_la ld kd on j := by
  show (if kd j ≤ on ∧ (mv_la ld kd on j).2 ≤ kd j then (ld j, kd j) else mv_la ld kd on j) = _
  rw [if_neg (fun h => absurd h.2 (Int32.not_le.mpr h2))]
theorem mw_97 : Cond.methodLinkNest "MeasureRows$Row" 50 y_M_hasBit "MeasureRows" ∈ lw_tbl := by decide +kernel
theorem mw_98 : Cond.methodLink "MeasureRows$Row" 53 y_I_bitCount ∈ lw_tbl := by decide +kernel
theorem mw_99 : Cond.code y_M_levelOf b_M_levelOf 1 (some .int) ∈ lw_tbl := by decide +kernel
theorem mw_100 : Cond.initialized y_M_levelOf.cls ∈ lw_tbl := by decide +kernel
theorem mw_101 : Cond.methodLinkNest "MeasureRows$Row" 66 y_M_levelOf "MeasureRows" ∈ lw_tbl := by decide +kernel
theorem mw_102 : Cond.static y_M_levelOf ∈ lw_tbl := by decide +kernel
theorem mw_103 : Cond.code y_R_lastDayAsOf b_R_lastDayAsOf 5 (some .int) ∈ lw_tbl := by decide +kernel
theorem mw_104 : Cond.initialized y_R_lastDayAsOf.cls ∈ lw_tbl := by decide +kernel
theorem mw_105 : Cond.methodLink "MeasureRows$Row" 63 y_R_lastDayAsOf ∈ lw_tbl := by decide +kernel
theorem mw_106 : Cond.instanceMethod y_R_lastDayAsOf ∈ lw_tbl := by decide +kernel
theorem mw_107 : Cond.selects "MeasureRows$Row" y_R_lastDayAsOf y_R_lastDayAsOf ∈ lw_tbl := by decide +kernel
theorem mw_108 : Cond.code y_R_meets b_R_meets 4 (some .boolean) ∈ lw_tbl := by decide +kernel
theorem mw_109 : Cond.initialized y_R_meets.cls ∈ lw_tbl := by decide +kernel
theorem mw_110 : Cond.methodLink "MeasureRows$Row" 59 y_R_meets ∈ lw_tbl := by decide +kernel
theorem mw_111 : Cond.instanceMethod y_R_meets ∈ lw_tbl := by decide +kernel
theorem mw_112 : Cond.selects "MeasureRows$Row" y_R_meets y_R_meets ∈ lw_tbl := by decide +kernel
theorem mw_113 : Cond.code y_R_mayMark b_R_mayMark 2 (some .boolean) ∈ lw_tbl := by decide +kernel
theorem mw_114 : Cond.initialized y_R_mayMark.cls ∈ lw_tbl := by decide +kernel
theorem mw_115 : Cond.methodLink "MeasureRows$Row" 46 y_R_mayMark ∈ lw_tbl := by decide +kernel
theorem mw_116 : Cond.static y_R_mayMark ∈ lw_tbl := by decide +kernel
def mv_R_mayMark (a0 : Int32) (a1 : Int32) : Int32 := if (mv_M_hasBit a0 a1) = 0 then (if 4 ≤ (mv_I_bitCount a0) then 0 else 1) else 0
theorem mv_R_mayMark_b (a0 : Int32) (a1 : Int32) : mr_b01 (mv_R_mayMark a0 a1) := (mr_bi (mr_bi mr_b0 mr_b1) mr_b0)
set_option maxHeartbeats 4000000 in
set_option maxRecDepth 100000 in
theorem mc_R_mayMark (l : Launch) (s0 : State) (a0 : Int32) (a1 : Int32) : Met l y_R_mayMark [Cond.code y_R_mayMark b_R_mayMark 2 (some .boolean)] ({ frames := 1, cells := 0, slots := 0, locals := 21 }) (va_Pc [.int a0, .int a1] (fun U => mr_B s0 U)) (vp_Si (fun r => r = mv_R_mayMark a0 a1)) 0 0 (fun _ => False) := by
  refine Met.ofW (cc := b_R_mayMark) (maxL := 2) (ret := (some .boolean)) (by decide) rfl ?_
  intro p e s m args below meth c s₁ B hml hv
  obtain ⟨rfl, hB⟩ := hv
  have hBH := hB.here
  have hx := B.exec
  have hb := B.bytes
  have hr := B.returns
  have hlocks := B.notSynchronized
  have hts : ∀ w ∈ lw_tbl, w.before [.int a0, .int a1].toArray s = true := hB.hts _
  have hown : s.vm.findClass "MeasureRows$Row" = some m.cls := findClass_of_methodNamed B.named
  have hl := lv_entry ([.int a0, .int a1]) (n := 2) (Nat.le_of_ble_eq_true rfl)
  rw [lg_entry_eq]
  generalize (lg_sl ([.int a0, .int a1]) ++ List.replicate (2 - (lg_sl ([.int a0, .int a1])).length) Slot.unset).toArray = ls at hl ⊢
  have hl : lv_has ls 2 [(0, .int a0), (1, .int a1)] := hl
  refine lv_iload_n hx hb d_R_mayMark_0 rfl (lv_at hl 0 rfl) ?_
  refine lv_iload_n hx hb d_R_mayMark_1 rfl (lv_at hl 1 rfl) ?_
  refine vp_callSi (va_Run.run (va_runSN (As := [.int a0, .int a1]) (rest := []) ⟨hx, hb, hml, hown, hts⟩ (mc_M_hasBit l s0 a0 a1) ⟨(mr_cN 2 (hts (Cond.code y_M_hasBit b_M_hasBit 2 (some .boolean)) mw_31) (hts (Cond.initialized y_M_hasBit.cls) mw_32) (hts (Cond.methodLinkNest "MeasureRows$Row" 50 y_M_hasBit "MeasureRows") mw_97) rfl rfl (by decide +kernel) ⟨Nat.le_of_ble_eq_true rfl, Nat.le_of_ble_eq_true rfl⟩), (hts (Cond.static y_M_hasBit) mw_34), trivial⟩ (mr_pre0 hBH) rfl rfl hl.1 rfl (lv_room (Nat.le_of_ble_eq_true rfl)) d_R_mayMark_2 ⟨Nat.le_of_ble_eq_true rfl, Nat.le_of_ble_eq_true rfl⟩)) (fun r_1 h_2 => ?_)
  subst h_2
  refine lv_if_ne (tgt := 20) hx hb d_R_mayMark_5 (by decide) (fun c_3 => ?_) (fun c_3 => ?_)
  · refine lv_iconst (v := 0) hx hb d_R_mayMark_20 (by decide) ?_
    exact W.zret (v := 0) hx hb hr (mr_narz mr_b0) (fun t ht _ => ⟨_, rfl, by unfold mv_R_mayMark; rw [if_neg c_3], ht⟩) (fun _ h => nomatch h) d_R_mayMark_21
  · refine lv_iload_n hx hb d_R_mayMark_8 rfl (lv_at hl 0 rfl) ?_
    refine vp_callSi (va_Run.run (va_runS (As := [.int a0]) (rest := []) ⟨hx, hb, hml, hown, hts⟩ (mc_I_bitCount l s0 a0) ⟨(mr_cB 1 (hts (Cond.code y_I_bitCount b_I_bitCount 1 (some .int)) mw_36) (hts (Cond.initialized y_I_bitCount.cls) mw_37) (hts (Cond.methodLink "MeasureRows$Row" 53 y_I_bitCount) mw_98) rfl rfl (by decide +kernel) ⟨Nat.le_of_ble_eq_true rfl, Nat.le_of_ble_eq_true rfl⟩), (hts (Cond.static y_I_bitCount) mw_39)⟩ (mr_pre0 hBH) rfl rfl hl.1 rfl (lv_room (Nat.le_of_ble_eq_true rfl)) d_R_mayMark_9 ⟨Nat.le_of_ble_eq_true rfl, Nat.le_of_ble_eq_true rfl⟩)) (fun r_4 h_5 => ?_)
    subst h_5
    refine lv_iconst (v := 4) hx hb d_R_mayMark_12 (by decide) ?_
    refine lv_icmp_ge (tgt := 20) hx hb d_R_mayMark_13 (by decide) (fun c_6 => ?_) (fun c_6 => ?_)
    · refine lv_iconst (v := 0) hx hb d_R_mayMark_20 (by decide) ?_
      exact W.zret (v := 0) hx hb hr (mr_narz mr_b0) (fun t ht _ => ⟨_, rfl, by unfold mv_R_mayMark; rw [if_pos c_3, if_pos c_6], ht⟩) (fun _ h => nomatch h) d_R_mayMark_21
    · refine lv_iconst (v := 1) hx hb d_R_mayMark_16 (by decide) ?_
      refine lv_goto (tgt := 21) hx hb d_R_mayMark_17 (by decide) ?_
      exact W.zret (v := 1) hx hb hr (mr_narz mr_b1) (fun t ht _ => ⟨_, rfl, by unfold mv_R_mayMark; rw [if_pos c_3, if_neg c_6], ht⟩) (fun _ h => nomatch h) d_R_mayMark_21
def mv_R_isAlike (vc vp vk vr : Int32) (a0 : Int32) (a1 : Int32) (a2 : Int32) (a3 : Int32) : Int32 := if vc = a0 then (if vp = a1 then (if vk = a2 then (if vr = a3 then 1 else 0) else 0) else 0) else 0
theorem mv_R_isAlike_b (vc vp vk vr : Int32) (a0 : Int32) (a1 : Int32) (a2 : Int32) (a3 : Int32) : mr_b01 (mv_R_isAlike vc vp vk vr a0 a1 a2 a3) := (mr_bi (mr_bi (mr_bi (mr_bi mr_b1 mr_b0) mr_b0) mr_b0) mr_b0)
set_option maxHeartbeats 4000000 in
set_option maxRecDepth 100000 in
theorem mc_R_isAlike (l : Launch) (s0 : State) (dC : Nat → ClassId) (dI : Nat → Nat → Nat) (cI cR cL cZ : ClassId) (q ql qk : Nat) (vc vp vf vk vr vn ve vw vt : Int32) (a0 : Int32) (a1 : Int32) (a2 : Int32) (a3 : Int32) : Met l y_R_isAlike [Cond.code y_R_isAlike b_R_isAlike 5 (some .boolean)] ({ frames := 0, cells := 0, slots := 0, locals := 0 }) (mr_PW s0 (dC, dI) [(cI, .int), (cR, .object "MeasureRows$Row"), (cL, .long), (cZ, .boolean)] [.ref q, .int a0, .int a1, .int a2, .int a3] [(q, .inr (2, [.int vc, .int vp, .int vf, .int vk, .int vr, .int vn, .int ve, .int vw, .int vt, .ref ql, .ref qk]))]) (vp_Si (fun r => r = mv_R_isAlike vc vp vk vr a0 a1 a2 a3)) 0 0 (fun _ => False) := by
  refine Met.ofW (cc := b_R_isAlike) (maxL := 5) (ret := (some .boolean)) (by decide) rfl ?_
  intro p e s m args below meth c s₁ B hml hv
  obtain ⟨rfl, hB, hK, hP⟩ := hv
  have hBH := hB.here
  have hx := B.exec
  have hb := B.bytes
  have hr := B.returns
  have hlocks := B.notSynchronized
  have hts : ∀ w ∈ lw_tbl, w.before [.ref q, .int a0, .int a1, .int a2, .int a3].toArray s = true := hB.hts _
  have hown : s.vm.findClass "MeasureRows$Row" = some m.cls := findClass_of_methodNamed B.named
  have hl := lv_entry ([.ref q, .int a0, .int a1, .int a2, .int a3]) (n := 5) (Nat.le_of_ble_eq_true rfl)
  rw [lg_entry_eq]
  generalize (lg_sl ([.ref q, .int a0, .int a1, .int a2, .int a3]) ++ List.replicate (5 - (lg_sl ([.ref q, .int a0, .int a1, .int a2, .int a3])).length) Slot.unset).toArray = ls at hl ⊢
  have hl : lv_has ls 5 [(0, .ref q), (1, .int a0), (2, .int a1), (3, .int a2), (4, .int a3)] := hl
  refine lv_aload_n hx hb d_R_isAlike_0 rfl (lv_at hl 0 rfl) ?_
  refine va_get (D := (dC, dI)) (ci := 2) (v := .int vc) (C := R_R) (T := T_R) (N := 11) hx hb hts ti_R hown hK hP 0 rfl rfl 0 (by decide) (hts (Cond.fieldLink "MeasureRows$Row" 9 "MeasureRows$Row" "code" "I") mw_65) (fun _ h9 => h9) rfl d_R_isAlike_1 ?_
  refine lv_iload_n hx hb d_R_isAlike_4 rfl (lv_at hl 1 rfl) ?_
  refine lv_icmp_ne (tgt := 37) hx hb d_R_isAlike_5 (by decide) (fun c_1 => ?_) (fun c_1 => ?_)
  · refine lv_iconst (v := 0) hx hb d_R_isAlike_37 (by decide) ?_
    exact W.zret (v := 0) hx hb hr (mr_narz mr_b0) (fun t ht _ => ⟨_, rfl, by unfold mv_R_isAlike; rw [if_neg c_1], ht⟩) (fun _ h => nomatch h) d_R_isAlike_38
  · refine lv_aload_n hx hb d_R_isAlike_8 rfl (lv_at hl 0 rfl) ?_
    refine va_get (D := (dC, dI)) (ci := 2) (v := .int vp) (C := R_R) (T := T_R) (N := 11) hx hb hts ti_R hown hK hP 0 rfl rfl 1 (by decide) (hts (Cond.fieldLink "MeasureRows$Row" 15 "MeasureRows$Row" "place" "I") mw_66) (fun _ h9 => h9) rfl d_R_isAlike_9 ?_
    refine lv_iload_n hx hb d_R_isAlike_12 rfl (lv_at hl 2 rfl) ?_
    refine lv_icmp_ne (tgt := 37) hx hb d_R_isAlike_13 (by decide) (fun c_2 => ?_) (fun c_2 => ?_)
    · refine lv_iconst (v := 0) hx hb d_R_isAlike_37 (by decide) ?_
      exact W.zret (v := 0) hx hb hr (mr_narz mr_b0) (fun t ht _ => ⟨_, rfl, by unfold mv_R_isAlike; rw [if_pos c_1, if_neg c_2], ht⟩) (fun _ h => nomatch h) d_R_isAlike_38
    · refine lv_aload_n hx hb d_R_isAlike_16 rfl (lv_at hl 0 rfl) ?_
      refine va_get (D := (dC, dI)) (ci := 2) (v := .int vk) (C := R_R) (T := T_R) (N := 11) hx hb hts ti_R hown hK hP 0 rfl rfl 3 (by decide) (hts (Cond.fieldLink "MeasureRows$Row" 21 "MeasureRows$Row" "kind" "I") mw_68) (fun _ h9 => h9) rfl d_R_isAlike_17 ?_
      refine lv_iload_n hx hb d_R_isAlike_20 rfl (lv_at hl 3 rfl) ?_
      refine lv_icmp_ne (tgt := 37) hx hb d_R_isAlike_21 (by decide) (fun c_3 => ?_) (fun c_3 => ?_)
      · refine lv_iconst (v := 0) hx hb d_R_isAlike_37 (by decide) ?_
        exact W.zret (v := 0) hx hb hr (mr_narz mr_b0) (fun t ht _ => ⟨_, rfl, by unfold mv_R_isAlike; rw [if_pos c_1, if_pos c_2, if_neg c_3], ht⟩) (fun _ h => nomatch h) d_R_isAlike_38
      · refine lv_aload_n hx hb d_R_isAlike_24 rfl (lv_at hl 0 rfl) ?_
        refine va_get (D := (dC, dI)) (ci := 2) (v := .int vr) (C := R_R) (T := T_R) (N := 11) hx hb hts ti_R hown hK hP 0 rfl rfl 4 (by decide) (hts (Cond.fieldLink "MeasureRows$Row" 24 "MeasureRows$Row" "rank" "I") mw_69) (fun _ h9 => h9) rfl d_R_isAlike_25 ?_
        refine lv_iload hx hb d_R_isAlike_28 (lv_at hl 4 rfl) ?_
        refine lv_icmp_ne (tgt := 37) hx hb d_R_isAlike_30 (by decide) (fun c_4 => ?_) (fun c_4 => ?_)
        · refine lv_iconst (v := 0) hx hb d_R_isAlike_37 (by decide) ?_
          exact W.zret (v := 0) hx hb hr (mr_narz mr_b0) (fun t ht _ => ⟨_, rfl, by unfold mv_R_isAlike; rw [if_pos c_1, if_pos c_2, if_pos c_3, if_neg c_4], ht⟩) (fun _ h => nomatch h) d_R_isAlike_38
        · refine lv_iconst (v := 1) hx hb d_R_isAlike_33 (by decide) ?_
          refine lv_goto (tgt := 38) hx hb d_R_isAlike_34 (by decide) ?_
          exact W.zret (v := 1) hx hb hr (mr_narz mr_b1) (fun t ht _ => ⟨_, rfl, by unfold mv_R_isAlike; rw [if_pos c_1, if_pos c_2, if_pos c_3, if_pos c_4], ht⟩) (fun _ h => nomatch h) d_R_isAlike_38
def mv_R_leavesOut (ve : Int32) (a0 : Int32) : Int32 := (mv_M_hasBit ve a0)
theorem mv_R_leavesOut_b (ve : Int32) (a0 : Int32) : mr_b01 (mv_R_leavesOut ve a0) := (mv_M_hasBit_b ve a0)
set_option maxHeartbeats 4000000 in
set_option maxRecDepth 100000 in
theorem mc_R_leavesOut (l : Launch) (s0 : State) (dC : Nat → ClassId) (dI : Nat → Nat → Nat) (cI cR cL cZ : ClassId) (q ql qk : Nat) (vc vp vf vk vr vn ve vw vt : Int32) (a0 : Int32) : Met l y_R_leavesOut [Cond.code y_R_leavesOut b_R_leavesOut 2 (some .boolean)] ({ frames := 1, cells := 0, slots := 0, locals := 21 }) (mr_PW s0 (dC, dI) [(cI, .int), (cR, .object "MeasureRows$Row"), (cL, .long), (cZ, .boolean)] [.ref q, .int a0] [(q, .inr (2, [.int vc, .int vp, .int vf, .int vk, .int vr, .int vn, .int ve, .int vw, .int vt, .ref ql, .ref qk]))]) (vp_Si (fun r => r = mv_R_leavesOut ve a0)) 0 0 (fun _ => False) := by
  refine Met.ofW (cc := b_R_leavesOut) (maxL := 2) (ret := (some .boolean)) (by decide) rfl ?_
  intro p e s m args below meth c s₁ B hml hv
  obtain ⟨rfl, hB, hK, hP⟩ := hv
  have hBH := hB.here
  have hx := B.exec
  have hb := B.bytes
  have hr := B.returns
  have hlocks := B.notSynchronized
  have hts : ∀ w ∈ lw_tbl, w.before [.ref q, .int a0].toArray s = true := hB.hts _
  have hown : s.vm.findClass "MeasureRows$Row" = some m.cls := findClass_of_methodNamed B.named
  have hl := lv_entry ([.ref q, .int a0]) (n := 2) (Nat.le_of_ble_eq_true rfl)
  rw [lg_entry_eq]
  generalize (lg_sl ([.ref q, .int a0]) ++ List.replicate (2 - (lg_sl ([.ref q, .int a0])).length) Slot.unset).toArray = ls at hl ⊢
  have hl : lv_has ls 2 [(0, .ref q), (1, .int a0)] := hl
  refine lv_aload_n hx hb d_R_leavesOut_0 rfl (lv_at hl 0 rfl) ?_
  refine va_get (D := (dC, dI)) (ci := 2) (v := .int ve) (C := R_R) (T := T_R) (N := 11) hx hb hts ti_R hown hK hP 0 rfl rfl 6 (by decide) (hts (Cond.fieldLink "MeasureRows$Row" 30 "MeasureRows$Row" "excluded" "I") mw_71) (fun _ h9 => h9) rfl d_R_leavesOut_1 ?_
  refine lv_iload_n hx hb d_R_leavesOut_4 rfl (lv_at hl 1 rfl) ?_
  refine vp_callSi (va_Run.run (va_runSN (As := [.int ve, .int a0]) (rest := []) ⟨hx, hb, hml, hown, hts⟩ (mc_M_hasBit l s0 ve a0) ⟨(mr_cN 2 (hts (Cond.code y_M_hasBit b_M_hasBit 2 (some .boolean)) mw_31) (hts (Cond.initialized y_M_hasBit.cls) mw_32) (hts (Cond.methodLinkNest "MeasureRows$Row" 50 y_M_hasBit "MeasureRows") mw_97) rfl rfl (by decide +kernel) ⟨Nat.le_of_ble_eq_true rfl, Nat.le_of_ble_eq_true rfl⟩), (hts (Cond.static y_M_hasBit) mw_34), trivial⟩ (mr_pre0 hBH) rfl rfl hl.1 rfl (lv_room (Nat.le_of_ble_eq_true rfl)) d_R_leavesOut_5 ⟨Nat.le_of_ble_eq_true rfl, Nat.le_of_ble_eq_true rfl⟩)) (fun r_1 h_2 => ?_)
  subst h_2
  exact W.zret (v := mv_M_hasBit ve a0) hx hb hr (mr_narz (mv_M_hasBit_b ve a0)) (fun t ht _ => ⟨_, rfl, rfl, ht⟩) (fun _ h => nomatch h) d_R_leavesOut_8
def mv_R_isContentWith (vw : Int32) (a0 : Int32) : Int32 := if vw = 0 then 1 else if (vw &&& a0) = 0 then 0 else 1
theorem mv_R_isContentWith_b (vw : Int32) (a0 : Int32) : mr_b01 (mv_R_isContentWith vw a0) := (mr_bi mr_b1 (mr_bi mr_b0 mr_b1))
set_option maxHeartbeats 4000000 in
set_option maxRecDepth 100000 in
theorem mc_R_isContentWith (l : Launch) (s0 : State) (dC : Nat → ClassId) (dI : Nat → Nat → Nat) (cI cR cL cZ : ClassId) (q ql qk : Nat) (vc vp vf vk vr vn ve vw vt : Int32) (a0 : Int32) : Met l y_R_isContentWith [Cond.code y_R_isContentWith b_R_isContentWith 2 (some .boolean)] ({ frames := 0, cells := 0, slots := 0, locals := 0 }) (mr_PW s0 (dC, dI) [(cI, .int), (cR, .object "MeasureRows$Row"), (cL, .long), (cZ, .boolean)] [.ref q, .int a0] [(q, .inr (2, [.int vc, .int vp, .int vf, .int vk, .int vr, .int vn, .int ve, .int vw, .int vt, .ref ql, .ref qk]))]) (vp_Si (fun r => r = mv_R_isContentWith vw a0)) 0 0 (fun _ => False) := by
  refine Met.ofW (cc := b_R_isContentWith) (maxL := 2) (ret := (some .boolean)) (by decide) rfl ?_
  intro p e s m args below meth c s₁ B hml hv
  obtain ⟨rfl, hB, hK, hP⟩ := hv
  have hBH := hB.here
  have hx := B.exec
  have hb := B.bytes
  have hr := B.returns
  have hlocks := B.notSynchronized
  have hts : ∀ w ∈ lw_tbl, w.before [.ref q, .int a0].toArray s = true := hB.hts _
  have hown : s.vm.findClass "MeasureRows$Row" = some m.cls := findClass_of_methodNamed B.named
  have hl := lv_entry ([.ref q, .int a0]) (n := 2) (Nat.le_of_ble_eq_true rfl)
  rw [lg_entry_eq]
  generalize (lg_sl ([.ref q, .int a0]) ++ List.replicate (2 - (lg_sl ([.ref q, .int a0])).length) Slot.unset).toArray = ls at hl ⊢
  have hl : lv_has ls 2 [(0, .ref q), (1, .int a0)] := hl
  refine lv_aload_n hx hb d_R_isContentWith_0 rfl (lv_at hl 0 rfl) ?_
  refine va_get (D := (dC, dI)) (ci := 2) (v := .int vw) (C := R_R) (T := T_R) (N := 11) hx hb hts ti_R hown hK hP 0 rfl rfl 7 (by decide) (hts (Cond.fieldLink "MeasureRows$Row" 33 "MeasureRows$Row" "wanted" "I") mw_72) (fun _ h9 => h9) rfl d_R_isContentWith_1 ?_
  refine lv_if_eq (tgt := 16) hx hb d_R_isContentWith_4 (by decide) (fun c_1 => ?_) (fun c_1 => ?_)
  · refine lv_iconst (v := 1) hx hb d_R_isContentWith_16 (by decide) ?_
    refine lv_goto (tgt := 21) hx hb d_R_isContentWith_17 (by decide) ?_
    exact W.zret (v := 1) hx hb hr (mr_narz mr_b1) (fun t ht _ => ⟨_, rfl, by unfold mv_R_isContentWith; rw [if_pos c_1], ht⟩) (fun _ h => nomatch h) d_R_isContentWith_21
  · refine lv_aload_n hx hb d_R_isContentWith_7 rfl (lv_at hl 0 rfl) ?_
    refine va_get (D := (dC, dI)) (ci := 2) (v := .int vw) (C := R_R) (T := T_R) (N := 11) hx hb hts ti_R hown hK hP 0 rfl rfl 7 (by decide) (hts (Cond.fieldLink "MeasureRows$Row" 33 "MeasureRows$Row" "wanted" "I") mw_72) (fun _ h9 => h9) rfl d_R_isContentWith_8 ?_
    refine lv_iload_n hx hb d_R_isContentWith_11 rfl (lv_at hl 1 rfl) ?_
    refine lv_iand hx hb d_R_isContentWith_12 ?_
    refine lv_if_eq (tgt := 20) hx hb d_R_isContentWith_13 (by decide) (fun c_2 => ?_) (fun c_2 => ?_)
    · refine lv_iconst (v := 0) hx hb d_R_isContentWith_20 (by decide) ?_
      exact W.zret (v := 0) hx hb hr (mr_narz mr_b0) (fun t ht _ => ⟨_, rfl, by unfold mv_R_isContentWith; rw [if_neg c_1, if_pos c_2], ht⟩) (fun _ h => nomatch h) d_R_isContentWith_21
    · refine lv_iconst (v := 1) hx hb d_R_isContentWith_16 (by decide) ?_
      refine lv_goto (tgt := 21) hx hb d_R_isContentWith_17 (by decide) ?_
      exact W.zret (v := 1) hx hb hr (mr_narz mr_b1) (fun t ht _ => ⟨_, rfl, by unfold mv_R_isContentWith; rw [if_neg c_1, if_neg c_2], ht⟩) (fun _ h => nomatch h) d_R_isContentWith_21
def mv_R_weight (vc vr : Int32) : Int32 := (((mv_M_levelOf vc) * 10) + vr)
set_option maxHeartbeats 4000000 in
set_option maxRecDepth 100000 in
theorem mc_R_weight (l : Launch) (s0 : State) (dC : Nat → ClassId) (dI : Nat → Nat → Nat) (cI cR cL cZ : ClassId) (q ql qk : Nat) (vc vp vf vk vr vn ve vw vt : Int32)  : Met l y_R_weight [Cond.code y_R_weight b_R_weight 1 (some .int)] ({ frames := 1, cells := 0, slots := 0, locals := 20 }) (mr_PW s0 (dC, dI) [(cI, .int), (cR, .object "MeasureRows$Row"), (cL, .long), (cZ, .boolean)] [.ref q] [(q, .inr (2, [.int vc, .int vp, .int vf, .int vk, .int vr, .int vn, .int ve, .int vw, .int vt, .ref ql, .ref qk]))]) (vp_Si (fun r => r = mv_R_weight vc vr )) 0 0 (fun _ => False) := by
  refine Met.ofW (cc := b_R_weight) (maxL := 1) (ret := (some .int)) (by decide) rfl ?_
  intro p e s m args below meth c s₁ B hml hv
  obtain ⟨rfl, hB, hK, hP⟩ := hv
  have hBH := hB.here
  have hx := B.exec
  have hb := B.bytes
  have hr := B.returns
  have hlocks := B.notSynchronized
  have hts : ∀ w ∈ lw_tbl, w.before [.ref q].toArray s = true := hB.hts _
  have hown : s.vm.findClass "MeasureRows$Row" = some m.cls := findClass_of_methodNamed B.named
  have hl := lv_entry ([.ref q]) (n := 1) (Nat.le_of_ble_eq_true rfl)
  rw [lg_entry_eq]
  generalize (lg_sl ([.ref q]) ++ List.replicate (1 - (lg_sl ([.ref q])).length) Slot.unset).toArray = ls at hl ⊢
  have hl : lv_has ls 1 [(0, .ref q)] := hl
  refine lv_aload_n hx hb d_R_weight_0 rfl (lv_at hl 0 rfl) ?_
  refine va_get (D := (dC, dI)) (ci := 2) (v := .int vc) (C := R_R) (T := T_R) (N := 11) hx hb hts ti_R hown hK hP 0 rfl rfl 0 (by decide) (hts (Cond.fieldLink "MeasureRows$Row" 9 "MeasureRows$Row" "code" "I") mw_65) (fun _ h9 => h9) rfl d_R_weight_1 ?_
  refine vp_callSi (va_Run.run (va_runSN (As := [.int vc]) (rest := []) ⟨hx, hb, hml, hown, hts⟩ (mc_M_levelOf l s0 vc) ⟨(mr_cN 1 (hts (Cond.code y_M_levelOf b_M_levelOf 1 (some .int)) mw_99) (hts (Cond.initialized y_M_levelOf.cls) mw_100) (hts (Cond.methodLinkNest "MeasureRows$Row" 66 y_M_levelOf "MeasureRows") mw_101) rfl rfl (by decide +kernel) ⟨Nat.le_of_ble_eq_true rfl, Nat.le_of_ble_eq_true rfl⟩), (hts (Cond.static y_M_levelOf) mw_102), trivial⟩ (mr_pre0 hBH) rfl rfl hl.1 rfl (lv_room (Nat.le_of_ble_eq_true rfl)) d_R_weight_4 ⟨Nat.le_of_ble_eq_true rfl, Nat.le_of_ble_eq_true rfl⟩)) (fun r_1 h_2 => ?_)
  subst h_2
  refine lv_bipush (v := 10) hx hb d_R_weight_7 (by decide) ?_
  refine lv_imul hx hb d_R_weight_9 ?_
  refine lv_aload_n hx hb d_R_weight_10 rfl (lv_at hl 0 rfl) ?_
  refine va_get (D := (dC, dI)) (ci := 2) (v := .int vr) (C := R_R) (T := T_R) (N := 11) hx hb hts ti_R hown hK hP 0 rfl rfl 4 (by decide) (hts (Cond.fieldLink "MeasureRows$Row" 24 "MeasureRows$Row" "rank" "I") mw_69) (fun _ h9 => h9) rfl d_R_weight_11 ?_
  refine lv_iadd hx hb d_R_weight_14 ?_
  exact W.iret (v := ((mv_M_levelOf vc) * 10) + vr) hx hb hr (fun t ht _ => ⟨_, rfl, rfl, ht⟩) (fun _ h => nomatch h) d_R_weight_15
def mv_R_lastDayAsOf (t : Nat) (ld kd : Nat → Int32) (a0 : Int32) : Int32 := (mv_la ld kd a0 t).1
set_option maxHeartbeats 4000000 in
set_option maxRecDepth 100000 in
theorem mc_R_lastDayAsOf (l : Launch) (s0 : State) (dC : Nat → ClassId) (dI : Nat → Nat → Nat) (cI cR cL cZ : ClassId) (q ql qk : Nat) (vc vp vf vk vr vn ve vw : Int32) (t : Nat) (ld kd : Nat → Int32) (a0 : Int32) (ht : t ≤ 8) : Met l y_R_lastDayAsOf [Cond.code y_R_lastDayAsOf b_R_lastDayAsOf 5 (some .int)] ({ frames := 0, cells := 0, slots := 0, locals := 0 }) (mr_PW s0 (dC, dI) [(cI, .int), (cR, .object "MeasureRows$Row"), (cL, .long), (cZ, .boolean)] [.ref q, .int a0] [(q, .inr (2, [.int vc, .int vp, .int vf, .int vk, .int vr, .int vn, .int ve, .int vw, .int (nI t), .ref ql, .ref qk])), (ql, .inl (cI, 8, .inl ld)), (qk, .inl (cI, 8, .inl kd))]) (vp_Si (fun r => r = mv_R_lastDayAsOf t ld kd a0)) 0 0 (fun _ => False) := by
  refine Met.ofW (cc := b_R_lastDayAsOf) (maxL := 5) (ret := (some .int)) (by decide) rfl ?_
  intro p e s m args below meth c s₁ B hml hv
  obtain ⟨rfl, hB, hK, hP⟩ := hv
  have hBH := hB.here
  have hx := B.exec
  have hb := B.bytes
  have hr := B.returns
  have hlocks := B.notSynchronized
  have hts : ∀ w ∈ lw_tbl, w.before [.ref q, .int a0].toArray s = true := hB.hts _
  have hown : s.vm.findClass "MeasureRows$Row" = some m.cls := findClass_of_methodNamed B.named
  have hl := lv_entry ([.ref q, .int a0]) (n := 5) (Nat.le_of_ble_eq_true rfl)
  rw [lg_entry_eq]
  generalize (lg_sl ([.ref q, .int a0]) ++ List.replicate (5 - (lg_sl ([.ref q, .int a0])).length) Slot.unset).toArray = ls at hl ⊢
  have hl : lv_has ls 5 [(0, .ref q), (1, .int a0)] := hl
  refine lv_iconst (v := (-1)) hx hb d_R_lastDayAsOf_0 (by decide) ?_
  refine lv_istore_n (lv' := [(2, .int (-1)), (0, .ref q), (1, .int a0)]) hx hb d_R_lastDayAsOf_1 rfl hl (by decide) rfl (fun ls hl => ?_)
  refine lv_iconst (v := (-1)) hx hb d_R_lastDayAsOf_2 (by decide) ?_
  refine lv_istore_n (lv' := [(3, .int (-1)), (2, .int (-1)), (0, .ref q), (1, .int a0)]) hx hb d_R_lastDayAsOf_3 rfl hl (by decide) rfl (fun ls hl => ?_)
  refine lv_iconst (v := 0) hx hb d_R_lastDayAsOf_4 (by decide) ?_
  refine lv_istore (lv' := [(4, .int 0), (3, .int (-1)), (2, .int (-1)), (0, .ref q), (1, .int a0)]) hx hb d_R_lastDayAsOf_5 hl (by decide) rfl (fun ls hl => ?_)
  refine mr_loop (N := t) (I := fun j H locs ls => H = s.heap ∧ locs = [] ∧ lv_has ls 5 [(4, .int (nI j)), (2, .int ((mv_la ld kd a0 j).1)), (3, .int ((mv_la ld kd a0 j).2)), (0, .ref q), (1, .int a0)]) (fun j H locs ls hj hI ih => ?_) (fun H locs ls hI => ?_) 0 _ _ _ (Nat.zero_le _) ⟨rfl, rfl, (lv_sub hl [0, 2, 1, 3, 4] rfl)⟩
  · obtain ⟨rfl, rfl, hl⟩ := hI
    refine lv_iload hx hb d_R_lastDayAsOf_7 (lv_at hl 0 rfl) ?_
    refine lv_aload_n hx hb d_R_lastDayAsOf_9 rfl (lv_at hl 3 rfl) ?_
    refine va_get (D := (dC, dI)) (ci := 2) (v := .int (nI t)) (C := R_R) (T := T_R) (N := 11) hx hb hts ti_R hown hK hP 0 rfl rfl 8 (by decide) (hts (Cond.fieldLink "MeasureRows$Row" 43 "MeasureRows$Row" "told" "I") mw_75) (fun _ h9 => h9) rfl d_R_lastDayAsOf_10 ?_
    refine lv_icmp_ge (tgt := 60) hx hb d_R_lastDayAsOf_13 (by decide) (fun c_1 => absurd c_1 (nI_ge hj (by omega))) (fun _ => ?_)
    refine lv_aload_n hx hb d_R_lastDayAsOf_16 rfl (lv_at hl 3 rfl) ?_
    refine va_get (D := (dC, dI)) (ci := 2) (v := .ref qk) (C := R_R) (T := T_R) (N := 11) hx hb hts ti_R hown hK hP 0 rfl rfl 10 (by decide) (hts (Cond.fieldLink "MeasureRows$Row" 40 "MeasureRows$Row" "knownDays" "[I") mw_74) (fun _ h9 => h9) rfl d_R_lastDayAsOf_17 ?_
    refine lv_iload hx hb d_R_lastDayAsOf_20 (lv_at hl 0 rfl) ?_
    refine va_iald (D := (dC, dI)) hx hb hK hP 2 0 rfl rfl (i := nI j) (nI_in (Nat.lt_of_lt_of_le hj ht) (by decide)) d_R_lastDayAsOf_22 ?_
    refine mr_top (show kd (nI j).toNatClampNeg = kd j by rw [nI_clamp (by omega)]) ?_
    refine lv_iload_n hx hb d_R_lastDayAsOf_23 rfl (lv_at hl 4 rfl) ?_
    refine lv_icmp_gt (tgt := 54) hx hb d_R_lastDayAsOf_24 (by decide) (fun c_2 => ?_) (fun c_2 => ?_)
    · refine lv_iinc (v := nI (j + 1)) (lv' := [(4, .int (nI (j + 1))), (2, .int ((mv_la ld kd a0 j).1)), (3, .int ((mv_la ld kd a0 j).2)), (0, .ref q), (1, .int a0)]) hx hb d_R_lastDayAsOf_54 hl (k := 0) rfl ((nI_succ j).symm) (by decide) rfl (fun ls hl => ?_)
      refine lv_goto (tgt := 7) hx hb d_R_lastDayAsOf_57 (by decide) ?_
      have e9 := mv_la_n1 (ld := ld) c_2
      exact ih _ _ _ ⟨rfl, rfl, by rw [e9]; exact lv_sub hl [0, 1, 2, 3, 4] rfl⟩
    · refine lv_aload_n hx hb d_R_lastDayAsOf_27 rfl (lv_at hl 3 rfl) ?_
      refine va_get (D := (dC, dI)) (ci := 2) (v := .ref qk) (C := R_R) (T := T_R) (N := 11) hx hb hts ti_R hown hK hP 0 rfl rfl 10 (by decide) (hts (Cond.fieldLink "MeasureRows$Row" 40 "MeasureRows$Row" "knownDays" "[I") mw_74) (fun _ h9 => h9) rfl d_R_lastDayAsOf_28 ?_
      refine lv_iload hx hb d_R_lastDayAsOf_31 (lv_at hl 0 rfl) ?_
      refine va_iald (D := (dC, dI)) hx hb hK hP 2 0 rfl rfl (i := nI j) (nI_in (Nat.lt_of_lt_of_le hj ht) (by decide)) d_R_lastDayAsOf_33 ?_
      refine mr_top (show kd (nI j).toNatClampNeg = kd j by rw [nI_clamp (by omega)]) ?_
      refine lv_iload_n hx hb d_R_lastDayAsOf_34 rfl (lv_at hl 2 rfl) ?_
      refine lv_icmp_lt (tgt := 54) hx hb d_R_lastDayAsOf_35 (by decide) (fun c_3 => ?_) (fun c_3 => ?_)
      · refine lv_iinc (v := nI (j + 1)) (lv' := [(4, .int (nI (j + 1))), (2, .int ((mv_la ld kd a0 j).1)), (3, .int ((mv_la ld kd a0 j).2)), (0, .ref q), (1, .int a0)]) hx hb d_R_lastDayAsOf_54 hl (k := 0) rfl ((nI_succ j).symm) (by decide) rfl (fun ls hl => ?_)
        refine lv_goto (tgt := 7) hx hb d_R_lastDayAsOf_57 (by decide) ?_
        have e9 := mv_la_n2 (ld := ld) c_3
        exact ih _ _ _ ⟨rfl, rfl, by rw [e9]; exact lv_sub hl [0, 1, 2, 3, 4] rfl⟩
      · refine lv_aload_n hx hb d_R_lastDayAsOf_38 rfl (lv_at hl 3 rfl) ?_
        refine va_get (D := (dC, dI)) (ci := 2) (v := .ref qk) (C := R_R) (T := T_R) (N := 11) hx hb hts ti_R hown hK hP 0 rfl rfl 10 (by decide) (hts (Cond.fieldLink "MeasureRows$Row" 40 "MeasureRows$Row" "knownDays" "[I") mw_74) (fun _ h9 => h9) rfl d_R_lastDayAsOf_39 ?_
        refine lv_iload hx hb d_R_lastDayAsOf_42 (lv_at hl 0 rfl) ?_
        refine va_iald (D := (dC, dI)) hx hb hK hP 2 0 rfl rfl (i := nI j) (nI_in (Nat.lt_of_lt_of_le hj ht) (by decide)) d_R_lastDayAsOf_44 ?_
        refine mr_top (show kd (nI j).toNatClampNeg = kd j by rw [nI_clamp (by omega)]) ?_
        refine lv_istore_n (lv' := [(3, .int (kd j)), (4, .int (nI j)), (2, .int ((mv_la ld kd a0 j).1)), (0, .ref q), (1, .int a0)]) hx hb d_R_lastDayAsOf_45 rfl hl (by decide) rfl (fun ls hl => ?_)
        refine lv_aload_n hx hb d_R_lastDayAsOf_46 rfl (lv_at hl 3 rfl) ?_
        refine va_get (D := (dC, dI)) (ci := 2) (v := .ref ql) (C := R_R) (T := T_R) (N := 11) hx hb hts ti_R hown hK hP 0 rfl rfl 9 (by decide) (hts (Cond.fieldLink "MeasureRows$Row" 36 "MeasureRows$Row" "lastDays" "[I") mw_73) (fun _ h9 => h9) rfl d_R_lastDayAsOf_47 ?_
        refine lv_iload hx hb d_R_lastDayAsOf_50 (lv_at hl 1 rfl) ?_
        refine va_iald (D := (dC, dI)) hx hb hK hP 1 0 rfl rfl (i := nI j) (nI_in (Nat.lt_of_lt_of_le hj ht) (by decide)) d_R_lastDayAsOf_52 ?_
        refine mr_top (show ld (nI j).toNatClampNeg = ld j by rw [nI_clamp (by omega)]) ?_
        refine lv_istore_n (lv' := [(2, .int (ld j)), (3, .int (kd j)), (4, .int (nI j)), (0, .ref q), (1, .int a0)]) hx hb d_R_lastDayAsOf_53 rfl hl (by decide) rfl (fun ls hl => ?_)
        refine lv_iinc (v := nI (j + 1)) (lv' := [(4, .int (nI (j + 1))), (2, .int (ld j)), (3, .int (kd j)), (0, .ref q), (1, .int a0)]) hx hb d_R_lastDayAsOf_54 hl (k := 2) rfl ((nI_succ j).symm) (by decide) rfl (fun ls hl => ?_)
        refine lv_goto (tgt := 7) hx hb d_R_lastDayAsOf_57 (by decide) ?_
        have e9 := mv_la_y (ld := ld) c_2 c_3
        exact ih _ _ _ ⟨rfl, rfl, by rw [e9]; exact lv_sub hl [0, 1, 2, 3, 4] rfl⟩
  · obtain ⟨rfl, rfl, hl⟩ := hI
    refine lv_iload hx hb d_R_lastDayAsOf_7 (lv_at hl 0 rfl) ?_
    refine lv_aload_n hx hb d_R_lastDayAsOf_9 rfl (lv_at hl 3 rfl) ?_
    refine va_get (D := (dC, dI)) (ci := 2) (v := .int (nI t)) (C := R_R) (T := T_R) (N := 11) hx hb hts ti_R hown hK hP 0 rfl rfl 8 (by decide) (hts (Cond.fieldLink "MeasureRows$Row" 43 "MeasureRows$Row" "told" "I") mw_75) (fun _ h9 => h9) rfl d_R_lastDayAsOf_10 ?_
    refine lv_icmp_ge (tgt := 60) hx hb d_R_lastDayAsOf_13 (by decide) (fun _ => ?_) (fun c_4 => absurd (Int32.le_refl _) c_4)
    refine lv_iload_n hx hb d_R_lastDayAsOf_60 rfl (lv_at hl 1 rfl) ?_
    exact W.iret (v := (mv_la ld kd a0 t).1) hx hb hr (fun t ht _ => ⟨_, rfl, rfl, ht⟩) (fun _ h => nomatch h) d_R_lastDayAsOf_61
def mv_R_meets (vf : Int32) (t : Nat) (ld kd : Nat → Int32) (a0 : Int32) (a1 : Int32) (a2 : Int32) : Int32 := if a1 < vf then 0 else if (mv_R_lastDayAsOf t ld kd a2) < a0 then 0 else 1
theorem mv_R_meets_b (vf : Int32) (t : Nat) (ld kd : Nat → Int32) (a0 : Int32) (a1 : Int32) (a2 : Int32) : mr_b01 (mv_R_meets vf t ld kd a0 a1 a2) := (mr_bi mr_b0 (mr_bi mr_b0 mr_b1))
set_option maxHeartbeats 4000000 in
set_option maxRecDepth 100000 in
theorem mc_R_meets (l : Launch) (s0 : State) (dC : Nat → ClassId) (dI : Nat → Nat → Nat) (cI cR cL cZ : ClassId) (q ql qk : Nat) (vc vp vf vk vr vn ve vw : Int32) (t : Nat) (ld kd : Nat → Int32) (a0 : Int32) (a1 : Int32) (a2 : Int32) (ht : t ≤ 8) : Met l y_R_meets [Cond.code y_R_meets b_R_meets 4 (some .boolean)] ({ frames := 1, cells := 0, slots := 0, locals := 24 }) (mr_PW s0 (dC, dI) [(cI, .int), (cR, .object "MeasureRows$Row"), (cL, .long), (cZ, .boolean)] [.ref q, .int a0, .int a1, .int a2] [(q, .inr (2, [.int vc, .int vp, .int vf, .int vk, .int vr, .int vn, .int ve, .int vw, .int (nI t), .ref ql, .ref qk])), (ql, .inl (cI, 8, .inl ld)), (qk, .inl (cI, 8, .inl kd))]) (vp_Si (fun r => r = mv_R_meets vf t ld kd a0 a1 a2)) 0 0 (fun _ => False) := by
  refine Met.ofW (cc := b_R_meets) (maxL := 4) (ret := (some .boolean)) (by decide) rfl ?_
  intro p e s m args below meth c s₁ B hml hv
  obtain ⟨rfl, hB, hK, hP⟩ := hv
  have hBH := hB.here
  have hx := B.exec
  have hb := B.bytes
  have hr := B.returns
  have hlocks := B.notSynchronized
  have hts : ∀ w ∈ lw_tbl, w.before [.ref q, .int a0, .int a1, .int a2].toArray s = true := hB.hts _
  have hown : s.vm.findClass "MeasureRows$Row" = some m.cls := findClass_of_methodNamed B.named
  have hl := lv_entry ([.ref q, .int a0, .int a1, .int a2]) (n := 4) (Nat.le_of_ble_eq_true rfl)
  rw [lg_entry_eq]
  generalize (lg_sl ([.ref q, .int a0, .int a1, .int a2]) ++ List.replicate (4 - (lg_sl ([.ref q, .int a0, .int a1, .int a2])).length) Slot.unset).toArray = ls at hl ⊢
  have hl : lv_has ls 4 [(0, .ref q), (1, .int a0), (2, .int a1), (3, .int a2)] := hl
  refine lv_aload_n hx hb d_R_meets_0 rfl (lv_at hl 0 rfl) ?_
  refine va_get (D := (dC, dI)) (ci := 2) (v := .int vf) (C := R_R) (T := T_R) (N := 11) hx hb hts ti_R hown hK hP 0 rfl rfl 2 (by decide) (hts (Cond.fieldLink "MeasureRows$Row" 18 "MeasureRows$Row" "first" "I") mw_67) (fun _ h9 => h9) rfl d_R_meets_1 ?_
  refine lv_iload_n hx hb d_R_meets_4 rfl (lv_at hl 2 rfl) ?_
  refine lv_icmp_gt (tgt := 21) hx hb d_R_meets_5 (by decide) (fun c_1 => ?_) (fun c_1 => ?_)
  · refine lv_iconst (v := 0) hx hb d_R_meets_21 (by decide) ?_
    exact W.zret (v := 0) hx hb hr (mr_narz mr_b0) (fun t ht _ => ⟨_, rfl, by unfold mv_R_meets; rw [if_pos c_1], ht⟩) (fun _ h => nomatch h) d_R_meets_22
  · refine lv_iload_n hx hb d_R_meets_8 rfl (lv_at hl 1 rfl) ?_
    refine lv_aload_n hx hb d_R_meets_9 rfl (lv_at hl 0 rfl) ?_
    refine lv_iload_n hx hb d_R_meets_10 rfl (lv_at hl 3 rfl) ?_
    refine vp_callSi (va_Run.run (va_runV (As := [.int a2]) (rest := [.int a0]) (C := R_R) ⟨hx, hb, hml, hown, hts⟩ (mc_R_lastDayAsOf l s0 dC dI cI cR cL cZ q ql qk vc vp vf vk vr vn ve vw t ld kd a2 ht) ⟨(mr_cB 1 (hts (Cond.code y_R_lastDayAsOf b_R_lastDayAsOf 5 (some .int)) mw_103) (hts (Cond.initialized y_R_lastDayAsOf.cls) mw_104) (hts (Cond.methodLink "MeasureRows$Row" 63 y_R_lastDayAsOf) mw_105) rfl rfl (by decide +kernel) ⟨Nat.le_of_ble_eq_true rfl, Nat.le_of_ble_eq_true rfl⟩), (hts (Cond.instanceMethod y_R_lastDayAsOf) mw_106), (hts (Cond.selects "MeasureRows$Row" y_R_lastDayAsOf y_R_lastDayAsOf) mw_107)⟩ (mr_preV hBH hK (hP.sub (ws' := [(q, .inr (2, [.int vc, .int vp, .int vf, .int vk, .int vr, .int vn, .int ve, .int vw, .int (nI t), .ref ql, .ref qk])), (ql, .inl (cI, 8, .inl ld)), (qk, .inl (cI, 8, .inl kd))]) [0, 1, 2] rfl) (ci := 2) (q0 := 0) rfl rfl) rfl rfl hl.1 rfl (lv_room (Nat.le_of_ble_eq_true rfl)) d_R_meets_11 ⟨Nat.le_of_ble_eq_true rfl, Nat.le_of_ble_eq_true rfl⟩)) (fun r_2 h_3 => ?_)
    subst h_3
    refine lv_icmp_gt (tgt := 21) hx hb d_R_meets_14 (by decide) (fun c_4 => ?_) (fun c_4 => ?_)
    · refine lv_iconst (v := 0) hx hb d_R_meets_21 (by decide) ?_
      exact W.zret (v := 0) hx hb hr (mr_narz mr_b0) (fun t ht _ => ⟨_, rfl, by unfold mv_R_meets; rw [if_neg c_1, if_pos c_4], ht⟩) (fun _ h => nomatch h) d_R_meets_22
    · refine lv_iconst (v := 1) hx hb d_R_meets_17 (by decide) ?_
      refine lv_goto (tgt := 22) hx hb d_R_meets_18 (by decide) ?_
      exact W.zret (v := 1) hx hb hr (mr_narz mr_b1) (fun t ht _ => ⟨_, rfl, by unfold mv_R_meets; rw [if_neg c_1, if_neg c_4], ht⟩) (fun _ h => nomatch h) d_R_meets_22
def mv_R_lastsOn (vf : Int32) (t : Nat) (ld kd : Nat → Int32) (a0 : Int32) (a1 : Int32) : Int32 := (mv_R_meets vf t ld kd a0 a0 a1)
theorem mv_R_lastsOn_b (vf : Int32) (t : Nat) (ld kd : Nat → Int32) (a0 : Int32) (a1 : Int32) : mr_b01 (mv_R_lastsOn vf t ld kd a0 a1) := (mv_R_meets_b vf t ld kd a0 a0 a1)
set_option maxHeartbeats 4000000 in
set_option maxRecDepth 100000 in
theorem mc_R_lastsOn (l : Launch) (s0 : State) (dC : Nat → ClassId) (dI : Nat → Nat → Nat) (cI cR cL cZ : ClassId) (q ql qk : Nat) (vc vp vf vk vr vn ve vw : Int32) (t : Nat) (ld kd : Nat → Int32) (a0 : Int32) (a1 : Int32) (ht : t ≤ 8) : Met l y_R_lastsOn [Cond.code y_R_lastsOn b_R_lastsOn 3 (some .boolean)] ({ frames := 2, cells := 0, slots := 0, locals := 47 }) (mr_PW s0 (dC, dI) [(cI, .int), (cR, .object "MeasureRows$Row"), (cL, .long), (cZ, .boolean)] [.ref q, .int a0, .int a1] [(q, .inr (2, [.int vc, .int vp, .int vf, .int vk, .int vr, .int vn, .int ve, .int vw, .int (nI t), .ref ql, .ref qk])), (ql, .inl (cI, 8, .inl ld)), (qk, .inl (cI, 8, .inl kd))]) (vp_Si (fun r => r = mv_R_lastsOn vf t ld kd a0 a1)) 0 0 (fun _ => False) := by
  refine Met.ofW (cc := b_R_lastsOn) (maxL := 3) (ret := (some .boolean)) (by decide) rfl ?_
  intro p e s m args below meth c s₁ B hml hv
  obtain ⟨rfl, hB, hK, hP⟩ := hv
  have hBH := hB.here
  have hx := B.exec
  have hb := B.bytes
  have hr := B.returns
  have hlocks := B.notSynchronized
  have hts : ∀ w ∈ lw_tbl, w.before [.ref q, .int a0, .int a1].toArray s = true := hB.hts _
  have hown : s.vm.findClass "MeasureRows$Row" = some m.cls := findClass_of_methodNamed B.named
  have hl := lv_entry ([.ref q, .int a0, .int a1]) (n := 3) (Nat.le_of_ble_eq_true rfl)
  rw [lg_entry_eq]
  generalize (lg_sl ([.ref q, .int a0, .int a1]) ++ List.replicate (3 - (lg_sl ([.ref q, .int a0, .int a1])).length) Slot.unset).toArray = ls at hl ⊢
  have hl : lv_has ls 3 [(0, .ref q), (1, .int a0), (2, .int a1)] := hl
  refine lv_aload_n hx hb d_R_lastsOn_0 rfl (lv_at hl 0 rfl) ?_
  refine lv_iload_n hx hb d_R_lastsOn_1 rfl (lv_at hl 1 rfl) ?_
  refine lv_iload_n hx hb d_R_lastsOn_2 rfl (lv_at hl 1 rfl) ?_
  refine lv_iload_n hx hb d_R_lastsOn_3 rfl (lv_at hl 2 rfl) ?_
  refine vp_callSi (va_Run.run (va_runV (As := [.int a0, .int a0, .int a1]) (rest := []) (C := R_R) ⟨hx, hb, hml, hown, hts⟩ (mc_R_meets l s0 dC dI cI cR cL cZ q ql qk vc vp vf vk vr vn ve vw t ld kd a0 a0 a1 ht) ⟨(mr_cB 3 (hts (Cond.code y_R_meets b_R_meets 4 (some .boolean)) mw_108) (hts (Cond.initialized y_R_meets.cls) mw_109) (hts (Cond.methodLink "MeasureRows$Row" 59 y_R_meets) mw_110) rfl rfl (by decide +kernel) ⟨Nat.le_of_ble_eq_true rfl, Nat.le_of_ble_eq_true rfl⟩), (hts (Cond.instanceMethod y_R_meets) mw_111), (hts (Cond.selects "MeasureRows$Row" y_R_meets y_R_meets) mw_112)⟩ (mr_preV hBH hK (hP.sub (ws' := [(q, .inr (2, [.int vc, .int vp, .int vf, .int vk, .int vr, .int vn, .int ve, .int vw, .int (nI t), .ref ql, .ref qk])), (ql, .inl (cI, 8, .inl ld)), (qk, .inl (cI, 8, .inl kd))]) [0, 1, 2] rfl) (ci := 2) (q0 := 0) rfl rfl) rfl rfl hl.1 rfl (lv_room (Nat.le_of_ble_eq_true rfl)) d_R_lastsOn_4 ⟨Nat.le_of_ble_eq_true rfl, Nat.le_of_ble_eq_true rfl⟩)) (fun r_1 h_2 => ?_)
  subst h_2
  exact W.zret (v := mv_R_meets vf t ld kd a0 a0 a1) hx hb hr (mr_narz (mv_R_meets_b vf t ld kd a0 a0 a1)) (fun t ht _ => ⟨_, rfl, rfl, ht⟩) (fun _ h => nomatch h) d_R_lastsOn_7
def mv_R_leaveOut (ve a0 : Int32) : Int32 := if (mv_R_mayMark ve a0) = 0 then 0 else 1
def mv_R_leaveOutN (ve a0 : Int32) : Int32 := if (mv_R_mayMark ve a0) = 0 then ve else (ve ||| (1 <<< (a0 &&& 31)))
set_option maxHeartbeats 4000000 in
set_option maxRecDepth 100000 in
theorem mc_R_leaveOut (l : Launch) (s0 : State) (dC : Nat → ClassId) (dI : Nat → Nat → Nat) (cI cR cL cZ : ClassId) (q ql qk : Nat) (vc vp vf vk vr vn ve vw vt : Int32) (sz : Nat) (a0 : Int32)  : Met l y_R_leaveOut [Cond.code y_R_leaveOut b_R_leaveOut 2 (some .boolean)] ({ frames := 2, cells := 0, slots := 0, locals := 42 }) (mr_PC s0 (dC, dI) [(cI, .int), (cR, .object "MeasureRows$Row"), (cL, .long), (cZ, .boolean)] [.ref q, .int a0] [(q, .inr (2, [.int vc, .int vp, .int vf, .int vk, .int vr, .int vn, .int ve, .int vw, .int vt, .ref ql, .ref qk]))] sz) (va_Qi (fun rr u => rr = mv_R_leaveOut ve a0 ∧ u = mv_R_leaveOutN ve a0) (fun (u : Int32) t => mr_W (dC, dI) [(cI, .int), (cR, .object "MeasureRows$Row"), (cL, .long), (cZ, .boolean)] (va_A [(q, .inr (2, [.int vc, .int vp, .int vf, .int vk, .int vr, .int vn, .int ve, .int vw, .int vt, .ref ql, .ref qk]))] sz) [(q, .inr (2, [.int vc, .int vp, .int vf, .int vk, .int vr, .int vn, .int u, .int vw, .int vt, .ref ql, .ref qk]))] t) (va_A [(q, .inr (2, [.int vc, .int vp, .int vf, .int vk, .int vr, .int vn, .int ve, .int vw, .int vt, .ref ql, .ref qk]))] sz)) 0 0 (va_A [(q, .inr (2, [.int vc, .int vp, .int vf, .int vk, .int vr, .int vn, .int ve, .int vw, .int vt, .ref ql, .ref qk]))] sz) := by
  refine Met.ofW (cc := b_R_leaveOut) (maxL := 2) (ret := (some .boolean)) (by decide) rfl ?_
  intro p e s m args below meth c s₁ B hml hv
  obtain ⟨rfl, hsz, hB, hK, hP, hD0⟩ := hv
  subst hsz
  have hA0 := mr_A hB hD0
  have hD := hD0.self (sz := s.heap.size)
  generalize hAe : va_A [(q, .inr (2, [.int vc, .int vp, .int vf, .int vk, .int vr, .int vn, .int ve, .int vw, .int vt, .ref ql, .ref qk]))] s.heap.size = A at hD hA0 ⊢
  have hA : ∀ q : Nat, s.heap.size ≤ q → A q := fun q h => by rw [← hAe]; exact Or.inr h
  have hS : va_S A s.heap s.heap [] := va_S.rf
  have hP : va_P (dC, dI) mr_cl [(q, .inr (2, [.int vc, .int vp, .int vf, .int vk, .int vr, .int vn, .int ve, .int vw, .int vt, .ref ql, .ref qk]))] s.heap := hP
  have hBH := hB.at hS hA0
  have hx := B.exec
  have hb := B.bytes
  have hr := B.returns
  have hlocks := B.notSynchronized
  have hts : ∀ w ∈ lw_tbl, w.before [.ref q, .int a0].toArray s = true := hB.hts _
  have hown : s.vm.findClass "MeasureRows$Row" = some m.cls := findClass_of_methodNamed B.named
  have hl := lv_entry ([.ref q, .int a0]) (n := 2) (Nat.le_of_ble_eq_true rfl)
  rw [lg_entry_eq]
  generalize (lg_sl ([.ref q, .int a0]) ++ List.replicate (2 - (lg_sl ([.ref q, .int a0])).length) Slot.unset).toArray = ls at hl ⊢
  have hl : lv_has ls 2 [(0, .ref q), (1, .int a0)] := hl
  refine lv_aload_n hx hb d_R_leaveOut_0 rfl (lv_at hl 0 rfl) ?_
  refine va_get (D := (dC, dI)) (ci := 2) (v := .int ve) (C := R_R) (T := T_R) (N := 11) hx hb hts ti_R hown hK hP 0 rfl rfl 6 (by decide) (hts (Cond.fieldLink "MeasureRows$Row" 30 "MeasureRows$Row" "excluded" "I") mw_71) (fun _ h9 => h9) rfl d_R_leaveOut_1 ?_
  refine lv_iload_n hx hb d_R_leaveOut_4 rfl (lv_at hl 1 rfl) ?_
  refine vp_callSi (va_Run.run (va_runS (As := [.int ve, .int a0]) (rest := []) ⟨hx, hb, hml, hown, hts⟩ (mc_R_mayMark l s0 ve a0) ⟨(mr_cB 2 (hts (Cond.code y_R_mayMark b_R_mayMark 2 (some .boolean)) mw_113) (hts (Cond.initialized y_R_mayMark.cls) mw_114) (hts (Cond.methodLink "MeasureRows$Row" 46 y_R_mayMark) mw_115) rfl rfl (by decide +kernel) ⟨Nat.le_of_ble_eq_true rfl, Nat.le_of_ble_eq_true rfl⟩), (hts (Cond.static y_R_mayMark) mw_116)⟩ (mr_pre0 hBH) rfl rfl hl.1 rfl (lv_room (Nat.le_of_ble_eq_true rfl)) d_R_leaveOut_5 ⟨Nat.le_of_ble_eq_true rfl, Nat.le_of_ble_eq_true rfl⟩)) (fun r_1 h_2 => ?_)
  subst h_2
  refine lv_if_ne (tgt := 13) hx hb d_R_leaveOut_8 (by decide) (fun c_3 => ?_) (fun c_3 => ?_)
  · refine lv_aload_n hx hb d_R_leaveOut_13 rfl (lv_at hl 0 rfl) ?_
    refine lv_dup hx hb d_R_leaveOut_14 rfl ?_
    refine va_get (D := (dC, dI)) (ci := 2) (v := .int ve) (C := R_R) (T := T_R) (N := 11) hx hb hts ti_R hown hK hP 0 rfl rfl 6 (by decide) (hts (Cond.fieldLink "MeasureRows$Row" 30 "MeasureRows$Row" "excluded" "I") mw_71) (fun _ h9 => h9) rfl d_R_leaveOut_15 ?_
    refine lv_iconst (v := 1) hx hb d_R_leaveOut_18 (by decide) ?_
    refine lv_iload_n hx hb d_R_leaveOut_19 rfl (lv_at hl 1 rfl) ?_
    refine lv_ishl hx hb d_R_leaveOut_20 ?_
    refine lv_ior hx hb d_R_leaveOut_21 ?_
    refine va_put (D := (dC, dI)) (ci := 2) (v := .int (ve ||| (1 <<< (a0 &&& 31)))) (ty := .int) (C := R_R) (T := T_R) (N := 11) hx hb hts ti_R t_R to_R tn_R hown hK hP hD hS 0 rfl rfl 6 (by decide) (hts (Cond.fieldLink "MeasureRows$Row" 30 "MeasureRows$Row" "excluded" "I") mw_71) (fun _ h9 => h9) rfl (by decide +kernel) rfl rfl (Nat.le_of_ble_eq_true rfl) d_R_leaveOut_22 (fun H locs hP hD hS => ?_)
    have hP : va_P (dC, dI) mr_cl [(q, .inr (2, [.int vc, .int vp, .int vf, .int vk, .int vr, .int vn, .int (ve ||| (1 <<< (a0 &&& 31))), .int vw, .int vt, .ref ql, .ref qk]))] H := hP
    have hD : va_D A [(q, .inr (2, [.int vc, .int vp, .int vf, .int vk, .int vr, .int vn, .int (ve ||| (1 <<< (a0 &&& 31))), .int vw, .int vt, .ref ql, .ref qk]))] := hD
    have hBH := hB.at hS hA0
    refine lv_iconst (v := 1) hx hb d_R_leaveOut_25 (by decide) ?_
    have hP9 := hP.sub (ws' := [(q, .inr (2, [.int vc, .int vp, .int vf, .int vk, .int vr, .int vn, .int (ve ||| (1 <<< (a0 &&& 31))), .int vw, .int vt, .ref ql, .ref qk]))]) [0] rfl
    have hD9 := hD.sub (ws' := [(q, .inr (2, [.int vc, .int vp, .int vf, .int vk, .int vr, .int vn, .int (ve ||| (1 <<< (a0 &&& 31))), .int vw, .int vt, .ref ql, .ref qk]))]) [0] (by decide) rfl
    exact W.zret (v := 1) hx hb hr (mr_narz mr_b1) (fun t ht hW => ⟨⟨_, (ve ||| (1 <<< (a0 &&& 31))), rfl, ⟨by unfold mv_R_leaveOut; rw [if_neg c_3], by unfold mv_R_leaveOutN; rw [if_neg c_3]⟩, by rw [ht]; exact hP9, va_K.moved hW.alike hK, hD9⟩, hS.F ht⟩) hS.2.2 d_R_leaveOut_26
  · refine lv_iconst (v := 0) hx hb d_R_leaveOut_11 (by decide) ?_
    have hP9 := hP.sub (ws' := [(q, .inr (2, [.int vc, .int vp, .int vf, .int vk, .int vr, .int vn, .int ve, .int vw, .int vt, .ref ql, .ref qk]))]) [0] rfl
    have hD9 := hD.sub (ws' := [(q, .inr (2, [.int vc, .int vp, .int vf, .int vk, .int vr, .int vn, .int ve, .int vw, .int vt, .ref ql, .ref qk]))]) [0] (by decide) rfl
    exact W.zret (v := 0) hx hb hr (mr_narz mr_b0) (fun t ht hW => ⟨⟨_, ve, rfl, ⟨by unfold mv_R_leaveOut; rw [if_pos c_3], by unfold mv_R_leaveOutN; rw [if_pos c_3]⟩, by rw [ht]; exact hP9, va_K.moved hW.alike hK, hD9⟩, hS.F ht⟩) hS.2.2 d_R_leaveOut_12
theorem mv_R_leaveOut_b (ve a0 : Int32) : mr_b01 (mv_R_leaveOut ve a0) := (mr_bi mr_b0 mr_b1)
def mv_R_want (vw a0 : Int32) : Int32 := if (mv_R_mayMark vw a0) = 0 then 0 else 1
def mv_R_wantN (vw a0 : Int32) : Int32 := if (mv_R_mayMark vw a0) = 0 then vw else (vw ||| (1 <<< (a0 &&& 31)))
set_option maxHeartbeats 4000000 in
set_option maxRecDepth 100000 in
theorem mc_R_want (l : Launch) (s0 : State) (dC : Nat → ClassId) (dI : Nat → Nat → Nat) (cI cR cL cZ : ClassId) (q ql qk : Nat) (vc vp vf vk vr vn ve vw vt : Int32) (sz : Nat) (a0 : Int32)  : Met l y_R_want [Cond.code y_R_want b_R_want 2 (some .boolean)] ({ frames := 2, cells := 0, slots := 0, locals := 42 }) (mr_PC s0 (dC, dI) [(cI, .int), (cR, .object "MeasureRows$Row"), (cL, .long), (cZ, .boolean)] [.ref q, .int a0] [(q, .inr (2, [.int vc, .int vp, .int vf, .int vk, .int vr, .int vn, .int ve, .int vw, .int vt, .ref ql, .ref qk]))] sz) (va_Qi (fun rr u => rr = mv_R_want vw a0 ∧ u = mv_R_wantN vw a0) (fun (u : Int32) t => mr_W (dC, dI) [(cI, .int), (cR, .object "MeasureRows$Row"), (cL, .long), (cZ, .boolean)] (va_A [(q, .inr (2, [.int vc, .int vp, .int vf, .int vk, .int vr, .int vn, .int ve, .int vw, .int vt, .ref ql, .ref qk]))] sz) [(q, .inr (2, [.int vc, .int vp, .int vf, .int vk, .int vr, .int vn, .int ve, .int u, .int vt, .ref ql, .ref qk]))] t) (va_A [(q, .inr (2, [.int vc, .int vp, .int vf, .int vk, .int vr, .int vn, .int ve, .int vw, .int vt, .ref ql, .ref qk]))] sz)) 0 0 (va_A [(q, .inr (2, [.int vc, .int vp, .int vf, .int vk, .int vr, .int vn, .int ve, .int vw, .int vt, .ref ql, .ref qk]))] sz) := by
  refine Met.ofW (cc := b_R_want) (maxL := 2) (ret := (some .boolean)) (by decide) rfl ?_
  intro p e s m args below meth c s₁ B hml hv
  obtain ⟨rfl, hsz, hB, hK, hP, hD0⟩ := hv
  subst hsz
  have hA0 := mr_A hB hD0
  have hD := hD0.self (sz := s.heap.size)
  generalize hAe : va_A [(q, .inr (2, [.int vc, .int vp, .int vf, .int vk, .int vr, .int vn, .int ve, .int vw, .int vt, .ref ql, .ref qk]))] s.heap.size = A at hD hA0 ⊢
  have hA : ∀ q : Nat, s.heap.size ≤ q → A q := fun q h => by rw [← hAe]; exact Or.inr h
  have hS : va_S A s.heap s.heap [] := va_S.rf
  have hP : va_P (dC, dI) mr_cl [(q, .inr (2, [.int vc, .int vp, .int vf, .int vk, .int vr, .int vn, .int ve, .int vw, .int vt, .ref ql, .ref qk]))] s.heap := hP
  have hBH := hB.at hS hA0
  have hx := B.exec
  have hb := B.bytes
  have hr := B.returns
  have hlocks := B.notSynchronized
  have hts : ∀ w ∈ lw_tbl, w.before [.ref q, .int a0].toArray s = true := hB.hts _
  have hown : s.vm.findClass "MeasureRows$Row" = some m.cls := findClass_of_methodNamed B.named
  have hl := lv_entry ([.ref q, .int a0]) (n := 2) (Nat.le_of_ble_eq_true rfl)
  rw [lg_entry_eq]
  generalize (lg_sl ([.ref q, .int a0]) ++ List.replicate (2 - (lg_sl ([.ref q, .int a0])).length) Slot.unset).toArray = ls at hl ⊢
  have hl : lv_has ls 2 [(0, .ref q), (1, .int a0)] := hl
  refine lv_aload_n hx hb d_R_want_0 rfl (lv_at hl 0 rfl) ?_
  refine va_get (D := (dC, dI)) (ci := 2) (v := .int vw) (C := R_R) (T := T_R) (N := 11) hx hb hts ti_R hown hK hP 0 rfl rfl 7 (by decide) (hts (Cond.fieldLink "MeasureRows$Row" 33 "MeasureRows$Row" "wanted" "I") mw_72) (fun _ h9 => h9) rfl d_R_want_1 ?_
  refine lv_iload_n hx hb d_R_want_4 rfl (lv_at hl 1 rfl) ?_
  refine vp_callSi (va_Run.run (va_runS (As := [.int vw, .int a0]) (rest := []) ⟨hx, hb, hml, hown, hts⟩ (mc_R_mayMark l s0 vw a0) ⟨(mr_cB 2 (hts (Cond.code y_R_mayMark b_R_mayMark 2 (some .boolean)) mw_113) (hts (Cond.initialized y_R_mayMark.cls) mw_114) (hts (Cond.methodLink "MeasureRows$Row" 46 y_R_mayMark) mw_115) rfl rfl (by decide +kernel) ⟨Nat.le_of_ble_eq_true rfl, Nat.le_of_ble_eq_true rfl⟩), (hts (Cond.static y_R_mayMark) mw_116)⟩ (mr_pre0 hBH) rfl rfl hl.1 rfl (lv_room (Nat.le_of_ble_eq_true rfl)) d_R_want_5 ⟨Nat.le_of_ble_eq_true rfl, Nat.le_of_ble_eq_true rfl⟩)) (fun r_1 h_2 => ?_)
  subst h_2
  refine lv_if_ne (tgt := 13) hx hb d_R_want_8 (by decide) (fun c_3 => ?_) (fun c_3 => ?_)
  · refine lv_aload_n hx hb d_R_want_13 rfl (lv_at hl 0 rfl) ?_
    refine lv_dup hx hb d_R_want_14 rfl ?_
    refine va_get (D := (dC, dI)) (ci := 2) (v := .int vw) (C := R_R) (T := T_R) (N := 11) hx hb hts ti_R hown hK hP 0 rfl rfl 7 (by decide) (hts (Cond.fieldLink "MeasureRows$Row" 33 "MeasureRows$Row" "wanted" "I") mw_72) (fun _ h9 => h9) rfl d_R_want_15 ?_
    refine lv_iconst (v := 1) hx hb d_R_want_18 (by decide) ?_
    refine lv_iload_n hx hb d_R_want_19 rfl (lv_at hl 1 rfl) ?_
    refine lv_ishl hx hb d_R_want_20 ?_
    refine lv_ior hx hb d_R_want_21 ?_
    refine va_put (D := (dC, dI)) (ci := 2) (v := .int (vw ||| (1 <<< (a0 &&& 31)))) (ty := .int) (C := R_R) (T := T_R) (N := 11) hx hb hts ti_R t_R to_R tn_R hown hK hP hD hS 0 rfl rfl 7 (by decide) (hts (Cond.fieldLink "MeasureRows$Row" 33 "MeasureRows$Row" "wanted" "I") mw_72) (fun _ h9 => h9) rfl (by decide +kernel) rfl rfl (Nat.le_of_ble_eq_true rfl) d_R_want_22 (fun H locs hP hD hS => ?_)
    have hP : va_P (dC, dI) mr_cl [(q, .inr (2, [.int vc, .int vp, .int vf, .int vk, .int vr, .int vn, .int ve, .int (vw ||| (1 <<< (a0 &&& 31))), .int vt, .ref ql, .ref qk]))] H := hP
    have hD : va_D A [(q, .inr (2, [.int vc, .int vp, .int vf, .int vk, .int vr, .int vn, .int ve, .int (vw ||| (1 <<< (a0 &&& 31))), .int vt, .ref ql, .ref qk]))] := hD
    have hBH := hB.at hS hA0
    refine lv_iconst (v := 1) hx hb d_R_want_25 (by decide) ?_
    have hP9 := hP.sub (ws' := [(q, .inr (2, [.int vc, .int vp, .int vf, .int vk, .int vr, .int vn, .int ve, .int (vw ||| (1 <<< (a0 &&& 31))), .int vt, .ref ql, .ref qk]))]) [0] rfl
    have hD9 := hD.sub (ws' := [(q, .inr (2, [.int vc, .int vp, .int vf, .int vk, .int vr, .int vn, .int ve, .int (vw ||| (1 <<< (a0 &&& 31))), .int vt, .ref ql, .ref qk]))]) [0] (by decide) rfl
    exact W.zret (v := 1) hx hb hr (mr_narz mr_b1) (fun t ht hW => ⟨⟨_, (vw ||| (1 <<< (a0 &&& 31))), rfl, ⟨by unfold mv_R_want; rw [if_neg c_3], by unfold mv_R_wantN; rw [if_neg c_3]⟩, by rw [ht]; exact hP9, va_K.moved hW.alike hK, hD9⟩, hS.F ht⟩) hS.2.2 d_R_want_26
  · refine lv_iconst (v := 0) hx hb d_R_want_11 (by decide) ?_
    have hP9 := hP.sub (ws' := [(q, .inr (2, [.int vc, .int vp, .int vf, .int vk, .int vr, .int vn, .int ve, .int vw, .int vt, .ref ql, .ref qk]))]) [0] rfl
    have hD9 := hD.sub (ws' := [(q, .inr (2, [.int vc, .int vp, .int vf, .int vk, .int vr, .int vn, .int ve, .int vw, .int vt, .ref ql, .ref qk]))]) [0] (by decide) rfl
    exact W.zret (v := 0) hx hb hr (mr_narz mr_b0) (fun t ht hW => ⟨⟨_, vw, rfl, ⟨by unfold mv_R_want; rw [if_pos c_3], by unfold mv_R_wantN; rw [if_pos c_3]⟩, by rw [ht]; exact hP9, va_K.moved hW.alike hK, hD9⟩, hS.F ht⟩) hS.2.2 d_R_want_12
theorem mv_R_want_b (vw a0 : Int32) : mr_b01 (mv_R_want vw a0) := (mr_bi mr_b0 mr_b1)
end
section
/-- the rows: n of them, each with its two arrays, among the cells L of contents f -/
def mr_RI (cI : ClassId) (n : Nat) (L : List Nat) (f : Nat → va_E) (fr : Nat → Option Nat) : Prop := n ≤ 80 ∧ ∀ i, i < n → ∃ (a ql qk : Nat) (v0 v1 v2 v4 v5 v6 v7 : Int32) (k t : Nat) (ld kd : Nat → Int32), fr i = some a ∧ a ∈ L ∧ ql ∈ L ∧ qk ∈ L ∧ f a = .inr (2, [.int v0, .int v1, .int v2, .int (nI k), .int v4, .int v5, .int v6, .int v7, .int (nI t), .ref ql, .ref qk]) ∧ f ql = .inl (cI, 8, .inl ld) ∧ f qk = .inl (cI, 8, .inl kd) ∧ k < 8 ∧ t ≤ 8 ∧ 1 ≤ t ∧ ql ≠ qk
theorem mr_row3 {D : va_G} {cl : List vw_C} {X : va_W} {L : List Nat} {f : Nat → va_E} {H : Heap} {a b d : Nat} {ea eb ed : va_E} (hP : va_P D cl (X ++ va_pl L f) H) (ha : a ∈ L) (hb : b ∈ L) (hd : d ∈ L) (ea' : f a = ea) (eb' : f b = eb) (ed' : f d = ed) : va_P D cl [(a, ea), (b, eb), (d, ed)] H := by
  obtain ⟨k1, h1⟩ := va_pl_get (X := X) (f := f) ha
  obtain ⟨k2, h2⟩ := va_pl_get (X := X) (f := f) hb
  obtain ⟨k3, h3⟩ := va_pl_get (X := X) (f := f) hd
  rw [ea'] at h1
  rw [eb'] at h2
  rw [ed'] at h3
  intro k q hq
  match k, hq with
  | 0, hq => cases hq; exact hP _ _ h1
  | 1, hq => cases hq; exact hP _ _ h2
  | 2, hq => cases hq; exact hP _ _ h3
  | k + 3, hq => simp at hq
theorem mr_fi {x : Int32} {n : Nat} (hn : n ≤ 80) (h1 : ¬ x < 1) (h2 : ¬ nI n < x) : ∃ i, i < n ∧ x = nI (i + 1) := by
  obtain ⟨j, hj, rfl⟩ := nI_of (x := x) (fun h => h1 (by
    rw [Int32.lt_iff_toInt_lt] at h ⊢
    have a1 : (1 : Int32).toInt = 1 := by decide
    have a0 : (0 : Int32).toInt = 0 := by decide
    omega))
  rw [Int32.lt_iff_toInt_lt, nI_toInt hj] at h1
  rw [nI_ltI (by omega) hj] at h2
  have a1 : (1 : Int32).toInt = 1 := by decide
  refine ⟨j - 1, by omega, ?_⟩
  rw [show j - 1 + 1 = j by omega]
theorem mr_fb {x : Int32} {n : Nat} (hn : n ≤ 80) (h1 : ¬ x < 1) (h2 : ¬ nI n < x) : vp_in (x - 1) 80 := by
  obtain ⟨i, hi, rfl⟩ := mr_fi hn h1 h2
  rw [nI_pred]
  exact nI_in (by omega) (by decide)

def mv_M_find (n : Nat) (fr : Nat → Option Nat) (a0 : Int32) : Option Nat := if a0 < 1 then none else if (nI n) < a0 then none else (fr (a0 - 1).toNatClampNeg)
set_option maxHeartbeats 4000000 in
set_option maxRecDepth 100000 in
theorem mc_M_find (l : Launch) (s0 : State) (dC : Nat → ClassId) (dI : Nat → Nat → Nat) (cI cR cL cZ : ClassId) (r : Nat → Nat) (n : Nat) (nw pb lc : Int32) (fr : Nat → Option Nat) (a0 : Int32) (hn : n ≤ 80) : Met l y_M_find [Cond.code y_M_find b_M_find 2 (some (.object "MeasureRows$Row"))] ({ frames := 0, cells := 0, slots := 0, locals := 0 }) (mr_PW s0 (dC, dI) [(cI, .int), (cR, .object "MeasureRows$Row"), (cL, .long), (cZ, .boolean)] [.ref (r 0), .int a0] [((r 0), .inr (0, mf_M r (nI n) nw pb lc)), ((r 4), .inl (cR, 80, .inr (.inr (.inr (.inr fr)))))]) (va_Sq (fun r => r = mv_M_find n fr a0)) 0 0 (fun _ => False) := by
  refine Met.ofW (cc := b_M_find) (maxL := 2) (ret := (some (.object "MeasureRows$Row"))) (by decide) rfl ?_
  intro p e s m args below meth c s₁ B hml hv
  obtain ⟨rfl, hB, hK, hP⟩ := hv
  have hBH := hB.here
  have hx := B.exec
  have hb := B.bytes
  have hr := B.returns
  have hlocks := B.notSynchronized
  have hts : ∀ w ∈ lw_tbl, w.before [.ref (r 0), .int a0].toArray s = true := hB.hts _
  have hown : s.vm.findClass "MeasureRows" = some m.cls := findClass_of_methodNamed B.named
  have hl := lv_entry ([.ref (r 0), .int a0]) (n := 2) (Nat.le_of_ble_eq_true rfl)
  rw [lg_entry_eq]
  generalize (lg_sl ([.ref (r 0), .int a0]) ++ List.replicate (2 - (lg_sl ([.ref (r 0), .int a0])).length) Slot.unset).toArray = ls at hl ⊢
  have hl : lv_has ls 2 [(0, .ref (r 0)), (1, .int a0)] := hl
  refine lv_iload_n hx hb d_M_find_0 rfl (lv_at hl 1 rfl) ?_
  refine lv_iconst (v := 1) hx hb d_M_find_1 (by decide) ?_
  refine lv_icmp_lt (tgt := 24) hx hb d_M_find_2 (by decide) (fun c_1 => ?_) (fun c_1 => ?_)
  · refine lv_null hx hb d_M_find_24 ?_
    exact W.aret (v := .null) hx hb hr (Or.inl ⟨_, rfl⟩) (Or.inl rfl) (fun t ht _ => ⟨none, rfl, by unfold mv_M_find; rw [if_pos c_1], ht⟩) (fun _ h => nomatch h) d_M_find_25
  · refine lv_iload_n hx hb d_M_find_5 rfl (lv_at hl 1 rfl) ?_
    refine lv_aload_n hx hb d_M_find_6 rfl (lv_at hl 0 rfl) ?_
    refine va_get (D := (dC, dI)) (ci := 0) (v := .int (nI n)) (C := R_M) (T := T_M) (N := 9) hx hb hts ti_M hown hK hP 0 rfl rfl 2 (by decide) (hts (Cond.fieldLink "MeasureRows" 22 "MeasureRows" "rowCount" "I") mw_57) (fun _ h9 => h9) rfl d_M_find_7 ?_
    refine lv_icmp_gt (tgt := 24) hx hb d_M_find_10 (by decide) (fun c_2 => ?_) (fun c_2 => ?_)
    · refine lv_null hx hb d_M_find_24 ?_
      exact W.aret (v := .null) hx hb hr (Or.inl ⟨_, rfl⟩) (Or.inl rfl) (fun t ht _ => ⟨none, rfl, by unfold mv_M_find; rw [if_neg c_1, if_pos c_2], ht⟩) (fun _ h => nomatch h) d_M_find_25
    · refine lv_aload_n hx hb d_M_find_13 rfl (lv_at hl 0 rfl) ?_
      refine va_get (D := (dC, dI)) (ci := 0) (v := .ref (r 4)) (C := R_M) (T := T_M) (N := 9) hx hb hts ti_M hown hK hP 0 rfl rfl 1 (by decide) (hts (Cond.fieldLink "MeasureRows" 18 "MeasureRows" "rows" "[LMeasureRows$Row;") mw_56) (fun _ h9 => h9) rfl d_M_find_14 ?_
      refine lv_iload_n hx hb d_M_find_17 rfl (lv_at hl 1 rfl) ?_
      refine lv_iconst (v := 1) hx hb d_M_find_18 (by decide) ?_
      refine lv_isub hx hb d_M_find_19 ?_
      refine va_aldq (D := (dC, dI)) hx hb hK hP 1 1 rfl rfl (i := a0 - 1) (mr_fb hn c_1 c_2) d_M_find_20 ?_
      refine lv_goto (tgt := 25) hx hb d_M_find_21 (by decide) ?_
      exact W.aret (v := va_rf (fr (a0 - 1).toNatClampNeg)) hx hb hr (Or.inl ⟨_, rfl⟩) (mr_rfv _) (fun t ht _ => ⟨_, rfl, by unfold mv_M_find; rw [if_neg c_1, if_neg c_2], ht⟩) (fun _ h => nomatch h) d_M_find_25
theorem mr_fc {cI : ClassId} {n : Nat} {L : List Nat} {f : Nat → va_E} {fr : Nat → Option Nat} (hR : mr_RI cI n L f fr) (x : Int32) : mv_M_find n fr x = none ∨ ∃ i, i < n ∧ x = nI (i + 1) ∧ ∃ (a ql qk : Nat) (v0 v1 v2 v4 v5 v6 v7 : Int32) (k t : Nat) (ld kd : Nat → Int32), mv_M_find n fr x = some a ∧ fr i = some a ∧ a ∈ L ∧ ql ∈ L ∧ qk ∈ L ∧ f a = .inr (2, [.int v0, .int v1, .int v2, .int (nI k), .int v4, .int v5, .int v6, .int v7, .int (nI t), .ref ql, .ref qk]) ∧ f ql = .inl (cI, 8, .inl ld) ∧ f qk = .inl (cI, 8, .inl kd) ∧ k < 8 ∧ t ≤ 8 ∧ 1 ≤ t ∧ ql ≠ qk := by
  unfold mv_M_find
  by_cases h1 : x < 1
  · rw [if_pos h1]; exact Or.inl rfl
  · rw [if_neg h1]
    by_cases h2 : nI n < x
    · rw [if_pos h2]; exact Or.inl rfl
    · rw [if_neg h2]
      obtain ⟨i, hi, rfl⟩ := mr_fi hR.1 h1 h2
      obtain ⟨a, ql, qk, v0, v1, v2, v4, v5, v6, v7, k, t, ld, kd, e, rest⟩ := hR.2 i hi
      refine Or.inr ⟨i, hi, rfl, a, ql, qk, v0, v1, v2, v4, v5, v6, v7, k, t, ld, kd, ?_, e, rest⟩
      rw [nI_pred, nI_clamp (by have := hR.1; omega)]
      exact e
end
section
theorem mw_117 : Cond.code y_M_find b_M_find 2 (some (.object "MeasureRows$Row")) ∈ lw_tbl := by decide +kernel
theorem mw_118 : Cond.initialized y_M_find.cls ∈ lw_tbl := by decide +kernel
theorem mw_119 : Cond.methodLink "MeasureRows" 111 y_M_find ∈ lw_tbl := by decide +kernel
theorem mw_120 : Cond.instanceMethod y_M_find ∈ lw_tbl := by decide +kernel
theorem mw_121 : Cond.selects "MeasureRows" y_M_find y_M_find ∈ lw_tbl := by decide +kernel
theorem mw_122 : Cond.code y_R_isAlike b_R_isAlike 5 (some .boolean) ∈ lw_tbl := by decide +kernel
theorem mw_123 : Cond.initialized y_R_isAlike.cls ∈ lw_tbl := by decide +kernel
theorem mw_124 : Cond.methodLink "MeasureRows" 189 y_R_isAlike ∈ lw_tbl := by decide +kernel
theorem mw_125 : Cond.instanceMethod y_R_isAlike ∈ lw_tbl := by decide +kernel
theorem mw_126 : Cond.selects "MeasureRows$Row" y_R_isAlike y_R_isAlike ∈ lw_tbl := by decide +kernel
theorem mw_127 : Cond.methodLink "MeasureRows" 193 y_R_meets ∈ lw_tbl := by decide +kernel
set_option maxHeartbeats 4000000 in
set_option maxRecDepth 100000 in
theorem mc_M_leastClash (l : Launch) (s0 : State) (dC : Nat → ClassId) (dI : Nat → Nat → Nat) (cI cR cL cZ : ClassId) (r : Nat → Nat) (n : Nat) (nw pb lc : Int32) (fm fi : Nat → Int32) (fr : Nat → Option Nat) (fl fc fg : Nat → Int32) (L : List Nat) (f : Nat → va_E) (a0 : Int32) (a1 : Int32) (a2 : Int32) (a3 : Int32) (a4 : Int32) (a5 : Int32) (hR : mr_RI cI n L f fr) : Met l y_M_leastClash [Cond.code y_M_leastClash b_M_leastClash 9 (some .int)] ({ frames := 2, cells := 0, slots := 0, locals := 47 }) (mr_PW s0 (dC, dI) [(cI, .int), (cR, .object "MeasureRows$Row"), (cL, .long), (cZ, .boolean)] [.ref (r 0), .int a0, .int a1, .int a2, .int a3, .int a4, .int a5] ([((r 0), .inr (0, mf_M r (nI n) nw pb lc)), ((r 1), .inr (1, [.ref (r 2), .ref (r 3)])), ((r 2), .inl (cI, 8, .inl fm)), ((r 3), .inl (cI, 8, .inl fi)), ((r 4), .inl (cR, 80, .inr (.inr (.inr (.inr fr))))), ((r 5), .inl (cI, 80, .inl fl)), ((r 6), .inl (cI, 80, .inl fc)), ((r 7), .inl (cI, 8, .inl fg))] ++ va_pl L f)) (vp_Si (fun _ => True)) 0 0 (fun _ => False) := by
  refine Met.ofW (cc := b_M_leastClash) (maxL := 9) (ret := (some .int)) (by decide) rfl ?_
  intro p e s m args below meth c s₁ B hml hv
  obtain ⟨rfl, hB, hK, hP⟩ := hv
  have hBH := hB.here
  have hx := B.exec
  have hb := B.bytes
  have hr := B.returns
  have hlocks := B.notSynchronized
  have hts : ∀ w ∈ lw_tbl, w.before [.ref (r 0), .int a0, .int a1, .int a2, .int a3, .int a4, .int a5].toArray s = true := hB.hts _
  have hown : s.vm.findClass "MeasureRows" = some m.cls := findClass_of_methodNamed B.named
  have hl := lv_entry ([.ref (r 0), .int a0, .int a1, .int a2, .int a3, .int a4, .int a5]) (n := 9) (Nat.le_of_ble_eq_true rfl)
  rw [lg_entry_eq]
  generalize (lg_sl ([.ref (r 0), .int a0, .int a1, .int a2, .int a3, .int a4, .int a5]) ++ List.replicate (9 - (lg_sl ([.ref (r 0), .int a0, .int a1, .int a2, .int a3, .int a4, .int a5])).length) Slot.unset).toArray = ls at hl ⊢
  have hl : lv_has ls 9 [(0, .ref (r 0)), (1, .int a0), (2, .int a1), (3, .int a2), (4, .int a3), (5, .int a4), (6, .int a5)] := hl
  refine lv_iconst (v := 1) hx hb d_M_leastClash_0 (by decide) ?_
  refine lv_istore (lv' := [(7, .int 1), (0, .ref (r 0)), (1, .int a0), (2, .int a1), (3, .int a2), (4, .int a3), (5, .int a4), (6, .int a5)]) hx hb d_M_leastClash_1 hl (by decide) rfl (fun ls hl => ?_)
  refine mr_loop (N := n) (I := fun j H locs ls => H = s.heap ∧ locs = [] ∧ lv_has ls 9 [(7, .int (nI (j + 1))), (0, .ref (r 0)), (1, .int a0), (2, .int a1), (3, .int a2), (4, .int a3), (5, .int a4), (6, .int a5)]) (fun j H locs ls hj hI ih => ?_) (fun H locs ls hI => ?_) 0 _ _ _ (Nat.zero_le _) ⟨rfl, rfl, (lv_sub hl [0, 1, 2, 3, 4, 5, 6, 7] rfl)⟩
  · obtain ⟨rfl, rfl, hl⟩ := hI
    refine lv_iload hx hb d_M_leastClash_3 (lv_at hl 0 rfl) ?_
    refine lv_aload_n hx hb d_M_leastClash_5 rfl (lv_at hl 1 rfl) ?_
    refine va_get (D := (dC, dI)) (ci := 0) (v := .int (nI n)) (C := R_M) (T := T_M) (N := 9) hx hb hts ti_M hown hK hP 0 rfl rfl 2 (by decide) (hts (Cond.fieldLink "MeasureRows" 22 "MeasureRows" "rowCount" "I") mw_57) (fun _ h9 => h9) rfl d_M_leastClash_6 ?_
    refine lv_icmp_gt (tgt := 63) hx hb d_M_leastClash_9 (by decide) (fun c_1 => absurd c_1 (nI_nlt (by omega) (by have := hR.1; omega))) (fun _ => ?_)
    refine lv_aload_n hx hb d_M_leastClash_12 rfl (lv_at hl 1 rfl) ?_
    refine lv_iload hx hb d_M_leastClash_13 (lv_at hl 0 rfl) ?_
    refine va_csq (va_Run.run (va_runV (As := [.int (nI (j + 1))]) (rest := []) (C := R_M) ⟨hx, hb, hml, hown, hts⟩ (mc_M_find l s0 dC dI cI cR cL cZ r n nw pb lc fr (nI (j + 1)) hR.1) ⟨(mr_cB 1 (hts (Cond.code y_M_find b_M_find 2 (some (.object "MeasureRows$Row"))) mw_117) (hts (Cond.initialized y_M_find.cls) mw_118) (hts (Cond.methodLink "MeasureRows" 111 y_M_find) mw_119) rfl rfl (by decide +kernel) ⟨Nat.le_of_ble_eq_true rfl, Nat.le_of_ble_eq_true rfl⟩), (hts (Cond.instanceMethod y_M_find) mw_120), (hts (Cond.selects "MeasureRows" y_M_find y_M_find) mw_121)⟩ (mr_preV hBH hK (hP.sub (ws' := [((r 0), .inr (0, mf_M r (nI n) nw pb lc)), ((r 4), .inl (cR, 80, .inr (.inr (.inr (.inr fr)))))]) [0, 4] rfl) (ci := 0) (q0 := 0) rfl rfl) rfl rfl hl.1 rfl (lv_room (Nat.le_of_ble_eq_true rfl)) d_M_leastClash_15 ⟨Nat.le_of_ble_eq_true rfl, Nat.le_of_ble_eq_true rfl⟩)) (fun r_2 h_3 => ?_)
    subst h_3
    rcases mr_fc hR (nI (j + 1)) with hf_1 | ⟨i_1, hi_1, hxe_1, a_1, ql_1, qk_1, v0_1, v1_1, v2_1, v4_1, v5_1, v6_1, v7_1, k_1, t_1, ld_1, kd_1, hf_1, hfi_1, m1_1, m2_1, m3_1, e1_1, e2_1, e3_1, hk_1, ht_1, ho_1, hne_1⟩
    · refine mr_topv (show va_rf (mv_M_find n fr (nI (j + 1))) = .null by rw [hf_1]; rfl) ?_
      refine lv_astoreN (lv' := [(8, .null), (7, .int (nI (j + 1))), (0, .ref (r 0)), (1, .int a0), (2, .int a1), (3, .int a2), (4, .int a3), (5, .int a4), (6, .int a5)]) hx hb d_M_leastClash_18 hl (by decide) rfl (fun ls hl => ?_)
      refine lv_aloadN hx hb d_M_leastClash_20 (lv_at hl 0 rfl) ?_
      refine lv_ifnullN (tgt := 57) hx hb d_M_leastClash_22 (by decide) ?_
      refine lv_iinc (v := nI ((j + 1) + 1)) (lv' := [(7, .int (nI ((j + 1) + 1))), (8, .null), (0, .ref (r 0)), (1, .int a0), (2, .int a1), (3, .int a2), (4, .int a3), (5, .int a4), (6, .int a5)]) hx hb d_M_leastClash_57 hl (k := 1) rfl ((nI_succ (j + 1)).symm) (by decide) rfl (fun ls hl => ?_)
      refine lv_goto (tgt := 3) hx hb d_M_leastClash_60 (by decide) ?_
      exact ih _ _ _ ⟨rfl, rfl, lv_sub hl [0, 2, 3, 4, 5, 6, 7, 8] rfl⟩
    · refine mr_topv (show va_rf (mv_M_find n fr (nI (j + 1))) = .ref a_1 by rw [hf_1]; rfl) ?_
      have hPr_1 := mr_row3 (X := [((r 0), .inr (0, mf_M r (nI n) nw pb lc)), ((r 1), .inr (1, [.ref (r 2), .ref (r 3)])), ((r 2), .inl (cI, 8, .inl fm)), ((r 3), .inl (cI, 8, .inl fi)), ((r 4), .inl (cR, 80, .inr (.inr (.inr (.inr fr))))), ((r 5), .inl (cI, 80, .inl fl)), ((r 6), .inl (cI, 80, .inl fc)), ((r 7), .inl (cI, 8, .inl fg))]) hP m1_1 m2_1 m3_1 e1_1 e2_1 e3_1
      refine lv_astore (lv' := [(8, .ref a_1), (7, .int (nI (j + 1))), (0, .ref (r 0)), (1, .int a0), (2, .int a1), (3, .int a2), (4, .int a3), (5, .int a4), (6, .int a5)]) hx hb d_M_leastClash_18 hl (by decide) rfl (fun ls hl => ?_)
      refine lv_aload hx hb d_M_leastClash_20 (lv_at hl 0 rfl) ?_
      refine lv_ifnull hx hb d_M_leastClash_22 ?_
      refine lv_aload hx hb d_M_leastClash_25 (lv_at hl 0 rfl) ?_
      refine lv_iload_n hx hb d_M_leastClash_27 rfl (lv_at hl 3 rfl) ?_
      refine lv_iload_n hx hb d_M_leastClash_28 rfl (lv_at hl 4 rfl) ?_
      refine lv_iload hx hb d_M_leastClash_29 (lv_at hl 7 rfl) ?_
      refine lv_iload hx hb d_M_leastClash_31 (lv_at hl 8 rfl) ?_
      refine vp_callSi (va_Run.run (va_runV (As := [.int a0, .int a1, .int a4, .int a5]) (rest := []) (C := R_R) ⟨hx, hb, hml, hown, hts⟩ (mc_R_isAlike l s0 dC dI cI cR cL cZ a_1 ql_1 qk_1 v0_1 v1_1 v2_1 (nI k_1) v4_1 v5_1 v6_1 v7_1 (nI t_1) a0 a1 a4 a5) ⟨(mr_cB 4 (hts (Cond.code y_R_isAlike b_R_isAlike 5 (some .boolean)) mw_122) (hts (Cond.initialized y_R_isAlike.cls) mw_123) (hts (Cond.methodLink "MeasureRows" 189 y_R_isAlike) mw_124) rfl rfl (by decide +kernel) ⟨Nat.le_of_ble_eq_true rfl, Nat.le_of_ble_eq_true rfl⟩), (hts (Cond.instanceMethod y_R_isAlike) mw_125), (hts (Cond.selects "MeasureRows$Row" y_R_isAlike y_R_isAlike) mw_126)⟩ (mr_preV hBH hK (hPr_1.sub (ws' := [(a_1, .inr (2, [.int v0_1, .int v1_1, .int v2_1, .int (nI k_1), .int v4_1, .int v5_1, .int v6_1, .int v7_1, .int (nI t_1), .ref ql_1, .ref qk_1]))]) [0] rfl) (ci := 2) (q0 := 0) rfl rfl) rfl rfl hl.1 rfl (lv_room (Nat.le_of_ble_eq_true rfl)) d_M_leastClash_33 ⟨Nat.le_of_ble_eq_true rfl, Nat.le_of_ble_eq_true rfl⟩)) (fun r_4 h_5 => ?_)
      subst h_5
      refine lv_if_eq (tgt := 57) hx hb d_M_leastClash_36 (by decide) (fun c_6 => ?_) (fun c_6 => ?_)
      · refine lv_iinc (v := nI ((j + 1) + 1)) (lv' := [(7, .int (nI ((j + 1) + 1))), (8, .ref a_1), (0, .ref (r 0)), (1, .int a0), (2, .int a1), (3, .int a2), (4, .int a3), (5, .int a4), (6, .int a5)]) hx hb d_M_leastClash_57 hl (k := 1) rfl ((nI_succ (j + 1)).symm) (by decide) rfl (fun ls hl => ?_)
        refine lv_goto (tgt := 3) hx hb d_M_leastClash_60 (by decide) ?_
        exact ih _ _ _ ⟨rfl, rfl, lv_sub hl [0, 2, 3, 4, 5, 6, 7, 8] rfl⟩
      · refine lv_aload hx hb d_M_leastClash_39 (lv_at hl 0 rfl) ?_
        refine lv_iload_n hx hb d_M_leastClash_41 rfl (lv_at hl 5 rfl) ?_
        refine lv_iload hx hb d_M_leastClash_42 (lv_at hl 6 rfl) ?_
        refine lv_aload_n hx hb d_M_leastClash_44 rfl (lv_at hl 2 rfl) ?_
        refine va_get (D := (dC, dI)) (ci := 0) (v := .int nw) (C := R_M) (T := T_M) (N := 9) hx hb hts ti_M hown hK hP 0 rfl rfl 3 (by decide) (hts (Cond.fieldLink "MeasureRows" 26 "MeasureRows" "now" "I") mw_58) (fun _ h9 => h9) rfl d_M_leastClash_45 ?_
        refine vp_callSi (va_Run.run (va_runV (As := [.int a2, .int a3, .int nw]) (rest := []) (C := R_R) ⟨hx, hb, hml, hown, hts⟩ (mc_R_meets l s0 dC dI cI cR cL cZ a_1 ql_1 qk_1 v0_1 v1_1 v2_1 (nI k_1) v4_1 v5_1 v6_1 v7_1 t_1 ld_1 kd_1 a2 a3 nw ht_1) ⟨(mr_cB 3 (hts (Cond.code y_R_meets b_R_meets 4 (some .boolean)) mw_108) (hts (Cond.initialized y_R_meets.cls) mw_109) (hts (Cond.methodLink "MeasureRows" 193 y_R_meets) mw_127) rfl rfl (by decide +kernel) ⟨Nat.le_of_ble_eq_true rfl, Nat.le_of_ble_eq_true rfl⟩), (hts (Cond.instanceMethod y_R_meets) mw_111), (hts (Cond.selects "MeasureRows$Row" y_R_meets y_R_meets) mw_112)⟩ (mr_preV hBH hK (hPr_1.sub (ws' := [(a_1, .inr (2, [.int v0_1, .int v1_1, .int v2_1, .int (nI k_1), .int v4_1, .int v5_1, .int v6_1, .int v7_1, .int (nI t_1), .ref ql_1, .ref qk_1])), (ql_1, .inl (cI, 8, .inl ld_1)), (qk_1, .inl (cI, 8, .inl kd_1))]) [0, 1, 2] rfl) (ci := 2) (q0 := 0) rfl rfl) rfl rfl hl.1 rfl (lv_room (Nat.le_of_ble_eq_true rfl)) d_M_leastClash_48 ⟨Nat.le_of_ble_eq_true rfl, Nat.le_of_ble_eq_true rfl⟩)) (fun r_7 h_8 => ?_)
        subst h_8
        refine lv_if_eq (tgt := 57) hx hb d_M_leastClash_51 (by decide) (fun c_9 => ?_) (fun c_9 => ?_)
        · refine lv_iinc (v := nI ((j + 1) + 1)) (lv' := [(7, .int (nI ((j + 1) + 1))), (8, .ref a_1), (0, .ref (r 0)), (1, .int a0), (2, .int a1), (3, .int a2), (4, .int a3), (5, .int a4), (6, .int a5)]) hx hb d_M_leastClash_57 hl (k := 1) rfl ((nI_succ (j + 1)).symm) (by decide) rfl (fun ls hl => ?_)
          refine lv_goto (tgt := 3) hx hb d_M_leastClash_60 (by decide) ?_
          exact ih _ _ _ ⟨rfl, rfl, lv_sub hl [0, 2, 3, 4, 5, 6, 7, 8] rfl⟩
        · refine lv_iload hx hb d_M_leastClash_54 (lv_at hl 1 rfl) ?_
          exact W.iret (v := nI (j + 1)) hx hb hr (fun t ht _ => ⟨_, rfl, trivial, ht⟩) (fun _ h => nomatch h) d_M_leastClash_56
  · obtain ⟨rfl, rfl, hl⟩ := hI
    refine lv_iload hx hb d_M_leastClash_3 (lv_at hl 0 rfl) ?_
    refine lv_aload_n hx hb d_M_leastClash_5 rfl (lv_at hl 1 rfl) ?_
    refine va_get (D := (dC, dI)) (ci := 0) (v := .int (nI n)) (C := R_M) (T := T_M) (N := 9) hx hb hts ti_M hown hK hP 0 rfl rfl 2 (by decide) (hts (Cond.fieldLink "MeasureRows" 22 "MeasureRows" "rowCount" "I") mw_57) (fun _ h9 => h9) rfl d_M_leastClash_6 ?_
    refine lv_icmp_gt (tgt := 63) hx hb d_M_leastClash_9 (by decide) (fun _ => ?_) (fun c_10 => absurd (nI_lt (by omega) (by have := hR.1; omega)) c_10)
    refine lv_iconst (v := (-1)) hx hb d_M_leastClash_63 (by decide) ?_
    exact W.iret (v := (-1)) hx hb hr (fun t ht _ => ⟨_, rfl, trivial, ht⟩) (fun _ h => nomatch h) d_M_leastClash_64
end
section
theorem mw_128 : Cond.stringRef "MeasureRows" 58 "no such group" ∈ lw_tbl := by decide +kernel
theorem mw_129 : Cond.classLink "MeasureRows" 56 mr_iob ∈ lw_tbl := by decide +kernel
theorem mw_130 : Cond.initialized mr_iob ∈ lw_tbl := by decide +kernel
theorem mw_131 : Cond.methodLink "MeasureRows" 63 y_G_wouldRing ∈ lw_tbl := by decide +kernel
theorem mw_132 : Cond.code y_G_reaches b_G_reaches 3 (some .boolean) ∈ lw_tbl := by decide +kernel
theorem mw_133 : Cond.initialized y_G_reaches.cls ∈ lw_tbl := by decide +kernel
theorem mw_134 : Cond.methodLink "MeasureRows" 68 y_G_reaches ∈ lw_tbl := by decide +kernel
theorem mw_135 : Cond.instanceMethod y_G_reaches ∈ lw_tbl := by decide +kernel
theorem mw_136 : Cond.selects "MeasureRows$Groups" y_G_reaches y_G_reaches ∈ lw_tbl := by decide +kernel
theorem mw_137 : Cond.stringRef "MeasureRows" 66 "no such group or land" ∈ lw_tbl := by decide +kernel
theorem mw_138 : Cond.stringRef "MeasureRows" 89 "no such days" ∈ lw_tbl := by decide +kernel
theorem mw_139 : Cond.classLink "MeasureRows" 78 mr_iae ∈ lw_tbl := by decide +kernel
theorem mw_140 : Cond.initialized mr_iae ∈ lw_tbl := by decide +kernel
theorem mw_141 : Cond.code y_R_lastsOn b_R_lastsOn 3 (some .boolean) ∈ lw_tbl := by decide +kernel
theorem mw_142 : Cond.initialized y_R_lastsOn.cls ∈ lw_tbl := by decide +kernel
theorem mw_143 : Cond.methodLink "MeasureRows" 152 y_R_lastsOn ∈ lw_tbl := by decide +kernel
theorem mw_144 : Cond.instanceMethod y_R_lastsOn ∈ lw_tbl := by decide +kernel
theorem mw_145 : Cond.selects "MeasureRows$Row" y_R_lastsOn y_R_lastsOn ∈ lw_tbl := by decide +kernel
theorem mw_146 : Cond.stringRef "MeasureRows" 121 "no such row" ∈ lw_tbl := by decide +kernel
theorem mw_147 : Cond.fieldLink "MeasureRows" 155 "MeasureRows$Row" "code" "I" ∈ lw_tbl := by decide +kernel
theorem mw_148 : Cond.fieldLink "MeasureRows" 158 "MeasureRows$Row" "place" "I" ∈ lw_tbl := by decide +kernel
theorem mw_149 : Cond.fieldLink "MeasureRows" 128 "MeasureRows$Row" "first" "I" ∈ lw_tbl := by decide +kernel
theorem mw_150 : Cond.methodLink "MeasureRows" 161 y_R_lastDayAsOf ∈ lw_tbl := by decide +kernel
theorem mw_151 : Cond.fieldLink "MeasureRows" 164 "MeasureRows$Row" "kind" "I" ∈ lw_tbl := by decide +kernel
theorem mw_152 : Cond.fieldLink "MeasureRows" 167 "MeasureRows$Row" "rank" "I" ∈ lw_tbl := by decide +kernel
theorem mw_153 : Cond.fieldLink "MeasureRows" 170 "MeasureRows$Row" "known" "I" ∈ lw_tbl := by decide +kernel
theorem mw_154 : Cond.fieldLink "MeasureRows" 123 "MeasureRows$Row" "told" "I" ∈ lw_tbl := by decide +kernel
theorem mw_155 : Cond.fieldLink "MeasureRows" 173 "MeasureRows$Row" "excluded" "I" ∈ lw_tbl := by decide +kernel
theorem mw_156 : Cond.methodLink "MeasureRows" 176 y_I_bitCount ∈ lw_tbl := by decide +kernel
theorem mw_157 : Cond.fieldLink "MeasureRows" 181 "MeasureRows$Row" "wanted" "I" ∈ lw_tbl := by decide +kernel
theorem mw_158 : Cond.stringRef "MeasureRows" 184 "nothing such to look at" ∈ lw_tbl := by decide +kernel
def mv_M_ring (fi : Nat → Int32) (a0 : Int32) (a1 : Int32) : Int32 := if (mv_M_isGroup a0) = 0 then 0 else if (mv_M_isGroup a1) = 0 then 0 else (mv_G_wouldRing fi a0 a1)
def mk_M_ring (fi : Nat → Int32) (a0 : Int32) (a1 : Int32) : Int32 := if (mv_M_isGroup a0) = 0 then 1 else if (mv_M_isGroup a1) = 0 then 1 else 0
theorem mv_M_ring_b (fi : Nat → Int32) (a0 : Int32) (a1 : Int32) : mr_b01 (mv_M_ring fi a0 a1) := (mr_bi mr_b0 (mr_bi mr_b0 (mv_G_wouldRing_b fi a0 a1)))
set_option maxHeartbeats 4000000 in
set_option maxRecDepth 100000 in
theorem mc_M_ring (l : Launch) (hlt : l.stackTraces = false) (s0 : State) (dC : Nat → ClassId) (dI : Nat → Nat → Nat) (cI cR cL cZ : ClassId) (r : Nat → Nat) (n : Nat) (nw pb lc : Int32) (fm fi : Nat → Int32) (fr : Nat → Option Nat) (fl fc fg : Nat → Int32) (L : List Nat) (f : Nat → va_E) (a0 : Int32) (a1 : Int32) (hR : mr_RI cI n L f fr) : mr_Met l y_M_ring [Cond.code y_M_ring b_M_ring 3 (some .boolean)] ({ frames := 6, cells := 1, slots := 6, locals := 92 }) (mr_PW s0 (dC, dI) [(cI, .int), (cR, .object "MeasureRows$Row"), (cL, .long), (cZ, .boolean)] [.ref (r 0), .int a0, .int a1] ([((r 0), .inr (0, mf_M r (nI n) nw pb lc)), ((r 1), .inr (1, [.ref (r 2), .ref (r 3)])), ((r 2), .inl (cI, 8, .inl fm)), ((r 3), .inl (cI, 8, .inl fi)), ((r 4), .inl (cR, 80, .inr (.inr (.inr (.inr fr))))), ((r 5), .inl (cI, 80, .inl fl)), ((r 6), .inl (cI, 80, .inl fc)), ((r 7), .inl (cI, 8, .inl fg))] ++ va_pl L f)) (vp_Si (fun r => mk_M_ring fi a0 a1 = 0 ∧ r = mv_M_ring fi a0 a1)) (fun E => (E = mr_iob ∧ mk_M_ring fi a0 a1 = 1)) 1 6 (fun _ => False) := by
  refine mr_of (cc := b_M_ring) (maxL := 3) (ret := (some .boolean)) (by decide) rfl ?_
  intro p e s m args below meth c s₁ B hml hno hv
  obtain ⟨rfl, hB, hK, hP⟩ := hv
  have hBH := hB.here
  have hx := B.exec
  have hb := B.bytes
  have hr := B.returns
  have hlocks := B.notSynchronized
  have hts : ∀ w ∈ lw_tbl, w.before [.ref (r 0), .int a0, .int a1].toArray s = true := hB.hts _
  have hown : s.vm.findClass "MeasureRows" = some m.cls := findClass_of_methodNamed B.named
  have hl := lv_entry ([.ref (r 0), .int a0, .int a1]) (n := 3) (Nat.le_of_ble_eq_true rfl)
  rw [lg_entry_eq]
  generalize (lg_sl ([.ref (r 0), .int a0, .int a1]) ++ List.replicate (3 - (lg_sl ([.ref (r 0), .int a0, .int a1])).length) Slot.unset).toArray = ls at hl ⊢
  have hl : lv_has ls 3 [(0, .ref (r 0)), (1, .int a0), (2, .int a1)] := hl
  refine lv_iload_n hx hb d_M_ring_0 rfl (lv_at hl 1 rfl) ?_
  refine vp_callSi (va_Run.run (va_runS (As := [.int a0]) (rest := []) ⟨hx, hb, hml, hown, hts⟩ (mc_M_isGroup l s0 a0) ⟨(mr_cB 1 (hts (Cond.code y_M_isGroup b_M_isGroup 1 (some .boolean)) mw_5) (hts (Cond.initialized y_M_isGroup.cls) mw_6) (hts (Cond.methodLink "MeasureRows" 45 y_M_isGroup) mw_7) rfl rfl (by decide +kernel) ⟨Nat.le_of_ble_eq_true rfl, Nat.le_of_ble_eq_true rfl⟩), (hts (Cond.static y_M_isGroup) mw_8)⟩ (mr_pre0 hBH) rfl rfl hl.1 rfl (lv_room (Nat.le_of_ble_eq_true rfl)) d_M_ring_1 ⟨Nat.le_of_ble_eq_true rfl, Nat.le_of_ble_eq_true rfl⟩)) (fun r_1 h_2 => ?_)
  subst h_2
  refine lv_if_eq (tgt := 14) hx hb d_M_ring_4 (by decide) (fun c_3 => ?_) (fun c_3 => ?_)
  · obtain ⟨sa, hstr⟩ := mr_str (hts (Cond.stringRef "MeasureRows" 58 "no such group") mw_128) hown
    exact mr_throw (names := mr_up) hx hb hlt hown (by decide +kernel) (by decide +kernel) (hts (Cond.classLink "MeasureRows" 56 mr_iob) mw_129) (hts (Cond.initialized mr_iob) mw_130) hstr (hB.own _ mr_a_iob) (hl.1.trans hml.symm) d_M_ring_14 d_M_ring_17 d_M_ring_18 d_M_ring_20 d_M_ring_23 hno (Nat.le_of_ble_eq_true rfl) (Nat.le_of_ble_eq_true rfl) (Nat.le_of_ble_eq_true rfl) (Nat.le_of_ble_eq_true rfl) hlocks ⟨rfl, by unfold mk_M_ring; rw [if_pos c_3]⟩ (Nat.le_of_ble_eq_true rfl) (Nat.le_of_ble_eq_true rfl)
  · refine lv_iload_n hx hb d_M_ring_7 rfl (lv_at hl 2 rfl) ?_
    refine vp_callSi (va_Run.run (va_runS (As := [.int a1]) (rest := []) ⟨hx, hb, hml, hown, hts⟩ (mc_M_isGroup l s0 a1) ⟨(mr_cB 1 (hts (Cond.code y_M_isGroup b_M_isGroup 1 (some .boolean)) mw_5) (hts (Cond.initialized y_M_isGroup.cls) mw_6) (hts (Cond.methodLink "MeasureRows" 45 y_M_isGroup) mw_7) rfl rfl (by decide +kernel) ⟨Nat.le_of_ble_eq_true rfl, Nat.le_of_ble_eq_true rfl⟩), (hts (Cond.static y_M_isGroup) mw_8)⟩ (mr_pre0 hBH) rfl rfl hl.1 rfl (lv_room (Nat.le_of_ble_eq_true rfl)) d_M_ring_8 ⟨Nat.le_of_ble_eq_true rfl, Nat.le_of_ble_eq_true rfl⟩)) (fun r_4 h_5 => ?_)
    subst h_5
    refine lv_if_ne (tgt := 24) hx hb d_M_ring_11 (by decide) (fun c_6 => ?_) (fun c_6 => ?_)
    · refine lv_aload_n hx hb d_M_ring_24 rfl (lv_at hl 0 rfl) ?_
      refine va_get (D := (dC, dI)) (ci := 0) (v := .ref (r 1)) (C := R_M) (T := T_M) (N := 9) hx hb hts ti_M hown hK hP 0 rfl rfl 0 (by decide) (hts (Cond.fieldLink "MeasureRows" 10 "MeasureRows" "groups" "LMeasureRows$Groups;") mw_53) (fun _ h9 => h9) rfl d_M_ring_25 ?_
      refine lv_iload_n hx hb d_M_ring_28 rfl (lv_at hl 1 rfl) ?_
      refine lv_iload_n hx hb d_M_ring_29 rfl (lv_at hl 2 rfl) ?_
      refine vp_callSi (va_Run.run (va_runV (As := [.int a0, .int a1]) (rest := []) (C := R_G) ⟨hx, hb, hml, hown, hts⟩ (mc_G_wouldRing l s0 dC dI cI cR cL cZ (r 1) (r 2) (r 3) fi a0 a1) ⟨(mr_cB 2 (hts (Cond.code y_G_wouldRing b_G_wouldRing 3 (some .boolean)) mw_76) (hts (Cond.initialized y_G_wouldRing.cls) mw_77) (hts (Cond.methodLink "MeasureRows" 63 y_G_wouldRing) mw_131) rfl rfl (by decide +kernel) ⟨Nat.le_of_ble_eq_true rfl, Nat.le_of_ble_eq_true rfl⟩), (hts (Cond.instanceMethod y_G_wouldRing) mw_79), (hts (Cond.selects "MeasureRows$Groups" y_G_wouldRing y_G_wouldRing) mw_80)⟩ (mr_preV hBH hK (hP.sub (ws' := [((r 1), .inr (1, [.ref (r 2), .ref (r 3)])), ((r 3), .inl (cI, 8, .inl fi))]) [1, 3] rfl) (ci := 1) (q0 := 0) rfl rfl) rfl rfl hl.1 rfl (lv_room (Nat.le_of_ble_eq_true rfl)) d_M_ring_30 ⟨Nat.le_of_ble_eq_true rfl, Nat.le_of_ble_eq_true rfl⟩)) (fun r_7 h_8 => ?_)
      subst h_8
      refine mr_ret ?_
      refine W.widen (k := 1) (n := 6) (Nat.le_of_ble_eq_true rfl) (Nat.le_of_ble_eq_true rfl) ?_
      exact W.zret (v := mv_G_wouldRing fi a0 a1) hx hb hr (mr_narz (mv_G_wouldRing_b fi a0 a1)) (fun t ht _ => ⟨_, rfl, ⟨by unfold mk_M_ring; rw [if_neg c_3, if_neg c_6], by unfold mv_M_ring; rw [if_neg c_3, if_neg c_6]⟩, ht⟩) (fun _ h => nomatch h) d_M_ring_33
    · obtain ⟨sa, hstr⟩ := mr_str (hts (Cond.stringRef "MeasureRows" 58 "no such group") mw_128) hown
      exact mr_throw (names := mr_up) hx hb hlt hown (by decide +kernel) (by decide +kernel) (hts (Cond.classLink "MeasureRows" 56 mr_iob) mw_129) (hts (Cond.initialized mr_iob) mw_130) hstr (hB.own _ mr_a_iob) (hl.1.trans hml.symm) d_M_ring_14 d_M_ring_17 d_M_ring_18 d_M_ring_20 d_M_ring_23 hno (Nat.le_of_ble_eq_true rfl) (Nat.le_of_ble_eq_true rfl) (Nat.le_of_ble_eq_true rfl) (Nat.le_of_ble_eq_true rfl) hlocks ⟨rfl, by unfold mk_M_ring; rw [if_neg c_3, if_pos c_6]⟩ (Nat.le_of_ble_eq_true rfl) (Nat.le_of_ble_eq_true rfl)
def mv_M_has (fi : Nat → Int32) (a0 : Int32) (a1 : Int32) : Int32 := if (mv_M_isGroup a0) = 0 then (if a0 = 31 then (if (mv_M_isLand a1) = 0 then 0 else (mv_G_reaches fi a0 a1)) else 0) else if (mv_M_isLand a1) = 0 then 0 else (mv_G_reaches fi a0 a1)
def mk_M_has (fi : Nat → Int32) (a0 : Int32) (a1 : Int32) : Int32 := if (mv_M_isGroup a0) = 0 then (if a0 = 31 then (if (mv_M_isLand a1) = 0 then 1 else 0) else 1) else if (mv_M_isLand a1) = 0 then 1 else 0
theorem mv_M_has_b (fi : Nat → Int32) (a0 : Int32) (a1 : Int32) : mr_b01 (mv_M_has fi a0 a1) := (mr_bi (mr_bi (mr_bi mr_b0 (mv_G_reaches_b fi a0 a1)) mr_b0) (mr_bi mr_b0 (mv_G_reaches_b fi a0 a1)))
set_option maxHeartbeats 4000000 in
set_option maxRecDepth 100000 in
theorem mc_M_has (l : Launch) (hlt : l.stackTraces = false) (s0 : State) (dC : Nat → ClassId) (dI : Nat → Nat → Nat) (cI cR cL cZ : ClassId) (r : Nat → Nat) (n : Nat) (nw pb lc : Int32) (fm fi : Nat → Int32) (fr : Nat → Option Nat) (fl fc fg : Nat → Int32) (L : List Nat) (f : Nat → va_E) (a0 : Int32) (a1 : Int32) (hR : mr_RI cI n L f fr) : mr_Met l y_M_has [Cond.code y_M_has b_M_has 3 (some .boolean)] ({ frames := 6, cells := 1, slots := 6, locals := 92 }) (mr_PW s0 (dC, dI) [(cI, .int), (cR, .object "MeasureRows$Row"), (cL, .long), (cZ, .boolean)] [.ref (r 0), .int a0, .int a1] ([((r 0), .inr (0, mf_M r (nI n) nw pb lc)), ((r 1), .inr (1, [.ref (r 2), .ref (r 3)])), ((r 2), .inl (cI, 8, .inl fm)), ((r 3), .inl (cI, 8, .inl fi)), ((r 4), .inl (cR, 80, .inr (.inr (.inr (.inr fr))))), ((r 5), .inl (cI, 80, .inl fl)), ((r 6), .inl (cI, 80, .inl fc)), ((r 7), .inl (cI, 8, .inl fg))] ++ va_pl L f)) (vp_Si (fun r => mk_M_has fi a0 a1 = 0 ∧ r = mv_M_has fi a0 a1)) (fun E => (E = mr_iob ∧ mk_M_has fi a0 a1 = 1)) 1 6 (fun _ => False) := by
  refine mr_of (cc := b_M_has) (maxL := 3) (ret := (some .boolean)) (by decide) rfl ?_
  intro p e s m args below meth c s₁ B hml hno hv
  obtain ⟨rfl, hB, hK, hP⟩ := hv
  have hBH := hB.here
  have hx := B.exec
  have hb := B.bytes
  have hr := B.returns
  have hlocks := B.notSynchronized
  have hts : ∀ w ∈ lw_tbl, w.before [.ref (r 0), .int a0, .int a1].toArray s = true := hB.hts _
  have hown : s.vm.findClass "MeasureRows" = some m.cls := findClass_of_methodNamed B.named
  have hl := lv_entry ([.ref (r 0), .int a0, .int a1]) (n := 3) (Nat.le_of_ble_eq_true rfl)
  rw [lg_entry_eq]
  generalize (lg_sl ([.ref (r 0), .int a0, .int a1]) ++ List.replicate (3 - (lg_sl ([.ref (r 0), .int a0, .int a1])).length) Slot.unset).toArray = ls at hl ⊢
  have hl : lv_has ls 3 [(0, .ref (r 0)), (1, .int a0), (2, .int a1)] := hl
  refine lv_iload_n hx hb d_M_has_0 rfl (lv_at hl 1 rfl) ?_
  refine vp_callSi (va_Run.run (va_runS (As := [.int a0]) (rest := []) ⟨hx, hb, hml, hown, hts⟩ (mc_M_isGroup l s0 a0) ⟨(mr_cB 1 (hts (Cond.code y_M_isGroup b_M_isGroup 1 (some .boolean)) mw_5) (hts (Cond.initialized y_M_isGroup.cls) mw_6) (hts (Cond.methodLink "MeasureRows" 45 y_M_isGroup) mw_7) rfl rfl (by decide +kernel) ⟨Nat.le_of_ble_eq_true rfl, Nat.le_of_ble_eq_true rfl⟩), (hts (Cond.static y_M_isGroup) mw_8)⟩ (mr_pre0 hBH) rfl rfl hl.1 rfl (lv_room (Nat.le_of_ble_eq_true rfl)) d_M_has_1 ⟨Nat.le_of_ble_eq_true rfl, Nat.le_of_ble_eq_true rfl⟩)) (fun r_1 h_2 => ?_)
  subst h_2
  refine lv_if_ne (tgt := 13) hx hb d_M_has_4 (by decide) (fun c_3 => ?_) (fun c_3 => ?_)
  · refine lv_iload_n hx hb d_M_has_13 rfl (lv_at hl 2 rfl) ?_
    refine vp_callSi (va_Run.run (va_runS (As := [.int a1]) (rest := []) ⟨hx, hb, hml, hown, hts⟩ (mc_M_isLand l s0 a1) ⟨(mr_cB 1 (hts (Cond.code y_M_isLand b_M_isLand 1 (some .boolean)) mw_1) (hts (Cond.initialized y_M_isLand.cls) mw_2) (hts (Cond.methodLink "MeasureRows" 49 y_M_isLand) mw_3) rfl rfl (by decide +kernel) ⟨Nat.le_of_ble_eq_true rfl, Nat.le_of_ble_eq_true rfl⟩), (hts (Cond.static y_M_isLand) mw_4)⟩ (mr_pre0 hBH) rfl rfl hl.1 rfl (lv_room (Nat.le_of_ble_eq_true rfl)) d_M_has_14 ⟨Nat.le_of_ble_eq_true rfl, Nat.le_of_ble_eq_true rfl⟩)) (fun r_4 h_5 => ?_)
    subst h_5
    refine lv_if_ne (tgt := 30) hx hb d_M_has_17 (by decide) (fun c_6 => ?_) (fun c_6 => ?_)
    · refine lv_aload_n hx hb d_M_has_30 rfl (lv_at hl 0 rfl) ?_
      refine va_get (D := (dC, dI)) (ci := 0) (v := .ref (r 1)) (C := R_M) (T := T_M) (N := 9) hx hb hts ti_M hown hK hP 0 rfl rfl 0 (by decide) (hts (Cond.fieldLink "MeasureRows" 10 "MeasureRows" "groups" "LMeasureRows$Groups;") mw_53) (fun _ h9 => h9) rfl d_M_has_31 ?_
      refine lv_iload_n hx hb d_M_has_34 rfl (lv_at hl 1 rfl) ?_
      refine lv_iload_n hx hb d_M_has_35 rfl (lv_at hl 2 rfl) ?_
      refine vp_callSi (va_Run.run (va_runV (As := [.int a0, .int a1]) (rest := []) (C := R_G) ⟨hx, hb, hml, hown, hts⟩ (mc_G_reaches l s0 dC dI cI cR cL cZ (r 1) (r 2) (r 3) fi a0 a1) ⟨(mr_cB 2 (hts (Cond.code y_G_reaches b_G_reaches 3 (some .boolean)) mw_132) (hts (Cond.initialized y_G_reaches.cls) mw_133) (hts (Cond.methodLink "MeasureRows" 68 y_G_reaches) mw_134) rfl rfl (by decide +kernel) ⟨Nat.le_of_ble_eq_true rfl, Nat.le_of_ble_eq_true rfl⟩), (hts (Cond.instanceMethod y_G_reaches) mw_135), (hts (Cond.selects "MeasureRows$Groups" y_G_reaches y_G_reaches) mw_136)⟩ (mr_preV hBH hK (hP.sub (ws' := [((r 1), .inr (1, [.ref (r 2), .ref (r 3)])), ((r 3), .inl (cI, 8, .inl fi))]) [1, 3] rfl) (ci := 1) (q0 := 0) rfl rfl) rfl rfl hl.1 rfl (lv_room (Nat.le_of_ble_eq_true rfl)) d_M_has_36 ⟨Nat.le_of_ble_eq_true rfl, Nat.le_of_ble_eq_true rfl⟩)) (fun r_7 h_8 => ?_)
      subst h_8
      refine mr_ret ?_
      refine W.widen (k := 1) (n := 6) (Nat.le_of_ble_eq_true rfl) (Nat.le_of_ble_eq_true rfl) ?_
      exact W.zret (v := mv_G_reaches fi a0 a1) hx hb hr (mr_narz (mv_G_reaches_b fi a0 a1)) (fun t ht _ => ⟨_, rfl, ⟨by unfold mk_M_has; rw [if_neg c_3, if_neg c_6], by unfold mv_M_has; rw [if_neg c_3, if_neg c_6]⟩, ht⟩) (fun _ h => nomatch h) d_M_has_39
    · obtain ⟨sa, hstr⟩ := mr_str (hts (Cond.stringRef "MeasureRows" 66 "no such group or land") mw_137) hown
      exact mr_throw (names := mr_up) hx hb hlt hown (by decide +kernel) (by decide +kernel) (hts (Cond.classLink "MeasureRows" 56 mr_iob) mw_129) (hts (Cond.initialized mr_iob) mw_130) hstr (hB.own _ mr_a_iob) (hl.1.trans hml.symm) d_M_has_20 d_M_has_23 d_M_has_24 d_M_has_26 d_M_has_29 hno (Nat.le_of_ble_eq_true rfl) (Nat.le_of_ble_eq_true rfl) (Nat.le_of_ble_eq_true rfl) (Nat.le_of_ble_eq_true rfl) hlocks ⟨rfl, by unfold mk_M_has; rw [if_neg c_3, if_pos c_6]⟩ (Nat.le_of_ble_eq_true rfl) (Nat.le_of_ble_eq_true rfl)
  · refine lv_iload_n hx hb d_M_has_7 rfl (lv_at hl 1 rfl) ?_
    refine lv_bipush (v := 31) hx hb d_M_has_8 (by decide) ?_
    refine lv_icmp_ne (tgt := 20) hx hb d_M_has_10 (by decide) (fun c_9 => ?_) (fun c_9 => ?_)
    · obtain ⟨sa, hstr⟩ := mr_str (hts (Cond.stringRef "MeasureRows" 66 "no such group or land") mw_137) hown
      exact mr_throw (names := mr_up) hx hb hlt hown (by decide +kernel) (by decide +kernel) (hts (Cond.classLink "MeasureRows" 56 mr_iob) mw_129) (hts (Cond.initialized mr_iob) mw_130) hstr (hB.own _ mr_a_iob) (hl.1.trans hml.symm) d_M_has_20 d_M_has_23 d_M_has_24 d_M_has_26 d_M_has_29 hno (Nat.le_of_ble_eq_true rfl) (Nat.le_of_ble_eq_true rfl) (Nat.le_of_ble_eq_true rfl) (Nat.le_of_ble_eq_true rfl) hlocks ⟨rfl, by unfold mk_M_has; rw [if_pos c_3, if_neg c_9]⟩ (Nat.le_of_ble_eq_true rfl) (Nat.le_of_ble_eq_true rfl)
    · refine lv_iload_n hx hb d_M_has_13 rfl (lv_at hl 2 rfl) ?_
      refine vp_callSi (va_Run.run (va_runS (As := [.int a1]) (rest := []) ⟨hx, hb, hml, hown, hts⟩ (mc_M_isLand l s0 a1) ⟨(mr_cB 1 (hts (Cond.code y_M_isLand b_M_isLand 1 (some .boolean)) mw_1) (hts (Cond.initialized y_M_isLand.cls) mw_2) (hts (Cond.methodLink "MeasureRows" 49 y_M_isLand) mw_3) rfl rfl (by decide +kernel) ⟨Nat.le_of_ble_eq_true rfl, Nat.le_of_ble_eq_true rfl⟩), (hts (Cond.static y_M_isLand) mw_4)⟩ (mr_pre0 hBH) rfl rfl hl.1 rfl (lv_room (Nat.le_of_ble_eq_true rfl)) d_M_has_14 ⟨Nat.le_of_ble_eq_true rfl, Nat.le_of_ble_eq_true rfl⟩)) (fun r_10 h_11 => ?_)
      subst h_11
      refine lv_if_ne (tgt := 30) hx hb d_M_has_17 (by decide) (fun c_12 => ?_) (fun c_12 => ?_)
      · refine lv_aload_n hx hb d_M_has_30 rfl (lv_at hl 0 rfl) ?_
        refine va_get (D := (dC, dI)) (ci := 0) (v := .ref (r 1)) (C := R_M) (T := T_M) (N := 9) hx hb hts ti_M hown hK hP 0 rfl rfl 0 (by decide) (hts (Cond.fieldLink "MeasureRows" 10 "MeasureRows" "groups" "LMeasureRows$Groups;") mw_53) (fun _ h9 => h9) rfl d_M_has_31 ?_
        refine lv_iload_n hx hb d_M_has_34 rfl (lv_at hl 1 rfl) ?_
        refine lv_iload_n hx hb d_M_has_35 rfl (lv_at hl 2 rfl) ?_
        refine vp_callSi (va_Run.run (va_runV (As := [.int a0, .int a1]) (rest := []) (C := R_G) ⟨hx, hb, hml, hown, hts⟩ (mc_G_reaches l s0 dC dI cI cR cL cZ (r 1) (r 2) (r 3) fi a0 a1) ⟨(mr_cB 2 (hts (Cond.code y_G_reaches b_G_reaches 3 (some .boolean)) mw_132) (hts (Cond.initialized y_G_reaches.cls) mw_133) (hts (Cond.methodLink "MeasureRows" 68 y_G_reaches) mw_134) rfl rfl (by decide +kernel) ⟨Nat.le_of_ble_eq_true rfl, Nat.le_of_ble_eq_true rfl⟩), (hts (Cond.instanceMethod y_G_reaches) mw_135), (hts (Cond.selects "MeasureRows$Groups" y_G_reaches y_G_reaches) mw_136)⟩ (mr_preV hBH hK (hP.sub (ws' := [((r 1), .inr (1, [.ref (r 2), .ref (r 3)])), ((r 3), .inl (cI, 8, .inl fi))]) [1, 3] rfl) (ci := 1) (q0 := 0) rfl rfl) rfl rfl hl.1 rfl (lv_room (Nat.le_of_ble_eq_true rfl)) d_M_has_36 ⟨Nat.le_of_ble_eq_true rfl, Nat.le_of_ble_eq_true rfl⟩)) (fun r_13 h_14 => ?_)
        subst h_14
        refine mr_ret ?_
        refine W.widen (k := 1) (n := 6) (Nat.le_of_ble_eq_true rfl) (Nat.le_of_ble_eq_true rfl) ?_
        exact W.zret (v := mv_G_reaches fi a0 a1) hx hb hr (mr_narz (mv_G_reaches_b fi a0 a1)) (fun t ht _ => ⟨_, rfl, ⟨by unfold mk_M_has; rw [if_pos c_3, if_pos c_9, if_neg c_12], by unfold mv_M_has; rw [if_pos c_3, if_pos c_9, if_neg c_12]⟩, ht⟩) (fun _ h => nomatch h) d_M_has_39
      · obtain ⟨sa, hstr⟩ := mr_str (hts (Cond.stringRef "MeasureRows" 66 "no such group or land") mw_137) hown
        exact mr_throw (names := mr_up) hx hb hlt hown (by decide +kernel) (by decide +kernel) (hts (Cond.classLink "MeasureRows" 56 mr_iob) mw_129) (hts (Cond.initialized mr_iob) mw_130) hstr (hB.own _ mr_a_iob) (hl.1.trans hml.symm) d_M_has_20 d_M_has_23 d_M_has_24 d_M_has_26 d_M_has_29 hno (Nat.le_of_ble_eq_true rfl) (Nat.le_of_ble_eq_true rfl) (Nat.le_of_ble_eq_true rfl) (Nat.le_of_ble_eq_true rfl) hlocks ⟨rfl, by unfold mk_M_has; rw [if_pos c_3, if_pos c_9, if_pos c_12]⟩ (Nat.le_of_ble_eq_true rfl) (Nat.le_of_ble_eq_true rfl)
set_option maxHeartbeats 4000000 in
set_option maxRecDepth 100000 in
theorem mc_M_change (l : Launch) (hlt : l.stackTraces = false) (s0 : State) (dC : Nat → ClassId) (dI : Nat → Nat → Nat) (cI cR cL cZ : ClassId) (r : Nat → Nat) (n : Nat) (nw pb lc : Int32) (fm fi : Nat → Int32) (fr : Nat → Option Nat) (fl fc fg : Nat → Int32) (L : List Nat) (f : Nat → va_E) (a0 : Int32) (a1 : Int32) (a2 : Int32) (hR : mr_RI cI n L f fr) : mr_Met l y_M_change [Cond.code y_M_change b_M_change 7 (some .int)] ({ frames := 6, cells := 1, slots := 6, locals := 92 }) (mr_PW s0 (dC, dI) [(cI, .int), (cR, .object "MeasureRows$Row"), (cL, .long), (cZ, .boolean)] [.ref (r 0), .int a0, .int a1, .int a2] ([((r 0), .inr (0, mf_M r (nI n) nw pb lc)), ((r 1), .inr (1, [.ref (r 2), .ref (r 3)])), ((r 2), .inl (cI, 8, .inl fm)), ((r 3), .inl (cI, 8, .inl fi)), ((r 4), .inl (cR, 80, .inr (.inr (.inr (.inr fr))))), ((r 5), .inl (cI, 80, .inl fl)), ((r 6), .inl (cI, 80, .inl fc)), ((r 7), .inl (cI, 8, .inl fg))] ++ va_pl L f)) (vp_Si (fun r => True)) (fun E => E = mr_iae) 1 6 (fun _ => False) := by
  refine mr_of (cc := b_M_change) (maxL := 7) (ret := (some .int)) (by decide) rfl ?_
  intro p e s m args below meth c s₁ B hml hno hv
  obtain ⟨rfl, hB, hK, hP⟩ := hv
  have hBH := hB.here
  have hx := B.exec
  have hb := B.bytes
  have hr := B.returns
  have hlocks := B.notSynchronized
  have hts : ∀ w ∈ lw_tbl, w.before [.ref (r 0), .int a0, .int a1, .int a2].toArray s = true := hB.hts _
  have hown : s.vm.findClass "MeasureRows" = some m.cls := findClass_of_methodNamed B.named
  have hl := lv_entry ([.ref (r 0), .int a0, .int a1, .int a2]) (n := 7) (Nat.le_of_ble_eq_true rfl)
  rw [lg_entry_eq]
  generalize (lg_sl ([.ref (r 0), .int a0, .int a1, .int a2]) ++ List.replicate (7 - (lg_sl ([.ref (r 0), .int a0, .int a1, .int a2])).length) Slot.unset).toArray = ls at hl ⊢
  have hl : lv_has ls 7 [(0, .ref (r 0)), (1, .int a0), (2, .int a1), (3, .int a2)] := hl
  refine lv_iload_n hx hb d_M_change_0 rfl (lv_at hl 1 rfl) ?_
  refine vp_callSi (va_Run.run (va_runS (As := [.int a0]) (rest := []) ⟨hx, hb, hml, hown, hts⟩ (mc_M_isDay l s0 a0) ⟨(mr_cB 1 (hts (Cond.code y_M_isDay b_M_isDay 1 (some .boolean)) mw_9) (hts (Cond.initialized y_M_isDay.cls) mw_10) (hts (Cond.methodLink "MeasureRows" 83 y_M_isDay) mw_11) rfl rfl (by decide +kernel) ⟨Nat.le_of_ble_eq_true rfl, Nat.le_of_ble_eq_true rfl⟩), (hts (Cond.static y_M_isDay) mw_12)⟩ (mr_pre0 hBH) rfl rfl hl.1 rfl (lv_room (Nat.le_of_ble_eq_true rfl)) d_M_change_1 ⟨Nat.le_of_ble_eq_true rfl, Nat.le_of_ble_eq_true rfl⟩)) (fun r_1 h_2 => ?_)
  subst h_2
  refine lv_if_eq (tgt := 14) hx hb d_M_change_4 (by decide) (fun c_3 => ?_) (fun c_3 => ?_)
  · obtain ⟨sa, hstr⟩ := mr_str (hts (Cond.stringRef "MeasureRows" 89 "no such days") mw_138) hown
    exact mr_throw (names := mr_up) hx hb hlt hown (by decide +kernel) (by decide +kernel) (hts (Cond.classLink "MeasureRows" 78 mr_iae) mw_139) (hts (Cond.initialized mr_iae) mw_140) hstr (hB.own _ mr_a_iae) (hl.1.trans hml.symm) d_M_change_14 d_M_change_17 d_M_change_18 d_M_change_20 d_M_change_23 hno (Nat.le_of_ble_eq_true rfl) (Nat.le_of_ble_eq_true rfl) (Nat.le_of_ble_eq_true rfl) (Nat.le_of_ble_eq_true rfl) hlocks rfl (Nat.le_of_ble_eq_true rfl) (Nat.le_of_ble_eq_true rfl)
  · refine lv_iload_n hx hb d_M_change_7 rfl (lv_at hl 2 rfl) ?_
    refine vp_callSi (va_Run.run (va_runS (As := [.int a1]) (rest := []) ⟨hx, hb, hml, hown, hts⟩ (mc_M_isDay l s0 a1) ⟨(mr_cB 1 (hts (Cond.code y_M_isDay b_M_isDay 1 (some .boolean)) mw_9) (hts (Cond.initialized y_M_isDay.cls) mw_10) (hts (Cond.methodLink "MeasureRows" 83 y_M_isDay) mw_11) rfl rfl (by decide +kernel) ⟨Nat.le_of_ble_eq_true rfl, Nat.le_of_ble_eq_true rfl⟩), (hts (Cond.static y_M_isDay) mw_12)⟩ (mr_pre0 hBH) rfl rfl hl.1 rfl (lv_room (Nat.le_of_ble_eq_true rfl)) d_M_change_8 ⟨Nat.le_of_ble_eq_true rfl, Nat.le_of_ble_eq_true rfl⟩)) (fun r_4 h_5 => ?_)
    subst h_5
    refine lv_if_ne (tgt := 24) hx hb d_M_change_11 (by decide) (fun c_6 => ?_) (fun c_6 => ?_)
    · refine lv_iconst (v := 0) hx hb d_M_change_24 (by decide) ?_
      refine lv_istore (lv' := [(4, .int 0), (0, .ref (r 0)), (1, .int a0), (2, .int a1), (3, .int a2)]) hx hb d_M_change_25 hl (by decide) rfl (fun ls hl => ?_)
      refine lv_iconst (v := 1) hx hb d_M_change_27 (by decide) ?_
      refine lv_istore (lv' := [(5, .int 1), (4, .int 0), (0, .ref (r 0)), (1, .int a0), (2, .int a1), (3, .int a2)]) hx hb d_M_change_28 hl (by decide) rfl (fun ls hl => ?_)
      refine mr_loop (N := n) (I := fun j H locs ls => H = s.heap ∧ locs = [] ∧ ∃ ps : Int32, lv_has ls 7 [(5, .int (nI (j + 1))), (4, .int ps), (0, .ref (r 0)), (1, .int a0), (2, .int a1), (3, .int a2)]) (fun j H locs ls hj hI ih => ?_) (fun H locs ls hI => ?_) 0 _ _ _ (Nat.zero_le _) ⟨rfl, rfl, 0, (lv_sub hl [0, 1, 2, 3, 4, 5] rfl)⟩
      · obtain ⟨rfl, rfl, ps, hl⟩ := hI
        refine lv_iload hx hb d_M_change_30 (lv_at hl 0 rfl) ?_
        refine lv_aload_n hx hb d_M_change_32 rfl (lv_at hl 2 rfl) ?_
        refine va_get (D := (dC, dI)) (ci := 0) (v := .int (nI n)) (C := R_M) (T := T_M) (N := 9) hx hb hts ti_M hown hK hP 0 rfl rfl 2 (by decide) (hts (Cond.fieldLink "MeasureRows" 22 "MeasureRows" "rowCount" "I") mw_57) (fun _ h9 => h9) rfl d_M_change_33 ?_
        refine lv_icmp_gt (tgt := 93) hx hb d_M_change_36 (by decide) (fun c_7 => absurd c_7 (nI_nlt (by omega) (by have := hR.1; omega))) (fun _ => ?_)
        refine lv_aload_n hx hb d_M_change_39 rfl (lv_at hl 2 rfl) ?_
        refine lv_iload hx hb d_M_change_40 (lv_at hl 0 rfl) ?_
        refine va_csq (va_Run.run (va_runV (As := [.int (nI (j + 1))]) (rest := []) (C := R_M) ⟨hx, hb, hml, hown, hts⟩ (mc_M_find l s0 dC dI cI cR cL cZ r n nw pb lc fr (nI (j + 1)) hR.1) ⟨(mr_cB 1 (hts (Cond.code y_M_find b_M_find 2 (some (.object "MeasureRows$Row"))) mw_117) (hts (Cond.initialized y_M_find.cls) mw_118) (hts (Cond.methodLink "MeasureRows" 111 y_M_find) mw_119) rfl rfl (by decide +kernel) ⟨Nat.le_of_ble_eq_true rfl, Nat.le_of_ble_eq_true rfl⟩), (hts (Cond.instanceMethod y_M_find) mw_120), (hts (Cond.selects "MeasureRows" y_M_find y_M_find) mw_121)⟩ (mr_preV hBH hK (hP.sub (ws' := [((r 0), .inr (0, mf_M r (nI n) nw pb lc)), ((r 4), .inl (cR, 80, .inr (.inr (.inr (.inr fr)))))]) [0, 4] rfl) (ci := 0) (q0 := 0) rfl rfl) rfl rfl hl.1 rfl (lv_room (Nat.le_of_ble_eq_true rfl)) d_M_change_42 ⟨Nat.le_of_ble_eq_true rfl, Nat.le_of_ble_eq_true rfl⟩)) (fun r_8 h_9 => ?_)
        subst h_9
        rcases mr_fc hR (nI (j + 1)) with hf_2 | ⟨i_2, hi_2, hxe_2, a_2, ql_2, qk_2, v0_2, v1_2, v2_2, v4_2, v5_2, v6_2, v7_2, k_2, t_2, ld_2, kd_2, hf_2, hfi_2, m1_2, m2_2, m3_2, e1_2, e2_2, e3_2, hk_2, ht_2, ho_2, hne_2⟩
        · refine mr_topv (show va_rf (mv_M_find n fr (nI (j + 1))) = .null by rw [hf_2]; rfl) ?_
          refine lv_astoreN (lv' := [(6, .null), (5, .int (nI (j + 1))), (4, .int ps), (0, .ref (r 0)), (1, .int a0), (2, .int a1), (3, .int a2)]) hx hb d_M_change_45 hl (by decide) rfl (fun ls hl => ?_)
          refine lv_aloadN hx hb d_M_change_47 (lv_at hl 0 rfl) ?_
          refine lv_ifnullN (tgt := 87) hx hb d_M_change_49 (by decide) ?_
          refine lv_iinc (v := nI ((j + 1) + 1)) (lv' := [(5, .int (nI ((j + 1) + 1))), (6, .null), (4, .int ps), (0, .ref (r 0)), (1, .int a0), (2, .int a1), (3, .int a2)]) hx hb d_M_change_87 hl (k := 1) rfl ((nI_succ (j + 1)).symm) (by decide) rfl (fun ls hl => ?_)
          refine lv_goto (tgt := 30) hx hb d_M_change_90 (by decide) ?_
          exact ih _ _ _ ⟨rfl, rfl, ps, lv_sub hl [0, 2, 3, 4, 5, 6] rfl⟩
        · refine mr_topv (show va_rf (mv_M_find n fr (nI (j + 1))) = .ref a_2 by rw [hf_2]; rfl) ?_
          have hPr_2 := mr_row3 (X := [((r 0), .inr (0, mf_M r (nI n) nw pb lc)), ((r 1), .inr (1, [.ref (r 2), .ref (r 3)])), ((r 2), .inl (cI, 8, .inl fm)), ((r 3), .inl (cI, 8, .inl fi)), ((r 4), .inl (cR, 80, .inr (.inr (.inr (.inr fr))))), ((r 5), .inl (cI, 80, .inl fl)), ((r 6), .inl (cI, 80, .inl fc)), ((r 7), .inl (cI, 8, .inl fg))]) hP m1_2 m2_2 m3_2 e1_2 e2_2 e3_2
          refine lv_astore (lv' := [(6, .ref a_2), (5, .int (nI (j + 1))), (4, .int ps), (0, .ref (r 0)), (1, .int a0), (2, .int a1), (3, .int a2)]) hx hb d_M_change_45 hl (by decide) rfl (fun ls hl => ?_)
          refine lv_aload hx hb d_M_change_47 (lv_at hl 0 rfl) ?_
          refine lv_ifnull hx hb d_M_change_49 ?_
          refine lv_aload hx hb d_M_change_52 (lv_at hl 0 rfl) ?_
          refine lv_iload_n hx hb d_M_change_54 rfl (lv_at hl 4 rfl) ?_
          refine lv_aload_n hx hb d_M_change_55 rfl (lv_at hl 3 rfl) ?_
          refine va_get (D := (dC, dI)) (ci := 0) (v := .int nw) (C := R_M) (T := T_M) (N := 9) hx hb hts ti_M hown hK hP 0 rfl rfl 3 (by decide) (hts (Cond.fieldLink "MeasureRows" 26 "MeasureRows" "now" "I") mw_58) (fun _ h9 => h9) rfl d_M_change_56 ?_
          refine vp_callSi (va_Run.run (va_runV (As := [.int a0, .int nw]) (rest := []) (C := R_R) ⟨hx, hb, hml, hown, hts⟩ (mc_R_lastsOn l s0 dC dI cI cR cL cZ a_2 ql_2 qk_2 v0_2 v1_2 v2_2 (nI k_2) v4_2 v5_2 v6_2 v7_2 t_2 ld_2 kd_2 a0 nw ht_2) ⟨(mr_cB 2 (hts (Cond.code y_R_lastsOn b_R_lastsOn 3 (some .boolean)) mw_141) (hts (Cond.initialized y_R_lastsOn.cls) mw_142) (hts (Cond.methodLink "MeasureRows" 152 y_R_lastsOn) mw_143) rfl rfl (by decide +kernel) ⟨Nat.le_of_ble_eq_true rfl, Nat.le_of_ble_eq_true rfl⟩), (hts (Cond.instanceMethod y_R_lastsOn) mw_144), (hts (Cond.selects "MeasureRows$Row" y_R_lastsOn y_R_lastsOn) mw_145)⟩ (mr_preV hBH hK (hPr_2.sub (ws' := [(a_2, .inr (2, [.int v0_2, .int v1_2, .int v2_2, .int (nI k_2), .int v4_2, .int v5_2, .int v6_2, .int v7_2, .int (nI t_2), .ref ql_2, .ref qk_2])), (ql_2, .inl (cI, 8, .inl ld_2)), (qk_2, .inl (cI, 8, .inl kd_2))]) [0, 1, 2] rfl) (ci := 2) (q0 := 0) rfl rfl) rfl rfl hl.1 rfl (lv_room (Nat.le_of_ble_eq_true rfl)) d_M_change_59 ⟨Nat.le_of_ble_eq_true rfl, Nat.le_of_ble_eq_true rfl⟩)) (fun r_10 h_11 => ?_)
          subst h_11
          refine lv_aload hx hb d_M_change_62 (lv_at hl 0 rfl) ?_
          refine lv_iload_n hx hb d_M_change_64 rfl (lv_at hl 5 rfl) ?_
          refine lv_aload_n hx hb d_M_change_65 rfl (lv_at hl 3 rfl) ?_
          refine va_get (D := (dC, dI)) (ci := 0) (v := .int nw) (C := R_M) (T := T_M) (N := 9) hx hb hts ti_M hown hK hP 0 rfl rfl 3 (by decide) (hts (Cond.fieldLink "MeasureRows" 26 "MeasureRows" "now" "I") mw_58) (fun _ h9 => h9) rfl d_M_change_66 ?_
          refine vp_callSi (va_Run.run (va_runV (As := [.int a1, .int nw]) (rest := [.int (mv_R_lastsOn v2_2 t_2 ld_2 kd_2 a0 nw)]) (C := R_R) ⟨hx, hb, hml, hown, hts⟩ (mc_R_lastsOn l s0 dC dI cI cR cL cZ a_2 ql_2 qk_2 v0_2 v1_2 v2_2 (nI k_2) v4_2 v5_2 v6_2 v7_2 t_2 ld_2 kd_2 a1 nw ht_2) ⟨(mr_cB 2 (hts (Cond.code y_R_lastsOn b_R_lastsOn 3 (some .boolean)) mw_141) (hts (Cond.initialized y_R_lastsOn.cls) mw_142) (hts (Cond.methodLink "MeasureRows" 152 y_R_lastsOn) mw_143) rfl rfl (by decide +kernel) ⟨Nat.le_of_ble_eq_true rfl, Nat.le_of_ble_eq_true rfl⟩), (hts (Cond.instanceMethod y_R_lastsOn) mw_144), (hts (Cond.selects "MeasureRows$Row" y_R_lastsOn y_R_lastsOn) mw_145)⟩ (mr_preV hBH hK (hPr_2.sub (ws' := [(a_2, .inr (2, [.int v0_2, .int v1_2, .int v2_2, .int (nI k_2), .int v4_2, .int v5_2, .int v6_2, .int v7_2, .int (nI t_2), .ref ql_2, .ref qk_2])), (ql_2, .inl (cI, 8, .inl ld_2)), (qk_2, .inl (cI, 8, .inl kd_2))]) [0, 1, 2] rfl) (ci := 2) (q0 := 0) rfl rfl) rfl rfl hl.1 rfl (lv_room (Nat.le_of_ble_eq_true rfl)) d_M_change_69 ⟨Nat.le_of_ble_eq_true rfl, Nat.le_of_ble_eq_true rfl⟩)) (fun r_12 h_13 => ?_)
          subst h_13
          refine lv_icmp_eq (tgt := 87) hx hb d_M_change_72 (by decide) (fun c_14 => ?_) (fun c_14 => ?_)
          · refine lv_iinc (v := nI ((j + 1) + 1)) (lv' := [(5, .int (nI ((j + 1) + 1))), (6, .ref a_2), (4, .int ps), (0, .ref (r 0)), (1, .int a0), (2, .int a1), (3, .int a2)]) hx hb d_M_change_87 hl (k := 1) rfl ((nI_succ (j + 1)).symm) (by decide) rfl (fun ls hl => ?_)
            refine lv_goto (tgt := 30) hx hb d_M_change_90 (by decide) ?_
            exact ih _ _ _ ⟨rfl, rfl, ps, lv_sub hl [0, 2, 3, 4, 5, 6] rfl⟩
          · refine lv_iload hx hb d_M_change_75 (lv_at hl 2 rfl) ?_
            refine lv_iload_n hx hb d_M_change_77 rfl (lv_at hl 6 rfl) ?_
            refine lv_icmp_ne (tgt := 84) hx hb d_M_change_78 (by decide) (fun c_15 => ?_) (fun c_15 => ?_)
            · refine lv_iinc (v := ps + 1) (lv' := [(4, .int (ps + 1)), (6, .ref a_2), (5, .int (nI (j + 1))), (0, .ref (r 0)), (1, .int a0), (2, .int a1), (3, .int a2)]) hx hb d_M_change_84 hl (k := 2) rfl (rfl) (by decide) rfl (fun ls hl => ?_)
              refine lv_iinc (v := nI ((j + 1) + 1)) (lv' := [(5, .int (nI ((j + 1) + 1))), (4, .int (ps + 1)), (6, .ref a_2), (0, .ref (r 0)), (1, .int a0), (2, .int a1), (3, .int a2)]) hx hb d_M_change_87 hl (k := 2) rfl ((nI_succ (j + 1)).symm) (by decide) rfl (fun ls hl => ?_)
              refine lv_goto (tgt := 30) hx hb d_M_change_90 (by decide) ?_
              exact ih _ _ _ ⟨rfl, rfl, ps + 1, lv_sub hl [0, 1, 3, 4, 5, 6] rfl⟩
            · refine lv_iload hx hb d_M_change_81 (lv_at hl 1 rfl) ?_
              refine mr_ret ?_
              refine W.widen (k := 1) (n := 6) (Nat.le_of_ble_eq_true rfl) (Nat.le_of_ble_eq_true rfl) ?_
              exact W.iret (v := nI (j + 1)) hx hb hr (fun t ht _ => ⟨_, rfl, trivial, ht⟩) (fun _ h => nomatch h) d_M_change_83
      · obtain ⟨rfl, rfl, ps, hl⟩ := hI
        refine lv_iload hx hb d_M_change_30 (lv_at hl 0 rfl) ?_
        refine lv_aload_n hx hb d_M_change_32 rfl (lv_at hl 2 rfl) ?_
        refine va_get (D := (dC, dI)) (ci := 0) (v := .int (nI n)) (C := R_M) (T := T_M) (N := 9) hx hb hts ti_M hown hK hP 0 rfl rfl 2 (by decide) (hts (Cond.fieldLink "MeasureRows" 22 "MeasureRows" "rowCount" "I") mw_57) (fun _ h9 => h9) rfl d_M_change_33 ?_
        refine lv_icmp_gt (tgt := 93) hx hb d_M_change_36 (by decide) (fun _ => ?_) (fun c_16 => absurd (nI_lt (by omega) (by have := hR.1; omega)) c_16)
        refine lv_iconst (v := (-1)) hx hb d_M_change_93 (by decide) ?_
        refine mr_ret ?_
        refine W.widen (k := 1) (n := 6) (Nat.le_of_ble_eq_true rfl) (Nat.le_of_ble_eq_true rfl) ?_
        exact W.iret (v := (-1)) hx hb hr (fun t ht _ => ⟨_, rfl, trivial, ht⟩) (fun _ h => nomatch h) d_M_change_94
    · obtain ⟨sa, hstr⟩ := mr_str (hts (Cond.stringRef "MeasureRows" 89 "no such days") mw_138) hown
      exact mr_throw (names := mr_up) hx hb hlt hown (by decide +kernel) (by decide +kernel) (hts (Cond.classLink "MeasureRows" 78 mr_iae) mw_139) (hts (Cond.initialized mr_iae) mw_140) hstr (hB.own _ mr_a_iae) (hl.1.trans hml.symm) d_M_change_14 d_M_change_17 d_M_change_18 d_M_change_20 d_M_change_23 hno (Nat.le_of_ble_eq_true rfl) (Nat.le_of_ble_eq_true rfl) (Nat.le_of_ble_eq_true rfl) (Nat.le_of_ble_eq_true rfl) hlocks rfl (Nat.le_of_ble_eq_true rfl) (Nat.le_of_ble_eq_true rfl)
set_option maxHeartbeats 4000000 in
set_option maxRecDepth 100000 in
theorem mc_M_look (l : Launch) (hlt : l.stackTraces = false) (s0 : State) (dC : Nat → ClassId) (dI : Nat → Nat → Nat) (cI cR cL cZ : ClassId) (r : Nat → Nat) (n : Nat) (nw pb lc : Int32) (fm fi : Nat → Int32) (fr : Nat → Option Nat) (fl fc fg : Nat → Int32) (L : List Nat) (f : Nat → va_E) (a0 : Int32) (a1 : Int32) (hR : mr_RI cI n L f fr) : mr_Met l y_M_look [Cond.code y_M_look b_M_look 4 (some .int)] ({ frames := 6, cells := 1, slots := 6, locals := 92 }) (mr_PW s0 (dC, dI) [(cI, .int), (cR, .object "MeasureRows$Row"), (cL, .long), (cZ, .boolean)] [.ref (r 0), .int a0, .int a1] ([((r 0), .inr (0, mf_M r (nI n) nw pb lc)), ((r 1), .inr (1, [.ref (r 2), .ref (r 3)])), ((r 2), .inl (cI, 8, .inl fm)), ((r 3), .inl (cI, 8, .inl fi)), ((r 4), .inl (cR, 80, .inr (.inr (.inr (.inr fr))))), ((r 5), .inl (cI, 80, .inl fl)), ((r 6), .inl (cI, 80, .inl fc)), ((r 7), .inl (cI, 8, .inl fg))] ++ va_pl L f)) (vp_Si (fun r => True)) (fun E => E = mr_iob) 1 6 (fun _ => False) := by
  refine mr_of (cc := b_M_look) (maxL := 4) (ret := (some .int)) (by decide) rfl ?_
  intro p e s m args below meth c s₁ B hml hno hv
  obtain ⟨rfl, hB, hK, hP⟩ := hv
  have hBH := hB.here
  have hx := B.exec
  have hb := B.bytes
  have hr := B.returns
  have hlocks := B.notSynchronized
  have hts : ∀ w ∈ lw_tbl, w.before [.ref (r 0), .int a0, .int a1].toArray s = true := hB.hts _
  have hown : s.vm.findClass "MeasureRows" = some m.cls := findClass_of_methodNamed B.named
  have hl := lv_entry ([.ref (r 0), .int a0, .int a1]) (n := 4) (Nat.le_of_ble_eq_true rfl)
  rw [lg_entry_eq]
  generalize (lg_sl ([.ref (r 0), .int a0, .int a1]) ++ List.replicate (4 - (lg_sl ([.ref (r 0), .int a0, .int a1])).length) Slot.unset).toArray = ls at hl ⊢
  have hl : lv_has ls 4 [(0, .ref (r 0)), (1, .int a0), (2, .int a1)] := hl
  refine lv_aload_n hx hb d_M_look_0 rfl (lv_at hl 0 rfl) ?_
  refine lv_iload_n hx hb d_M_look_1 rfl (lv_at hl 1 rfl) ?_
  refine va_csq (va_Run.run (va_runV (As := [.int a0]) (rest := []) (C := R_M) ⟨hx, hb, hml, hown, hts⟩ (mc_M_find l s0 dC dI cI cR cL cZ r n nw pb lc fr a0 hR.1) ⟨(mr_cB 1 (hts (Cond.code y_M_find b_M_find 2 (some (.object "MeasureRows$Row"))) mw_117) (hts (Cond.initialized y_M_find.cls) mw_118) (hts (Cond.methodLink "MeasureRows" 111 y_M_find) mw_119) rfl rfl (by decide +kernel) ⟨Nat.le_of_ble_eq_true rfl, Nat.le_of_ble_eq_true rfl⟩), (hts (Cond.instanceMethod y_M_find) mw_120), (hts (Cond.selects "MeasureRows" y_M_find y_M_find) mw_121)⟩ (mr_preV hBH hK (hP.sub (ws' := [((r 0), .inr (0, mf_M r (nI n) nw pb lc)), ((r 4), .inl (cR, 80, .inr (.inr (.inr (.inr fr)))))]) [0, 4] rfl) (ci := 0) (q0 := 0) rfl rfl) rfl rfl hl.1 rfl (lv_room (Nat.le_of_ble_eq_true rfl)) d_M_look_2 ⟨Nat.le_of_ble_eq_true rfl, Nat.le_of_ble_eq_true rfl⟩)) (fun r_1 h_2 => ?_)
  subst h_2
  rcases mr_fc hR a0 with hf_3 | ⟨i_3, hi_3, hxe_3, a_3, ql_3, qk_3, v0_3, v1_3, v2_3, v4_3, v5_3, v6_3, v7_3, k_3, t_3, ld_3, kd_3, hf_3, hfi_3, m1_3, m2_3, m3_3, e1_3, e2_3, e3_3, hk_3, ht_3, ho_3, hne_3⟩
  · refine mr_topv (show va_rf (mv_M_find n fr a0) = .null by rw [hf_3]; rfl) ?_
    refine lv_astore_nN (lv' := [(3, .null), (0, .ref (r 0)), (1, .int a0), (2, .int a1)]) hx hb d_M_look_5 rfl hl (by decide) rfl (fun ls hl => ?_)
    refine lv_aload_nN hx hb d_M_look_6 rfl (lv_at hl 0 rfl) ?_
    refine lv_ifnonnullN hx hb d_M_look_7 ?_
    obtain ⟨sa, hstr⟩ := mr_str (hts (Cond.stringRef "MeasureRows" 121 "no such row") mw_146) hown
    exact mr_throw (names := mr_up) hx hb hlt hown (by decide +kernel) (by decide +kernel) (hts (Cond.classLink "MeasureRows" 56 mr_iob) mw_129) (hts (Cond.initialized mr_iob) mw_130) hstr (hB.own _ mr_a_iob) (hl.1.trans hml.symm) d_M_look_10 d_M_look_13 d_M_look_14 d_M_look_16 d_M_look_19 hno (Nat.le_of_ble_eq_true rfl) (Nat.le_of_ble_eq_true rfl) (Nat.le_of_ble_eq_true rfl) (Nat.le_of_ble_eq_true rfl) hlocks rfl (Nat.le_of_ble_eq_true rfl) (Nat.le_of_ble_eq_true rfl)
  · refine mr_topv (show va_rf (mv_M_find n fr a0) = .ref a_3 by rw [hf_3]; rfl) ?_
    have hPr_3 := mr_row3 (X := [((r 0), .inr (0, mf_M r (nI n) nw pb lc)), ((r 1), .inr (1, [.ref (r 2), .ref (r 3)])), ((r 2), .inl (cI, 8, .inl fm)), ((r 3), .inl (cI, 8, .inl fi)), ((r 4), .inl (cR, 80, .inr (.inr (.inr (.inr fr))))), ((r 5), .inl (cI, 80, .inl fl)), ((r 6), .inl (cI, 80, .inl fc)), ((r 7), .inl (cI, 8, .inl fg))]) hP m1_3 m2_3 m3_3 e1_3 e2_3 e3_3
    refine lv_astore_n (lv' := [(3, .ref a_3), (0, .ref (r 0)), (1, .int a0), (2, .int a1)]) hx hb d_M_look_5 rfl hl (by decide) rfl (fun ls hl => ?_)
    refine lv_aload_n hx hb d_M_look_6 rfl (lv_at hl 0 rfl) ?_
    refine lv_ifnonnull (tgt := 20) hx hb d_M_look_7 (by decide) ?_
    refine lv_iload_n hx hb d_M_look_20 rfl (lv_at hl 3 rfl) ?_
    by_cases c_3 : a1 = 0
    · refine lv_tableIn (tgt := 76) hx hb d_M_look_21 (by rw [c_3]; decide) (by rw [c_3]; decide) (by rw [c_3]; rfl) (by decide) ?_
      refine lv_aload_n hx hb d_M_look_76 rfl (lv_at hl 0 rfl) ?_
      refine va_get (D := (dC, dI)) (ci := 2) (v := .int v0_3) (C := R_R) (T := T_R) (N := 11) hx hb hts ti_R hown hK hPr_3 0 rfl rfl 0 (by decide) (hts (Cond.fieldLink "MeasureRows" 155 "MeasureRows$Row" "code" "I") mw_147) (fun _ h9 => h9) rfl d_M_look_77 ?_
      refine mr_ret ?_
      refine W.widen (k := 1) (n := 6) (Nat.le_of_ble_eq_true rfl) (Nat.le_of_ble_eq_true rfl) ?_
      exact W.iret (v := v0_3) hx hb hr (fun t ht _ => ⟨_, rfl, trivial, ht⟩) (fun _ h => nomatch h) d_M_look_80
    · skip
      by_cases c_4 : a1 = 1
      · refine lv_tableIn (tgt := 81) hx hb d_M_look_21 (by rw [c_4]; decide) (by rw [c_4]; decide) (by rw [c_4]; rfl) (by decide) ?_
        refine lv_aload_n hx hb d_M_look_81 rfl (lv_at hl 0 rfl) ?_
        refine va_get (D := (dC, dI)) (ci := 2) (v := .int v1_3) (C := R_R) (T := T_R) (N := 11) hx hb hts ti_R hown hK hPr_3 0 rfl rfl 1 (by decide) (hts (Cond.fieldLink "MeasureRows" 158 "MeasureRows$Row" "place" "I") mw_148) (fun _ h9 => h9) rfl d_M_look_82 ?_
        refine mr_ret ?_
        refine W.widen (k := 1) (n := 6) (Nat.le_of_ble_eq_true rfl) (Nat.le_of_ble_eq_true rfl) ?_
        exact W.iret (v := v1_3) hx hb hr (fun t ht _ => ⟨_, rfl, trivial, ht⟩) (fun _ h => nomatch h) d_M_look_85
      · skip
        by_cases c_5 : a1 = 2
        · refine lv_tableIn (tgt := 86) hx hb d_M_look_21 (by rw [c_5]; decide) (by rw [c_5]; decide) (by rw [c_5]; rfl) (by decide) ?_
          refine lv_aload_n hx hb d_M_look_86 rfl (lv_at hl 0 rfl) ?_
          refine va_get (D := (dC, dI)) (ci := 2) (v := .int v2_3) (C := R_R) (T := T_R) (N := 11) hx hb hts ti_R hown hK hPr_3 0 rfl rfl 2 (by decide) (hts (Cond.fieldLink "MeasureRows" 128 "MeasureRows$Row" "first" "I") mw_149) (fun _ h9 => h9) rfl d_M_look_87 ?_
          refine mr_ret ?_
          refine W.widen (k := 1) (n := 6) (Nat.le_of_ble_eq_true rfl) (Nat.le_of_ble_eq_true rfl) ?_
          exact W.iret (v := v2_3) hx hb hr (fun t ht _ => ⟨_, rfl, trivial, ht⟩) (fun _ h => nomatch h) d_M_look_90
        · skip
          by_cases c_6 : a1 = 3
          · refine lv_tableIn (tgt := 91) hx hb d_M_look_21 (by rw [c_6]; decide) (by rw [c_6]; decide) (by rw [c_6]; rfl) (by decide) ?_
            refine lv_aload_n hx hb d_M_look_91 rfl (lv_at hl 0 rfl) ?_
            refine lv_aload_n hx hb d_M_look_92 rfl (lv_at hl 1 rfl) ?_
            refine va_get (D := (dC, dI)) (ci := 0) (v := .int nw) (C := R_M) (T := T_M) (N := 9) hx hb hts ti_M hown hK hP 0 rfl rfl 3 (by decide) (hts (Cond.fieldLink "MeasureRows" 26 "MeasureRows" "now" "I") mw_58) (fun _ h9 => h9) rfl d_M_look_93 ?_
            refine vp_callSi (va_Run.run (va_runV (As := [.int nw]) (rest := []) (C := R_R) ⟨hx, hb, hml, hown, hts⟩ (mc_R_lastDayAsOf l s0 dC dI cI cR cL cZ a_3 ql_3 qk_3 v0_3 v1_3 v2_3 (nI k_3) v4_3 v5_3 v6_3 v7_3 t_3 ld_3 kd_3 nw ht_3) ⟨(mr_cB 1 (hts (Cond.code y_R_lastDayAsOf b_R_lastDayAsOf 5 (some .int)) mw_103) (hts (Cond.initialized y_R_lastDayAsOf.cls) mw_104) (hts (Cond.methodLink "MeasureRows" 161 y_R_lastDayAsOf) mw_150) rfl rfl (by decide +kernel) ⟨Nat.le_of_ble_eq_true rfl, Nat.le_of_ble_eq_true rfl⟩), (hts (Cond.instanceMethod y_R_lastDayAsOf) mw_106), (hts (Cond.selects "MeasureRows$Row" y_R_lastDayAsOf y_R_lastDayAsOf) mw_107)⟩ (mr_preV hBH hK (hPr_3.sub (ws' := [(a_3, .inr (2, [.int v0_3, .int v1_3, .int v2_3, .int (nI k_3), .int v4_3, .int v5_3, .int v6_3, .int v7_3, .int (nI t_3), .ref ql_3, .ref qk_3])), (ql_3, .inl (cI, 8, .inl ld_3)), (qk_3, .inl (cI, 8, .inl kd_3))]) [0, 1, 2] rfl) (ci := 2) (q0 := 0) rfl rfl) rfl rfl hl.1 rfl (lv_room (Nat.le_of_ble_eq_true rfl)) d_M_look_96 ⟨Nat.le_of_ble_eq_true rfl, Nat.le_of_ble_eq_true rfl⟩)) (fun r_7 h_8 => ?_)
            subst h_8
            refine mr_ret ?_
            refine W.widen (k := 1) (n := 6) (Nat.le_of_ble_eq_true rfl) (Nat.le_of_ble_eq_true rfl) ?_
            exact W.iret (v := mv_R_lastDayAsOf t_3 ld_3 kd_3 nw) hx hb hr (fun t ht _ => ⟨_, rfl, trivial, ht⟩) (fun _ h => nomatch h) d_M_look_99
          · skip
            by_cases c_9 : a1 = 4
            · refine lv_tableIn (tgt := 100) hx hb d_M_look_21 (by rw [c_9]; decide) (by rw [c_9]; decide) (by rw [c_9]; rfl) (by decide) ?_
              refine lv_aload_n hx hb d_M_look_100 rfl (lv_at hl 0 rfl) ?_
              refine va_get (D := (dC, dI)) (ci := 2) (v := .int (nI k_3)) (C := R_R) (T := T_R) (N := 11) hx hb hts ti_R hown hK hPr_3 0 rfl rfl 3 (by decide) (hts (Cond.fieldLink "MeasureRows" 164 "MeasureRows$Row" "kind" "I") mw_151) (fun _ h9 => h9) rfl d_M_look_101 ?_
              refine mr_ret ?_
              refine W.widen (k := 1) (n := 6) (Nat.le_of_ble_eq_true rfl) (Nat.le_of_ble_eq_true rfl) ?_
              exact W.iret (v := nI k_3) hx hb hr (fun t ht _ => ⟨_, rfl, trivial, ht⟩) (fun _ h => nomatch h) d_M_look_104
            · skip
              by_cases c_10 : a1 = 5
              · refine lv_tableIn (tgt := 105) hx hb d_M_look_21 (by rw [c_10]; decide) (by rw [c_10]; decide) (by rw [c_10]; rfl) (by decide) ?_
                refine lv_aload_n hx hb d_M_look_105 rfl (lv_at hl 0 rfl) ?_
                refine va_get (D := (dC, dI)) (ci := 2) (v := .int v4_3) (C := R_R) (T := T_R) (N := 11) hx hb hts ti_R hown hK hPr_3 0 rfl rfl 4 (by decide) (hts (Cond.fieldLink "MeasureRows" 167 "MeasureRows$Row" "rank" "I") mw_152) (fun _ h9 => h9) rfl d_M_look_106 ?_
                refine mr_ret ?_
                refine W.widen (k := 1) (n := 6) (Nat.le_of_ble_eq_true rfl) (Nat.le_of_ble_eq_true rfl) ?_
                exact W.iret (v := v4_3) hx hb hr (fun t ht _ => ⟨_, rfl, trivial, ht⟩) (fun _ h => nomatch h) d_M_look_109
              · skip
                by_cases c_11 : a1 = 6
                · refine lv_tableIn (tgt := 110) hx hb d_M_look_21 (by rw [c_11]; decide) (by rw [c_11]; decide) (by rw [c_11]; rfl) (by decide) ?_
                  refine lv_aload_n hx hb d_M_look_110 rfl (lv_at hl 0 rfl) ?_
                  refine va_get (D := (dC, dI)) (ci := 2) (v := .int v5_3) (C := R_R) (T := T_R) (N := 11) hx hb hts ti_R hown hK hPr_3 0 rfl rfl 5 (by decide) (hts (Cond.fieldLink "MeasureRows" 170 "MeasureRows$Row" "known" "I") mw_153) (fun _ h9 => h9) rfl d_M_look_111 ?_
                  refine mr_ret ?_
                  refine W.widen (k := 1) (n := 6) (Nat.le_of_ble_eq_true rfl) (Nat.le_of_ble_eq_true rfl) ?_
                  exact W.iret (v := v5_3) hx hb hr (fun t ht _ => ⟨_, rfl, trivial, ht⟩) (fun _ h => nomatch h) d_M_look_114
                · skip
                  by_cases c_12 : a1 = 7
                  · refine lv_tableIn (tgt := 115) hx hb d_M_look_21 (by rw [c_12]; decide) (by rw [c_12]; decide) (by rw [c_12]; rfl) (by decide) ?_
                    refine lv_aload_n hx hb d_M_look_115 rfl (lv_at hl 0 rfl) ?_
                    refine va_get (D := (dC, dI)) (ci := 2) (v := .int (nI t_3)) (C := R_R) (T := T_R) (N := 11) hx hb hts ti_R hown hK hPr_3 0 rfl rfl 8 (by decide) (hts (Cond.fieldLink "MeasureRows" 123 "MeasureRows$Row" "told" "I") mw_154) (fun _ h9 => h9) rfl d_M_look_116 ?_
                    refine mr_ret ?_
                    refine W.widen (k := 1) (n := 6) (Nat.le_of_ble_eq_true rfl) (Nat.le_of_ble_eq_true rfl) ?_
                    exact W.iret (v := nI t_3) hx hb hr (fun t ht _ => ⟨_, rfl, trivial, ht⟩) (fun _ h => nomatch h) d_M_look_119
                  · skip
                    by_cases c_13 : a1 = 8
                    · refine lv_tableIn (tgt := 120) hx hb d_M_look_21 (by rw [c_13]; decide) (by rw [c_13]; decide) (by rw [c_13]; rfl) (by decide) ?_
                      refine lv_aload_n hx hb d_M_look_120 rfl (lv_at hl 0 rfl) ?_
                      refine va_get (D := (dC, dI)) (ci := 2) (v := .int v6_3) (C := R_R) (T := T_R) (N := 11) hx hb hts ti_R hown hK hPr_3 0 rfl rfl 6 (by decide) (hts (Cond.fieldLink "MeasureRows" 173 "MeasureRows$Row" "excluded" "I") mw_155) (fun _ h9 => h9) rfl d_M_look_121 ?_
                      refine vp_callSi (va_Run.run (va_runS (As := [.int v6_3]) (rest := []) ⟨hx, hb, hml, hown, hts⟩ (mc_I_bitCount l s0 v6_3) ⟨(mr_cB 1 (hts (Cond.code y_I_bitCount b_I_bitCount 1 (some .int)) mw_36) (hts (Cond.initialized y_I_bitCount.cls) mw_37) (hts (Cond.methodLink "MeasureRows" 176 y_I_bitCount) mw_156) rfl rfl (by decide +kernel) ⟨Nat.le_of_ble_eq_true rfl, Nat.le_of_ble_eq_true rfl⟩), (hts (Cond.static y_I_bitCount) mw_39)⟩ (mr_pre0 hBH) rfl rfl hl.1 rfl (lv_room (Nat.le_of_ble_eq_true rfl)) d_M_look_124 ⟨Nat.le_of_ble_eq_true rfl, Nat.le_of_ble_eq_true rfl⟩)) (fun r_14 h_15 => ?_)
                      subst h_15
                      refine mr_ret ?_
                      refine W.widen (k := 1) (n := 6) (Nat.le_of_ble_eq_true rfl) (Nat.le_of_ble_eq_true rfl) ?_
                      exact W.iret (v := mv_I_bitCount v6_3) hx hb hr (fun t ht _ => ⟨_, rfl, trivial, ht⟩) (fun _ h => nomatch h) d_M_look_127
                    · skip
                      by_cases c_16 : a1 = 9
                      · refine lv_tableIn (tgt := 128) hx hb d_M_look_21 (by rw [c_16]; decide) (by rw [c_16]; decide) (by rw [c_16]; rfl) (by decide) ?_
                        refine lv_aload_n hx hb d_M_look_128 rfl (lv_at hl 0 rfl) ?_
                        refine va_get (D := (dC, dI)) (ci := 2) (v := .int v7_3) (C := R_R) (T := T_R) (N := 11) hx hb hts ti_R hown hK hPr_3 0 rfl rfl 7 (by decide) (hts (Cond.fieldLink "MeasureRows" 181 "MeasureRows$Row" "wanted" "I") mw_157) (fun _ h9 => h9) rfl d_M_look_129 ?_
                        refine vp_callSi (va_Run.run (va_runS (As := [.int v7_3]) (rest := []) ⟨hx, hb, hml, hown, hts⟩ (mc_I_bitCount l s0 v7_3) ⟨(mr_cB 1 (hts (Cond.code y_I_bitCount b_I_bitCount 1 (some .int)) mw_36) (hts (Cond.initialized y_I_bitCount.cls) mw_37) (hts (Cond.methodLink "MeasureRows" 176 y_I_bitCount) mw_156) rfl rfl (by decide +kernel) ⟨Nat.le_of_ble_eq_true rfl, Nat.le_of_ble_eq_true rfl⟩), (hts (Cond.static y_I_bitCount) mw_39)⟩ (mr_pre0 hBH) rfl rfl hl.1 rfl (lv_room (Nat.le_of_ble_eq_true rfl)) d_M_look_132 ⟨Nat.le_of_ble_eq_true rfl, Nat.le_of_ble_eq_true rfl⟩)) (fun r_17 h_18 => ?_)
                        subst h_18
                        refine mr_ret ?_
                        refine W.widen (k := 1) (n := 6) (Nat.le_of_ble_eq_true rfl) (Nat.le_of_ble_eq_true rfl) ?_
                        exact W.iret (v := mv_I_bitCount v7_3) hx hb hr (fun t ht _ => ⟨_, rfl, trivial, ht⟩) (fun _ h => nomatch h) d_M_look_135
                      · skip
                        refine lv_tableOut (tgt := 136) hx hb d_M_look_21 (by have z0 := mr_ne (z := 0) (by decide) c_3; have z1 := mr_ne (z := 1) (by decide) c_4; have z2 := mr_ne (z := 2) (by decide) c_5; have z3 := mr_ne (z := 3) (by decide) c_6; have z4 := mr_ne (z := 4) (by decide) c_9; have z5 := mr_ne (z := 5) (by decide) c_10; have z6 := mr_ne (z := 6) (by decide) c_11; have z7 := mr_ne (z := 7) (by decide) c_12; have z8 := mr_ne (z := 8) (by decide) c_13; have z9 := mr_ne (z := 9) (by decide) c_16; omega) (by decide) ?_
                        obtain ⟨sa, hstr⟩ := mr_str (hts (Cond.stringRef "MeasureRows" 184 "nothing such to look at") mw_158) hown
                        exact mr_throw (names := mr_up) hx hb hlt hown (by decide +kernel) (by decide +kernel) (hts (Cond.classLink "MeasureRows" 56 mr_iob) mw_129) (hts (Cond.initialized mr_iob) mw_130) hstr (hB.own _ mr_a_iob) (hl.1.trans hml.symm) d_M_look_136 d_M_look_139 d_M_look_140 d_M_look_142 d_M_look_145 hno (Nat.le_of_ble_eq_true rfl) (Nat.le_of_ble_eq_true rfl) (Nat.le_of_ble_eq_true rfl) (Nat.le_of_ble_eq_true rfl) hlocks rfl (Nat.le_of_ble_eq_true rfl) (Nat.le_of_ble_eq_true rfl)
end
section
theorem mr_ab {x : Int32} {n : Nat} (hn : n ≤ 80) (h1 : ¬ x < 0) (h2 : ¬ nI n ≤ x) : vp_in x 80 := by
  obtain ⟨j, hj, rfl⟩ := nI_of h1
  rw [nI_leI (by omega) hj] at h2
  exact nI_in (by omega) (by decide)
theorem mr_upR {cI : ClassId} {n : Nat} {L : List Nat} {f : Nat → va_E} {fr : Nat → Option Nat} {a ql qk k t : Nat} {w0 w1 w2 w4 w5 w6 w7 : Int32} {ld kd : Nat → Int32} {fs : List Value} (hR : mr_RI cI n L f fr) (ea : f a = .inr (2, fs)) (hl : ql ∈ L) (hk : qk ∈ L) (el : f ql = .inl (cI, 8, .inl ld)) (ek : f qk = .inl (cI, 8, .inl kd)) (k8 : k < 8) (t8 : t ≤ 8) (t1 : 1 ≤ t) (hne : ql ≠ qk) :
    mr_RI cI n L (va_up f a (.inr (2, [.int w0, .int w1, .int w2, .int (nI k), .int w4, .int w5, .int w6, .int w7, .int (nI t), .ref ql, .ref qk]))) fr := by
  have ne : ∀ {b : Nat} {x : ClassId × vp_A}, f b = .inl x → b ≠ a := fun h e => by rw [e, ea] at h; cases h
  refine ⟨hR.1, fun i hi => ?_⟩
  obtain ⟨a', ql', qk', v0, v1, v2, v4, v5, v6, v7, k', t', ld', kd', e, h1, h2, h3, e1, e2, e3, rest⟩ := hR.2 i hi
  by_cases h : a' = a
  · subst h
    exact ⟨a', ql, qk, w0, w1, w2, w4, w5, w6, w7, k, t, ld, kd, e, h1, hl, hk, by simp [va_up], by simp [va_up, ne el, el], by simp [va_up, ne ek, ek], k8, t8, t1, hne⟩
  · exact ⟨a', ql', qk', v0, v1, v2, v4, v5, v6, v7, k', t', ld', kd', e, h1, h2, h3, by simp [va_up, h, e1], by simp [va_up, ne e2, e2], by simp [va_up, ne e3, e3], rest⟩
theorem mr_upA {cI : ClassId} {n : Nat} {L : List Nat} {f : Nat → va_E} {fr : Nat → Option Nat} {b : Nat} {g0 g1 : Nat → Int32} (hR : mr_RI cI n L f fr) (eb : f b = .inl (cI, 8, .inl g0)) : mr_RI cI n L (va_up f b (.inl (cI, 8, .inl g1))) fr := by
  refine ⟨hR.1, fun i hi => ?_⟩
  obtain ⟨a', ql', qk', v0, v1, v2, v4, v5, v6, v7, k', t', ld', kd', e, h1, h2, h3, e1, e2, e3, rest⟩ := hR.2 i hi
  have na : a' ≠ b := fun h => by rw [h, eb] at e1; cases e1
  refine ⟨a', ql', qk', v0, v1, v2, v4, v5, v6, v7, k', t', if ql' = b then g1 else ld', if qk' = b then g1 else kd', e, h1, h2, h3, by simp [va_up, na, e1], ?_, ?_, rest⟩
  · by_cases h : ql' = b
    · simp [va_up, h]
    · simp [va_up, h, e2]
  · by_cases h : qk' = b
    · simp [va_up, h]
    · simp [va_up, h, e3]
section MRK
variable {A : Nat → Prop} {D : va_G} {cl : List vw_C} {X : va_W} {L : List Nat} {f f' : Nat → va_E} {H H0 H1 : Heap} {locs : List Loc} {wc : va_W}
/-- some of the rows' cells have been written: the world with their new contents -/
theorem mr_plset (hP : va_P D cl (X ++ va_pl L f) H) (hD : va_D A (X ++ va_pl L f)) (hin : ∀ (k : Nat) (q : Nat × va_E), wc[k]? = some q → q.1 ∈ L) (hk : ∀ q : Nat, q < H.size → ¬ va_A wc H.size q → H1[q]? = H[q]?)
    (hnew : ∀ a : Nat, (∃ (k : Nat) (e : va_E), wc[k]? = some (a, e)) → va_at D cl (a, f' a) H1) (hold : ∀ a : Nat, a ∈ L → (¬ ∃ (k : Nat) (e : va_E), wc[k]? = some (a, e)) → f' a = f a) :
    va_P D cl (X ++ va_pl L f') H1 ∧ va_D A (X ++ va_pl L f') := by
  have hlen : (va_pl L f').length = (va_pl L f).length := by simp [va_pl]
  have key : ∀ (k : Nat) (q : Nat × va_E), (X ++ va_pl L f')[k]? = some q → ∃ q0 : Nat × va_E, (X ++ va_pl L f)[k]? = some q0 ∧ q0.1 = q.1 ∧ ((k < X.length ∧ q0 = q) ∨ (X.length ≤ k ∧ q.1 ∈ L ∧ q0 = (q.1, f q.1) ∧ q = (q.1, f' q.1))) := by
    intro k q hq
    by_cases hx : k < X.length
    · rw [List.getElem?_append_left hx] at hq
      exact ⟨q, by rw [List.getElem?_append_left hx]; exact hq, rfl, Or.inl ⟨hx, rfl⟩⟩
    · have hx : X.length ≤ k := Nat.not_lt.mp hx
      rw [List.getElem?_append_right hx] at hq
      unfold va_pl at hq
      rw [List.getElem?_map] at hq
      cases ha : L[k - X.length]? with
      | none => rw [ha] at hq; cases hq
      | some a =>
        rw [ha] at hq
        cases hq
        exact ⟨(a, f a), by rw [List.getElem?_append_right hx]; unfold va_pl; rw [List.getElem?_map, ha]; rfl, rfl, Or.inr ⟨hx, List.mem_of_getElem? ha, rfl, rfl⟩⟩
  refine ⟨fun k q hq => ?_, fun i j p q hi hj hpq => ?_, fun k q hq => ?_⟩
  · obtain ⟨q0, h0, e0, hcase⟩ := key k q hq
    by_cases hw : ∃ (k : Nat) (e : va_E), wc[k]? = some (q.1, e)
    · rcases hcase with ⟨hx, rfl⟩ | ⟨_, _, _, e2⟩
      · obtain ⟨k2, e2, hk2⟩ := hw
        have hL : q0.1 ∈ L := hin k2 (q0.1, e2) hk2
        obtain ⟨k3, h3⟩ := List.mem_iff_getElem?.mp hL
        have h4 : (X ++ va_pl L f)[X.length + k3]? = some (q0.1, f q0.1) := by
          rw [List.getElem?_append_right (by omega), show X.length + k3 - X.length = k3 by omega]
          unfold va_pl; rw [List.getElem?_map, h3]; rfl
        have := hD.1 k (X.length + k3) _ _ h0 h4 rfl
        omega
      · rw [e2]; exact hnew _ hw
    · have hq0 : q0 = q := by
        rcases hcase with ⟨_, h⟩ | ⟨_, hL, e1, e2⟩
        · exact h
        · rw [e1, e2]; rw [hold _ hL hw]
      subst hq0
      have hlt := (hP _ _ h0).lt
      exact (hP _ _ h0).kept (hk _ hlt (fun hA => by
        rcases hA with h | h
        · exact hw h
        · omega))
  · obtain ⟨p0, h1, e1, -⟩ := key i p hi
    obtain ⟨q0, h2, e2, -⟩ := key j q hj
    exact hD.1 i j _ _ h1 h2 (by rw [e1, e2]; exact hpq)
  · obtain ⟨q0, h0, e0, -⟩ := key k q hq
    rw [← e0]; exact hD.2 k _ h0
theorem mr_plA (hD : va_D A (X ++ va_pl L f)) {a : Nat} (ha : a ∈ L) : A a := by
  obtain ⟨k, hk⟩ := va_pl_get (X := X) (f := f) ha
  exact hD.2 k _ hk
theorem mr_plfree (hD : va_D A (X ++ va_pl L f)) (hS : va_S A H0 H locs) (hA : ∀ q, H0.size ≤ q → A q) (hin : ∀ (k : Nat) (q : Nat × va_E), wc[k]? = some q → q.1 ∈ L) : ∀ q, va_A wc H.size q → A q := fun q h => by
  rcases h with ⟨k, e, hk⟩ | h
  · exact mr_plA hD (hin _ _ hk)
  · exact hA q (Nat.le_trans hS.1 h)
end MRK
theorem mr_in1 {L : List Nat} {a : Nat} {e : va_E} (ha : a ∈ L) : ∀ (k : Nat) (q : Nat × va_E), ([(a, e)] : va_W)[k]? = some q → q.1 ∈ L := fun k q hq => by
  match k, hq with
  | 0, hq => cases hq; exact ha
  | k + 1, hq => simp at hq
theorem mr_D1 {A : Nat → Prop} {a : Nat} {e : va_E} (h : A a) : va_D A [(a, e)] := ⟨fun i j p q hi hj _ => by
    have h1 := (List.getElem?_eq_some_iff.mp hi).1
    have h2 := (List.getElem?_eq_some_iff.mp hj).1
    simp at h1 h2; omega, fun k q hk => by
    match k, hk with
    | 0, hk => cases hk; exact h
    | k + 1, hk => simp at hk⟩
theorem mw_159 : Cond.code y_R_leavesOut b_R_leavesOut 2 (some .boolean) ∈ lw_tbl := by decide +kernel
theorem mw_160 : Cond.initialized y_R_leavesOut.cls ∈ lw_tbl := by decide +kernel
theorem mw_161 : Cond.methodLink "MeasureRows" 204 y_R_leavesOut ∈ lw_tbl := by decide +kernel
theorem mw_162 : Cond.instanceMethod y_R_leavesOut ∈ lw_tbl := by decide +kernel
theorem mw_163 : Cond.selects "MeasureRows$Row" y_R_leavesOut y_R_leavesOut ∈ lw_tbl := by decide +kernel
theorem mw_164 : Cond.code y_R_weight b_R_weight 1 (some .int) ∈ lw_tbl := by decide +kernel
theorem mw_165 : Cond.initialized y_R_weight.cls ∈ lw_tbl := by decide +kernel
theorem mw_166 : Cond.methodLink "MeasureRows" 210 y_R_weight ∈ lw_tbl := by decide +kernel
theorem mw_167 : Cond.instanceMethod y_R_weight ∈ lw_tbl := by decide +kernel
theorem mw_168 : Cond.selects "MeasureRows$Row" y_R_weight y_R_weight ∈ lw_tbl := by decide +kernel
theorem mw_169 : Cond.code y_G_landsIn b_G_landsIn 2 (some .int) ∈ lw_tbl := by decide +kernel
theorem mw_170 : Cond.initialized y_G_landsIn.cls ∈ lw_tbl := by decide +kernel
theorem mw_171 : Cond.methodLink "MeasureRows" 186 y_G_landsIn ∈ lw_tbl := by decide +kernel
theorem mw_172 : Cond.instanceMethod y_G_landsIn ∈ lw_tbl := by decide +kernel
theorem mw_173 : Cond.selects "MeasureRows$Groups" y_G_landsIn y_G_landsIn ∈ lw_tbl := by decide +kernel
set_option maxHeartbeats 4000000 in
set_option maxRecDepth 100000 in
theorem mc_M_isOfLand (l : Launch) (s0 : State) (dC : Nat → ClassId) (dI : Nat → Nat → Nat) (cI cR cL cZ : ClassId) (r : Nat → Nat) (n : Nat) (nw pb lc : Int32) (fi : Nat → Int32) (q ql qk : Nat) (vc vp vf vr vn ve vw vt : Int32) (k : Nat) (a1 : Int32) : Met l y_M_isOfLand [Cond.code y_M_isOfLand b_M_isOfLand 3 (some .boolean)] ({ frames := 3, cells := 0, slots := 0, locals := 63 }) (mr_PW s0 (dC, dI) [(cI, .int), (cR, .object "MeasureRows$Row"), (cL, .long), (cZ, .boolean)] [.ref (r 0), .ref q, .int a1] [((r 0), .inr (0, mf_M r (nI n) nw pb lc)), ((r 1), .inr (1, [.ref (r 2), .ref (r 3)])), ((r 3), .inl (cI, 8, .inl fi)), (q, .inr (2, [.int vc, .int vp, .int vf, .int (nI k), .int vr, .int vn, .int ve, .int vw, .int vt, .ref ql, .ref qk]))]) (vp_Si (fun r => mr_b01 r)) 0 0 (fun _ => False) := by
  refine Met.ofW (cc := b_M_isOfLand) (maxL := 3) (ret := (some .boolean)) (by decide) rfl ?_
  intro p e s m args below meth c s₁ B hml hv
  obtain ⟨rfl, hB, hK, hP⟩ := hv
  have hBH := hB.here
  have hx := B.exec
  have hb := B.bytes
  have hr := B.returns
  have hlocks := B.notSynchronized
  have hts : ∀ w ∈ lw_tbl, w.before [.ref (r 0), .ref q, .int a1].toArray s = true := hB.hts _
  have hown : s.vm.findClass "MeasureRows" = some m.cls := findClass_of_methodNamed B.named
  have hl := lv_entry ([.ref (r 0), .ref q, .int a1]) (n := 3) (Nat.le_of_ble_eq_true rfl)
  rw [lg_entry_eq]
  generalize (lg_sl ([.ref (r 0), .ref q, .int a1]) ++ List.replicate (3 - (lg_sl ([.ref (r 0), .ref q, .int a1])).length) Slot.unset).toArray = ls at hl ⊢
  have hl : lv_has ls 3 [(0, .ref (r 0)), (1, .ref q), (2, .int a1)] := hl
  refine lv_aload_n hx hb d_M_isOfLand_0 rfl (lv_at hl 1 rfl) ?_
  refine va_get (D := (dC, dI)) (ci := 2) (v := .int vp) (C := R_R) (T := T_R) (N := 11) hx hb hts ti_R hown hK hP 3 rfl rfl 1 (by decide) (hts (Cond.fieldLink "MeasureRows" 158 "MeasureRows$Row" "place" "I") mw_148) (fun _ h9 => h9) rfl d_M_isOfLand_1 ?_
  refine lv_iload_n hx hb d_M_isOfLand_4 rfl (lv_at hl 2 rfl) ?_
  refine lv_icmp_eq (tgt := 23) hx hb d_M_isOfLand_5 (by decide) (fun c_1 => ?_) (fun c_1 => ?_)
  · refine lv_aload_n hx hb d_M_isOfLand_23 rfl (lv_at hl 1 rfl) ?_
    refine lv_iload_n hx hb d_M_isOfLand_24 rfl (lv_at hl 2 rfl) ?_
    refine vp_callSi (va_Run.run (va_runV (As := [.int a1]) (rest := []) (C := R_R) ⟨hx, hb, hml, hown, hts⟩ (mc_R_leavesOut l s0 dC dI cI cR cL cZ q ql qk vc vp vf (nI k) vr vn ve vw vt a1) ⟨(mr_cB 1 (hts (Cond.code y_R_leavesOut b_R_leavesOut 2 (some .boolean)) mw_159) (hts (Cond.initialized y_R_leavesOut.cls) mw_160) (hts (Cond.methodLink "MeasureRows" 204 y_R_leavesOut) mw_161) rfl rfl (by decide +kernel) ⟨Nat.le_of_ble_eq_true rfl, Nat.le_of_ble_eq_true rfl⟩), (hts (Cond.instanceMethod y_R_leavesOut) mw_162), (hts (Cond.selects "MeasureRows$Row" y_R_leavesOut y_R_leavesOut) mw_163)⟩ (mr_preV hBH hK (hP.sub (ws' := [(q, .inr (2, [.int vc, .int vp, .int vf, .int (nI k), .int vr, .int vn, .int ve, .int vw, .int vt, .ref ql, .ref qk]))]) [3] rfl) (ci := 2) (q0 := 0) rfl rfl) rfl rfl hl.1 rfl (lv_room (Nat.le_of_ble_eq_true rfl)) d_M_isOfLand_25 ⟨Nat.le_of_ble_eq_true rfl, Nat.le_of_ble_eq_true rfl⟩)) (fun r_2 h_3 => ?_)
    subst h_3
    refine lv_if_ne (tgt := 35) hx hb d_M_isOfLand_28 (by decide) (fun c_4 => ?_) (fun c_4 => ?_)
    · refine lv_iconst (v := 0) hx hb d_M_isOfLand_35 (by decide) ?_
      exact W.zret (v := 0) hx hb hr (mr_narz mr_b0) (fun t ht _ => ⟨_, rfl, mr_b0, ht⟩) (fun _ h => nomatch h) d_M_isOfLand_36
    · refine lv_iconst (v := 1) hx hb d_M_isOfLand_31 (by decide) ?_
      refine lv_goto (tgt := 36) hx hb d_M_isOfLand_32 (by decide) ?_
      exact W.zret (v := 1) hx hb hr (mr_narz mr_b1) (fun t ht _ => ⟨_, rfl, mr_b1, ht⟩) (fun _ h => nomatch h) d_M_isOfLand_36
  · refine lv_aload_n hx hb d_M_isOfLand_8 rfl (lv_at hl 0 rfl) ?_
    refine va_get (D := (dC, dI)) (ci := 0) (v := .ref (r 1)) (C := R_M) (T := T_M) (N := 9) hx hb hts ti_M hown hK hP 0 rfl rfl 0 (by decide) (hts (Cond.fieldLink "MeasureRows" 10 "MeasureRows" "groups" "LMeasureRows$Groups;") mw_53) (fun _ h9 => h9) rfl d_M_isOfLand_9 ?_
    refine lv_aload_n hx hb d_M_isOfLand_12 rfl (lv_at hl 1 rfl) ?_
    refine va_get (D := (dC, dI)) (ci := 2) (v := .int vp) (C := R_R) (T := T_R) (N := 11) hx hb hts ti_R hown hK hP 3 rfl rfl 1 (by decide) (hts (Cond.fieldLink "MeasureRows" 158 "MeasureRows$Row" "place" "I") mw_148) (fun _ h9 => h9) rfl d_M_isOfLand_13 ?_
    refine lv_iload_n hx hb d_M_isOfLand_16 rfl (lv_at hl 2 rfl) ?_
    refine vp_callSi (va_Run.run (va_runV (As := [.int vp, .int a1]) (rest := []) (C := R_G) ⟨hx, hb, hml, hown, hts⟩ (mc_G_reaches l s0 dC dI cI cR cL cZ (r 1) (r 2) (r 3) fi vp a1) ⟨(mr_cB 2 (hts (Cond.code y_G_reaches b_G_reaches 3 (some .boolean)) mw_132) (hts (Cond.initialized y_G_reaches.cls) mw_133) (hts (Cond.methodLink "MeasureRows" 68 y_G_reaches) mw_134) rfl rfl (by decide +kernel) ⟨Nat.le_of_ble_eq_true rfl, Nat.le_of_ble_eq_true rfl⟩), (hts (Cond.instanceMethod y_G_reaches) mw_135), (hts (Cond.selects "MeasureRows$Groups" y_G_reaches y_G_reaches) mw_136)⟩ (mr_preV hBH hK (hP.sub (ws' := [((r 1), .inr (1, [.ref (r 2), .ref (r 3)])), ((r 3), .inl (cI, 8, .inl fi))]) [1, 2] rfl) (ci := 1) (q0 := 0) rfl rfl) rfl rfl hl.1 rfl (lv_room (Nat.le_of_ble_eq_true rfl)) d_M_isOfLand_17 ⟨Nat.le_of_ble_eq_true rfl, Nat.le_of_ble_eq_true rfl⟩)) (fun r_5 h_6 => ?_)
    subst h_6
    refine lv_if_eq (tgt := 35) hx hb d_M_isOfLand_20 (by decide) (fun c_7 => ?_) (fun c_7 => ?_)
    · refine lv_iconst (v := 0) hx hb d_M_isOfLand_35 (by decide) ?_
      exact W.zret (v := 0) hx hb hr (mr_narz mr_b0) (fun t ht _ => ⟨_, rfl, mr_b0, ht⟩) (fun _ h => nomatch h) d_M_isOfLand_36
    · refine lv_aload_n hx hb d_M_isOfLand_23 rfl (lv_at hl 1 rfl) ?_
      refine lv_iload_n hx hb d_M_isOfLand_24 rfl (lv_at hl 2 rfl) ?_
      refine vp_callSi (va_Run.run (va_runV (As := [.int a1]) (rest := []) (C := R_R) ⟨hx, hb, hml, hown, hts⟩ (mc_R_leavesOut l s0 dC dI cI cR cL cZ q ql qk vc vp vf (nI k) vr vn ve vw vt a1) ⟨(mr_cB 1 (hts (Cond.code y_R_leavesOut b_R_leavesOut 2 (some .boolean)) mw_159) (hts (Cond.initialized y_R_leavesOut.cls) mw_160) (hts (Cond.methodLink "MeasureRows" 204 y_R_leavesOut) mw_161) rfl rfl (by decide +kernel) ⟨Nat.le_of_ble_eq_true rfl, Nat.le_of_ble_eq_true rfl⟩), (hts (Cond.instanceMethod y_R_leavesOut) mw_162), (hts (Cond.selects "MeasureRows$Row" y_R_leavesOut y_R_leavesOut) mw_163)⟩ (mr_preV hBH hK (hP.sub (ws' := [(q, .inr (2, [.int vc, .int vp, .int vf, .int (nI k), .int vr, .int vn, .int ve, .int vw, .int vt, .ref ql, .ref qk]))]) [3] rfl) (ci := 2) (q0 := 0) rfl rfl) rfl rfl hl.1 rfl (lv_room (Nat.le_of_ble_eq_true rfl)) d_M_isOfLand_25 ⟨Nat.le_of_ble_eq_true rfl, Nat.le_of_ble_eq_true rfl⟩)) (fun r_8 h_9 => ?_)
      subst h_9
      refine lv_if_ne (tgt := 35) hx hb d_M_isOfLand_28 (by decide) (fun c_10 => ?_) (fun c_10 => ?_)
      · refine lv_iconst (v := 0) hx hb d_M_isOfLand_35 (by decide) ?_
        exact W.zret (v := 0) hx hb hr (mr_narz mr_b0) (fun t ht _ => ⟨_, rfl, mr_b0, ht⟩) (fun _ h => nomatch h) d_M_isOfLand_36
      · refine lv_iconst (v := 1) hx hb d_M_isOfLand_31 (by decide) ?_
        refine lv_goto (tgt := 36) hx hb d_M_isOfLand_32 (by decide) ?_
        exact W.zret (v := 1) hx hb hr (mr_narz mr_b1) (fun t ht _ => ⟨_, rfl, mr_b1, ht⟩) (fun _ h => nomatch h) d_M_isOfLand_36
set_option maxHeartbeats 4000000 in
set_option maxRecDepth 100000 in
theorem mc_M_isBeaten (l : Launch) (s0 : State) (dC : Nat → ClassId) (dI : Nat → Nat → Nat) (cI cR cL cZ : ClassId) (r : Nat → Nat) (n : Nat) (nw pb lc : Int32) (fg : Nat → Int32) (q ql qk : Nat) (vc vp vf vr vn ve vw vt : Int32) (k : Nat) (hk : k < 8) : Met l y_M_isBeaten [Cond.code y_M_isBeaten b_M_isBeaten 2 (some .boolean)] ({ frames := 2, cells := 0, slots := 0, locals := 40 }) (mr_PW s0 (dC, dI) [(cI, .int), (cR, .object "MeasureRows$Row"), (cL, .long), (cZ, .boolean)] [.ref (r 0), .ref q] [((r 0), .inr (0, mf_M r (nI n) nw pb lc)), ((r 7), .inl (cI, 8, .inl fg)), (q, .inr (2, [.int vc, .int vp, .int vf, .int (nI k), .int vr, .int vn, .int ve, .int vw, .int vt, .ref ql, .ref qk]))]) (vp_Si (fun r => mr_b01 r)) 0 0 (fun _ => False) := by
  refine Met.ofW (cc := b_M_isBeaten) (maxL := 2) (ret := (some .boolean)) (by decide) rfl ?_
  intro p e s m args below meth c s₁ B hml hv
  obtain ⟨rfl, hB, hK, hP⟩ := hv
  have hBH := hB.here
  have hx := B.exec
  have hb := B.bytes
  have hr := B.returns
  have hlocks := B.notSynchronized
  have hts : ∀ w ∈ lw_tbl, w.before [.ref (r 0), .ref q].toArray s = true := hB.hts _
  have hown : s.vm.findClass "MeasureRows" = some m.cls := findClass_of_methodNamed B.named
  have hl := lv_entry ([.ref (r 0), .ref q]) (n := 2) (Nat.le_of_ble_eq_true rfl)
  rw [lg_entry_eq]
  generalize (lg_sl ([.ref (r 0), .ref q]) ++ List.replicate (2 - (lg_sl ([.ref (r 0), .ref q])).length) Slot.unset).toArray = ls at hl ⊢
  have hl : lv_has ls 2 [(0, .ref (r 0)), (1, .ref q)] := hl
  refine lv_aload_n hx hb d_M_isBeaten_0 rfl (lv_at hl 1 rfl) ?_
  refine va_get (D := (dC, dI)) (ci := 2) (v := .int (nI k)) (C := R_R) (T := T_R) (N := 11) hx hb hts ti_R hown hK hP 2 rfl rfl 3 (by decide) (hts (Cond.fieldLink "MeasureRows" 164 "MeasureRows$Row" "kind" "I") mw_151) (fun _ h9 => h9) rfl d_M_isBeaten_1 ?_
  refine lv_iconst (v := 4) hx hb d_M_isBeaten_4 (by decide) ?_
  refine lv_icmp_ge (tgt := 28) hx hb d_M_isBeaten_5 (by decide) (fun c_1 => ?_) (fun c_1 => ?_)
  · refine lv_iconst (v := 0) hx hb d_M_isBeaten_28 (by decide) ?_
    exact W.zret (v := 0) hx hb hr (mr_narz mr_b0) (fun t ht _ => ⟨_, rfl, mr_b0, ht⟩) (fun _ h => nomatch h) d_M_isBeaten_29
  · refine lv_aload_n hx hb d_M_isBeaten_8 rfl (lv_at hl 1 rfl) ?_
    refine vp_callSi (va_Run.run (va_runV (As := []) (rest := []) (C := R_R) ⟨hx, hb, hml, hown, hts⟩ (mc_R_weight l s0 dC dI cI cR cL cZ q ql qk vc vp vf (nI k) vr vn ve vw vt) ⟨(mr_cB 0 (hts (Cond.code y_R_weight b_R_weight 1 (some .int)) mw_164) (hts (Cond.initialized y_R_weight.cls) mw_165) (hts (Cond.methodLink "MeasureRows" 210 y_R_weight) mw_166) rfl rfl (by decide +kernel) ⟨Nat.le_of_ble_eq_true rfl, Nat.le_of_ble_eq_true rfl⟩), (hts (Cond.instanceMethod y_R_weight) mw_167), (hts (Cond.selects "MeasureRows$Row" y_R_weight y_R_weight) mw_168)⟩ (mr_preV hBH hK (hP.sub (ws' := [(q, .inr (2, [.int vc, .int vp, .int vf, .int (nI k), .int vr, .int vn, .int ve, .int vw, .int vt, .ref ql, .ref qk]))]) [2] rfl) (ci := 2) (q0 := 0) rfl rfl) rfl rfl hl.1 rfl (lv_room (Nat.le_of_ble_eq_true rfl)) d_M_isBeaten_9 ⟨Nat.le_of_ble_eq_true rfl, Nat.le_of_ble_eq_true rfl⟩)) (fun r_2 h_3 => ?_)
    subst h_3
    refine lv_aload_n hx hb d_M_isBeaten_12 rfl (lv_at hl 0 rfl) ?_
    refine va_get (D := (dC, dI)) (ci := 0) (v := .ref (r 7)) (C := R_M) (T := T_M) (N := 9) hx hb hts ti_M hown hK hP 0 rfl rfl 8 (by decide) (hts (Cond.fieldLink "MeasureRows" 42 "MeasureRows" "greatestWeight" "[I") mw_63) (fun _ h9 => h9) rfl d_M_isBeaten_13 ?_
    refine lv_aload_n hx hb d_M_isBeaten_16 rfl (lv_at hl 1 rfl) ?_
    refine va_get (D := (dC, dI)) (ci := 2) (v := .int (nI k)) (C := R_R) (T := T_R) (N := 11) hx hb hts ti_R hown hK hP 2 rfl rfl 3 (by decide) (hts (Cond.fieldLink "MeasureRows" 164 "MeasureRows$Row" "kind" "I") mw_151) (fun _ h9 => h9) rfl d_M_isBeaten_17 ?_
    refine va_iald (D := (dC, dI)) hx hb hK hP 1 0 rfl rfl (i := (nI k)) (nI_in hk (by decide)) d_M_isBeaten_20 ?_
    refine lv_icmp_ge (tgt := 28) hx hb d_M_isBeaten_21 (by decide) (fun c_4 => ?_) (fun c_4 => ?_)
    · refine lv_iconst (v := 0) hx hb d_M_isBeaten_28 (by decide) ?_
      exact W.zret (v := 0) hx hb hr (mr_narz mr_b0) (fun t ht _ => ⟨_, rfl, mr_b0, ht⟩) (fun _ h => nomatch h) d_M_isBeaten_29
    · refine lv_iconst (v := 1) hx hb d_M_isBeaten_24 (by decide) ?_
      refine lv_goto (tgt := 29) hx hb d_M_isBeaten_25 (by decide) ?_
      exact W.zret (v := 1) hx hb hr (mr_narz mr_b1) (fun t ht _ => ⟨_, rfl, mr_b1, ht⟩) (fun _ h => nomatch h) d_M_isBeaten_29
set_option maxHeartbeats 4000000 in
set_option maxRecDepth 100000 in
theorem mc_M_at (l : Launch) (s0 : State) (dC : Nat → ClassId) (dI : Nat → Nat → Nat) (cI cR cL cZ : ClassId) (r : Nat → Nat) (n : Nat) (nw pb : Int32) (qc : Nat) (fl : Nat → Int32) (a0 : Int32) (hq : qc ≤ 80) : Met l y_M_at [Cond.code y_M_at b_M_at 2 (some .int)] ({ frames := 0, cells := 0, slots := 0, locals := 0 }) (mr_PW s0 (dC, dI) [(cI, .int), (cR, .object "MeasureRows$Row"), (cL, .long), (cZ, .boolean)] [.ref (r 0), .int a0] [((r 0), .inr (0, mf_M r (nI n) nw pb (nI qc))), ((r 5), .inl (cI, 80, .inl fl))]) (vp_Si (fun _ => True)) 0 0 (fun _ => False) := by
  refine Met.ofW (cc := b_M_at) (maxL := 2) (ret := (some .int)) (by decide) rfl ?_
  intro p e s m args below meth c s₁ B hml hv
  obtain ⟨rfl, hB, hK, hP⟩ := hv
  have hBH := hB.here
  have hx := B.exec
  have hb := B.bytes
  have hr := B.returns
  have hlocks := B.notSynchronized
  have hts : ∀ w ∈ lw_tbl, w.before [.ref (r 0), .int a0].toArray s = true := hB.hts _
  have hown : s.vm.findClass "MeasureRows" = some m.cls := findClass_of_methodNamed B.named
  have hl := lv_entry ([.ref (r 0), .int a0]) (n := 2) (Nat.le_of_ble_eq_true rfl)
  rw [lg_entry_eq]
  generalize (lg_sl ([.ref (r 0), .int a0]) ++ List.replicate (2 - (lg_sl ([.ref (r 0), .int a0])).length) Slot.unset).toArray = ls at hl ⊢
  have hl : lv_has ls 2 [(0, .ref (r 0)), (1, .int a0)] := hl
  refine lv_iload_n hx hb d_M_at_0 rfl (lv_at hl 1 rfl) ?_
  refine lv_if_lt (tgt := 21) hx hb d_M_at_1 (by decide) (fun c_1 => ?_) (fun c_1 => ?_)
  · refine lv_iconst (v := (-1)) hx hb d_M_at_21 (by decide) ?_
    exact W.iret (v := (-1)) hx hb hr (fun t ht _ => ⟨_, rfl, trivial, ht⟩) (fun _ h => nomatch h) d_M_at_22
  · refine lv_iload_n hx hb d_M_at_4 rfl (lv_at hl 1 rfl) ?_
    refine lv_aload_n hx hb d_M_at_5 rfl (lv_at hl 0 rfl) ?_
    refine va_get (D := (dC, dI)) (ci := 0) (v := .int (nI qc)) (C := R_M) (T := T_M) (N := 9) hx hb hts ti_M hown hK hP 0 rfl rfl 6 (by decide) (hts (Cond.fieldLink "MeasureRows" 36 "MeasureRows" "listedCount" "I") mw_61) (fun _ h9 => h9) rfl d_M_at_6 ?_
    refine lv_icmp_ge (tgt := 21) hx hb d_M_at_9 (by decide) (fun c_2 => ?_) (fun c_2 => ?_)
    · refine lv_iconst (v := (-1)) hx hb d_M_at_21 (by decide) ?_
      exact W.iret (v := (-1)) hx hb hr (fun t ht _ => ⟨_, rfl, trivial, ht⟩) (fun _ h => nomatch h) d_M_at_22
    · refine lv_aload_n hx hb d_M_at_12 rfl (lv_at hl 0 rfl) ?_
      refine va_get (D := (dC, dI)) (ci := 0) (v := .ref (r 5)) (C := R_M) (T := T_M) (N := 9) hx hb hts ti_M hown hK hP 0 rfl rfl 5 (by decide) (hts (Cond.fieldLink "MeasureRows" 32 "MeasureRows" "listed" "[I") mw_60) (fun _ h9 => h9) rfl d_M_at_13 ?_
      refine lv_iload_n hx hb d_M_at_16 rfl (lv_at hl 1 rfl) ?_
      refine va_iald (D := (dC, dI)) hx hb hK hP 1 0 rfl rfl (i := a0) (mr_ab hq c_1 c_2) d_M_at_17 ?_
      refine lv_goto (tgt := 22) hx hb d_M_at_18 (by decide) ?_
      exact W.iret (v := fl a0.toNatClampNeg) hx hb hr (fun t ht _ => ⟨_, rfl, trivial, ht⟩) (fun _ h => nomatch h) d_M_at_22
set_option maxHeartbeats 4000000 in
set_option maxRecDepth 100000 in
theorem mc_M_count (l : Launch) (s0 : State) (dC : Nat → ClassId) (dI : Nat → Nat → Nat) (cI cR cL cZ : ClassId) (r : Nat → Nat) (n : Nat) (nw pb lc : Int32) (fi : Nat → Int32) (a0 : Int32) : Met l y_M_count [Cond.code y_M_count b_M_count 2 (some .int)] ({ frames := 3, cells := 0, slots := 0, locals := 62 }) (mr_PW s0 (dC, dI) [(cI, .int), (cR, .object "MeasureRows$Row"), (cL, .long), (cZ, .boolean)] [.ref (r 0), .int a0] [((r 0), .inr (0, mf_M r (nI n) nw pb lc)), ((r 1), .inr (1, [.ref (r 2), .ref (r 3)])), ((r 3), .inl (cI, 8, .inl fi))]) (vp_Si (fun _ => True)) 0 0 (fun _ => False) := by
  refine Met.ofW (cc := b_M_count) (maxL := 2) (ret := (some .int)) (by decide) rfl ?_
  intro p e s m args below meth c s₁ B hml hv
  obtain ⟨rfl, hB, hK, hP⟩ := hv
  have hBH := hB.here
  have hx := B.exec
  have hb := B.bytes
  have hr := B.returns
  have hlocks := B.notSynchronized
  have hts : ∀ w ∈ lw_tbl, w.before [.ref (r 0), .int a0].toArray s = true := hB.hts _
  have hown : s.vm.findClass "MeasureRows" = some m.cls := findClass_of_methodNamed B.named
  have hl := lv_entry ([.ref (r 0), .int a0]) (n := 2) (Nat.le_of_ble_eq_true rfl)
  rw [lg_entry_eq]
  generalize (lg_sl ([.ref (r 0), .int a0]) ++ List.replicate (2 - (lg_sl ([.ref (r 0), .int a0])).length) Slot.unset).toArray = ls at hl ⊢
  have hl : lv_has ls 2 [(0, .ref (r 0)), (1, .int a0)] := hl
  refine lv_iload_n hx hb d_M_count_0 rfl (lv_at hl 1 rfl) ?_
  refine vp_callSi (va_Run.run (va_runS (As := [.int a0]) (rest := []) ⟨hx, hb, hml, hown, hts⟩ (mc_M_isGroup l s0 a0) ⟨(mr_cB 1 (hts (Cond.code y_M_isGroup b_M_isGroup 1 (some .boolean)) mw_5) (hts (Cond.initialized y_M_isGroup.cls) mw_6) (hts (Cond.methodLink "MeasureRows" 45 y_M_isGroup) mw_7) rfl rfl (by decide +kernel) ⟨Nat.le_of_ble_eq_true rfl, Nat.le_of_ble_eq_true rfl⟩), (hts (Cond.static y_M_isGroup) mw_8)⟩ (mr_pre0 hBH) rfl rfl hl.1 rfl (lv_room (Nat.le_of_ble_eq_true rfl)) d_M_count_1 ⟨Nat.le_of_ble_eq_true rfl, Nat.le_of_ble_eq_true rfl⟩)) (fun r_1 h_2 => ?_)
  subst h_2
  refine lv_if_eq (tgt := 16) hx hb d_M_count_4 (by decide) (fun c_3 => ?_) (fun c_3 => ?_)
  · refine lv_iload_n hx hb d_M_count_16 rfl (lv_at hl 1 rfl) ?_
    by_cases c_4 : a0 = 0
    · refine lv_tableIn (tgt := 48) hx hb d_M_count_17 (by rw [c_4]; decide) (by rw [c_4]; decide) (by rw [c_4]; rfl) (by decide) ?_
      refine lv_aload_n hx hb d_M_count_48 rfl (lv_at hl 0 rfl) ?_
      refine va_get (D := (dC, dI)) (ci := 0) (v := .int (nI n)) (C := R_M) (T := T_M) (N := 9) hx hb hts ti_M hown hK hP 0 rfl rfl 2 (by decide) (hts (Cond.fieldLink "MeasureRows" 22 "MeasureRows" "rowCount" "I") mw_57) (fun _ h9 => h9) rfl d_M_count_49 ?_
      exact W.iret (v := (nI n)) hx hb hr (fun t ht _ => ⟨_, rfl, trivial, ht⟩) (fun _ h => nomatch h) d_M_count_52
    · skip
      by_cases c_5 : a0 = 1
      · refine lv_tableIn (tgt := 53) hx hb d_M_count_17 (by rw [c_5]; decide) (by rw [c_5]; decide) (by rw [c_5]; rfl) (by decide) ?_
        refine lv_aload_n hx hb d_M_count_53 rfl (lv_at hl 0 rfl) ?_
        refine va_get (D := (dC, dI)) (ci := 0) (v := .int nw) (C := R_M) (T := T_M) (N := 9) hx hb hts ti_M hown hK hP 0 rfl rfl 3 (by decide) (hts (Cond.fieldLink "MeasureRows" 26 "MeasureRows" "now" "I") mw_58) (fun _ h9 => h9) rfl d_M_count_54 ?_
        exact W.iret (v := nw) hx hb hr (fun t ht _ => ⟨_, rfl, trivial, ht⟩) (fun _ h => nomatch h) d_M_count_57
      · skip
        by_cases c_6 : a0 = 2
        · refine lv_tableIn (tgt := 58) hx hb d_M_count_17 (by rw [c_6]; decide) (by rw [c_6]; decide) (by rw [c_6]; rfl) (by decide) ?_
          refine lv_aload_n hx hb d_M_count_58 rfl (lv_at hl 0 rfl) ?_
          refine va_get (D := (dC, dI)) (ci := 0) (v := .int lc) (C := R_M) (T := T_M) (N := 9) hx hb hts ti_M hown hK hP 0 rfl rfl 6 (by decide) (hts (Cond.fieldLink "MeasureRows" 36 "MeasureRows" "listedCount" "I") mw_61) (fun _ h9 => h9) rfl d_M_count_59 ?_
          exact W.iret (v := lc) hx hb hr (fun t ht _ => ⟨_, rfl, trivial, ht⟩) (fun _ h => nomatch h) d_M_count_62
        · skip
          by_cases c_7 : a0 = 3
          · refine lv_tableIn (tgt := 63) hx hb d_M_count_17 (by rw [c_7]; decide) (by rw [c_7]; decide) (by rw [c_7]; rfl) (by decide) ?_
            refine lv_aload_n hx hb d_M_count_63 rfl (lv_at hl 0 rfl) ?_
            refine va_get (D := (dC, dI)) (ci := 0) (v := .int pb) (C := R_M) (T := T_M) (N := 9) hx hb hts ti_M hown hK hP 0 rfl rfl 4 (by decide) (hts (Cond.fieldLink "MeasureRows" 29 "MeasureRows" "paperBits" "I") mw_59) (fun _ h9 => h9) rfl d_M_count_64 ?_
            exact W.iret (v := pb) hx hb hr (fun t ht _ => ⟨_, rfl, trivial, ht⟩) (fun _ h => nomatch h) d_M_count_67
          · skip
            refine lv_tableOut (tgt := 68) hx hb d_M_count_17 (by have z0 := mr_ne (z := 0) (by decide) c_4; have z1 := mr_ne (z := 1) (by decide) c_5; have z2 := mr_ne (z := 2) (by decide) c_6; have z3 := mr_ne (z := 3) (by decide) c_7; omega) (by decide) ?_
            refine lv_iconst (v := (-1)) hx hb d_M_count_68 (by decide) ?_
            exact W.iret (v := (-1)) hx hb hr (fun t ht _ => ⟨_, rfl, trivial, ht⟩) (fun _ h => nomatch h) d_M_count_69
  · refine lv_aload_n hx hb d_M_count_7 rfl (lv_at hl 0 rfl) ?_
    refine va_get (D := (dC, dI)) (ci := 0) (v := .ref (r 1)) (C := R_M) (T := T_M) (N := 9) hx hb hts ti_M hown hK hP 0 rfl rfl 0 (by decide) (hts (Cond.fieldLink "MeasureRows" 10 "MeasureRows" "groups" "LMeasureRows$Groups;") mw_53) (fun _ h9 => h9) rfl d_M_count_8 ?_
    refine lv_iload_n hx hb d_M_count_11 rfl (lv_at hl 1 rfl) ?_
    refine vp_callSi (va_Run.run (va_runV (As := [.int a0]) (rest := []) (C := R_G) ⟨hx, hb, hml, hown, hts⟩ (mc_G_landsIn l s0 dC dI cI cR cL cZ (r 1) (r 2) (r 3) fi a0) ⟨(mr_cB 1 (hts (Cond.code y_G_landsIn b_G_landsIn 2 (some .int)) mw_169) (hts (Cond.initialized y_G_landsIn.cls) mw_170) (hts (Cond.methodLink "MeasureRows" 186 y_G_landsIn) mw_171) rfl rfl (by decide +kernel) ⟨Nat.le_of_ble_eq_true rfl, Nat.le_of_ble_eq_true rfl⟩), (hts (Cond.instanceMethod y_G_landsIn) mw_172), (hts (Cond.selects "MeasureRows$Groups" y_G_landsIn y_G_landsIn) mw_173)⟩ (mr_preV hBH hK (hP.sub (ws' := [((r 1), .inr (1, [.ref (r 2), .ref (r 3)])), ((r 3), .inl (cI, 8, .inl fi))]) [1, 2] rfl) (ci := 1) (q0 := 0) rfl rfl) rfl rfl hl.1 rfl (lv_room (Nat.le_of_ble_eq_true rfl)) d_M_count_12 ⟨Nat.le_of_ble_eq_true rfl, Nat.le_of_ble_eq_true rfl⟩)) (fun r_8 h_9 => ?_)
    subst h_9
    exact W.iret (v := mv_G_landsIn fi a0) hx hb hr (fun t ht _ => ⟨_, rfl, trivial, ht⟩) (fun _ h => nomatch h) d_M_count_15
end
section
theorem mr_new1 {D : va_G} {cl : List vw_C} {f : Nat → va_E} {H1 : Heap} {a : Nat} {e0 e1 : va_E} (hP1 : va_P D cl [(a, e1)] H1) : ∀ b : Nat, (∃ (k : Nat) (e : va_E), ([(a, e0)] : va_W)[k]? = some (b, e)) → va_at D cl (b, va_up f a e1 b) H1 := by
  rintro b ⟨k, e, hk⟩
  match k, hk with
  | 0, hk =>
    cases hk
    have h := hP1 0 _ rfl
    simpa [va_up] using h
  | k + 1, hk => simp at hk
theorem mr_old1 {L : List Nat} {f : Nat → va_E} {a : Nat} {e0 e1 : va_E} : ∀ b : Nat, b ∈ L → (¬ ∃ (k : Nat) (e : va_E), ([(a, e0)] : va_W)[k]? = some (b, e)) → va_up f a e1 b = f b := by
  intro b _ h
  by_cases hb : b = a
  · exact absurd ⟨0, e0, by rw [hb]; rfl⟩ h
  · simp [va_up, hb]
theorem mr_in3 {L : List Nat} {a b d : Nat} {e1 e2 e3 : va_E} (ha : a ∈ L) (hb : b ∈ L) (hd : d ∈ L) : ∀ (k : Nat) (q : Nat × va_E), ([(a, e1), (b, e2), (d, e3)] : va_W)[k]? = some q → q.1 ∈ L := fun k q hq => by
  match k, hq with
  | 0, hq => cases hq; exact ha
  | 1, hq => cases hq; exact hb
  | 2, hq => cases hq; exact hd
  | k + 3, hq => simp at hq
theorem mr_D3 {A : Nat → Prop} {a b d : Nat} {e1 e2 e3 : va_E} (ha : A a) (hb : A b) (hd : A d) (hne : a ≠ b ∧ a ≠ d ∧ b ≠ d) : va_D A [(a, e1), (b, e2), (d, e3)] := by
  obtain ⟨n1, n2, n3⟩ := hne
  refine ⟨fun i j p q hi hj h => ?_, fun k q hk => ?_⟩
  · match i, j, hi, hj with
    | 0, 0, _, _ => rfl
    | 1, 1, _, _ => rfl
    | 2, 2, _, _ => rfl
    | 0, 1, hi, hj => cases hi; cases hj; exact absurd h n1
    | 0, 2, hi, hj => cases hi; cases hj; exact absurd h n2
    | 1, 2, hi, hj => cases hi; cases hj; exact absurd h n3
    | 1, 0, hi, hj => cases hi; cases hj; exact absurd h.symm n1
    | 2, 0, hi, hj => cases hi; cases hj; exact absurd h.symm n2
    | 2, 1, hi, hj => cases hi; cases hj; exact absurd h.symm n3
    | i + 3, _, hi, _ => simp at hi
    | _, j + 3, _, hj => simp at hj
  · match k, hk with
    | 0, hk => cases hk; exact ha
    | 1, hk => cases hk; exact hb
    | 2, hk => cases hk; exact hd
    | k + 3, hk => simp at hk
theorem mr_ne3 {cI : ClassId} {f : Nat → va_E} {a b d : Nat} {fs : List Value} {x y : vp_A} (ea : f a = .inr (2, fs)) (eb : f b = .inl (cI, x)) (ed : f d = .inl (cI, y)) (h : b ≠ d) : a ≠ b ∧ a ≠ d ∧ b ≠ d := ⟨(fun e => by rw [e, eb] at ea; cases ea), (fun e => by rw [e, ed] at ea; cases ea), h⟩
theorem mr_new3 {D : va_G} {cl : List vw_C} {f : Nat → va_E} {H1 : Heap} {a b d : Nat} {e1 e2 e3 n1 n2 n3 : va_E} (hP1 : va_P D cl [(a, n1), (b, n2), (d, n3)] H1) (hne : a ≠ b ∧ a ≠ d ∧ b ≠ d) : ∀ x : Nat, (∃ (k : Nat) (e : va_E), ([(a, e1), (b, e2), (d, e3)] : va_W)[k]? = some (x, e)) → va_at D cl (x, va_up (va_up (va_up f a n1) b n2) d n3 x) H1 := by
  obtain ⟨h1, h2, h3⟩ := hne
  rintro x ⟨k, e, hk⟩
  match k, hk with
  | 0, hk => cases hk; have h := hP1 0 _ rfl; simpa [va_up, h1, h2] using h
  | 1, hk => cases hk; have h := hP1 1 _ rfl; simpa [va_up, h3] using h
  | 2, hk => cases hk; have h := hP1 2 _ rfl; simpa [va_up] using h
  | k + 3, hk => simp at hk
theorem mr_old3 {L : List Nat} {f : Nat → va_E} {a b d : Nat} {e1 e2 e3 n1 n2 n3 : va_E} : ∀ x : Nat, x ∈ L → (¬ ∃ (k : Nat) (e : va_E), ([(a, e1), (b, e2), (d, e3)] : va_W)[k]? = some (x, e)) → va_up (va_up (va_up f a n1) b n2) d n3 x = f x := by
  intro x _ h
  have ha : x ≠ a := fun q => h ⟨0, e1, by rw [q]; rfl⟩
  have hb : x ≠ b := fun q => h ⟨1, e2, by rw [q]; rfl⟩
  have hd : x ≠ d := fun q => h ⟨2, e3, by rw [q]; rfl⟩
  simp [va_up, ha, hb, hd]
theorem mw_174 : Cond.code y_R_leaveOut b_R_leaveOut 2 (some .boolean) ∈ lw_tbl := by decide +kernel
theorem mw_175 : Cond.initialized y_R_leaveOut.cls ∈ lw_tbl := by decide +kernel
theorem mw_176 : Cond.methodLink "MeasureRows" 115 y_R_leaveOut ∈ lw_tbl := by decide +kernel
theorem mw_177 : Cond.instanceMethod y_R_leaveOut ∈ lw_tbl := by decide +kernel
theorem mw_178 : Cond.selects "MeasureRows$Row" y_R_leaveOut y_R_leaveOut ∈ lw_tbl := by decide +kernel
theorem mw_179 : Cond.code y_R_want b_R_want 2 (some .boolean) ∈ lw_tbl := by decide +kernel
theorem mw_180 : Cond.initialized y_R_want.cls ∈ lw_tbl := by decide +kernel
theorem mw_181 : Cond.methodLink "MeasureRows" 118 y_R_want ∈ lw_tbl := by decide +kernel
theorem mw_182 : Cond.instanceMethod y_R_want ∈ lw_tbl := by decide +kernel
theorem mw_183 : Cond.selects "MeasureRows$Row" y_R_want y_R_want ∈ lw_tbl := by decide +kernel
set_option maxHeartbeats 4000000 in
set_option maxRecDepth 100000 in
theorem mc_M_exclude (l : Launch) (s0 : State) (dC : Nat → ClassId) (dI : Nat → Nat → Nat) (cI cR cL cZ : ClassId) (r : Nat → Nat) (n : Nat) (nw pb lc : Int32) (fm fi : Nat → Int32) (fr : Nat → Option Nat) (fl fc fg : Nat → Int32) (L : List Nat) (f : Nat → va_E) (sz : Nat) (a0 : Int32) (a1 : Int32) (hR : mr_RI cI n L f fr) : Met l y_M_exclude [Cond.code y_M_exclude b_M_exclude 4 (some .boolean)] ({ frames := 3, cells := 0, slots := 0, locals := 63 }) (mr_PC s0 (dC, dI) [(cI, .int), (cR, .object "MeasureRows$Row"), (cL, .long), (cZ, .boolean)] [.ref (r 0), .int a0, .int a1] ([((r 0), .inr (0, mf_M r (nI n) nw pb lc)), ((r 1), .inr (1, [.ref (r 2), .ref (r 3)])), ((r 2), .inl (cI, 8, .inl fm)), ((r 3), .inl (cI, 8, .inl fi)), ((r 4), .inl (cR, 80, .inr (.inr (.inr (.inr fr))))), ((r 5), .inl (cI, 80, .inl fl)), ((r 6), .inl (cI, 80, .inl fc)), ((r 7), .inl (cI, 8, .inl fg))] ++ va_pl L f) sz) (va_Qi (fun _ _ => True) (fun (u : Nat → va_E) t => mr_RI cI n L u fr ∧ mr_W (dC, dI) [(cI, .int), (cR, .object "MeasureRows$Row"), (cL, .long), (cZ, .boolean)] (va_A ([((r 0), .inr (0, mf_M r (nI n) nw pb lc)), ((r 1), .inr (1, [.ref (r 2), .ref (r 3)])), ((r 2), .inl (cI, 8, .inl fm)), ((r 3), .inl (cI, 8, .inl fi)), ((r 4), .inl (cR, 80, .inr (.inr (.inr (.inr fr))))), ((r 5), .inl (cI, 80, .inl fl)), ((r 6), .inl (cI, 80, .inl fc)), ((r 7), .inl (cI, 8, .inl fg))] ++ va_pl L f) sz) ([((r 0), .inr (0, mf_M r (nI n) nw pb lc)), ((r 1), .inr (1, [.ref (r 2), .ref (r 3)])), ((r 2), .inl (cI, 8, .inl fm)), ((r 3), .inl (cI, 8, .inl fi)), ((r 4), .inl (cR, 80, .inr (.inr (.inr (.inr fr))))), ((r 5), .inl (cI, 80, .inl fl)), ((r 6), .inl (cI, 80, .inl fc)), ((r 7), .inl (cI, 8, .inl fg))] ++ va_pl L u) t) (va_A ([((r 0), .inr (0, mf_M r (nI n) nw pb lc)), ((r 1), .inr (1, [.ref (r 2), .ref (r 3)])), ((r 2), .inl (cI, 8, .inl fm)), ((r 3), .inl (cI, 8, .inl fi)), ((r 4), .inl (cR, 80, .inr (.inr (.inr (.inr fr))))), ((r 5), .inl (cI, 80, .inl fl)), ((r 6), .inl (cI, 80, .inl fc)), ((r 7), .inl (cI, 8, .inl fg))] ++ va_pl L f) sz)) 0 0 (va_A ([((r 0), .inr (0, mf_M r (nI n) nw pb lc)), ((r 1), .inr (1, [.ref (r 2), .ref (r 3)])), ((r 2), .inl (cI, 8, .inl fm)), ((r 3), .inl (cI, 8, .inl fi)), ((r 4), .inl (cR, 80, .inr (.inr (.inr (.inr fr))))), ((r 5), .inl (cI, 80, .inl fl)), ((r 6), .inl (cI, 80, .inl fc)), ((r 7), .inl (cI, 8, .inl fg))] ++ va_pl L f) sz) := by
  refine Met.ofW (cc := b_M_exclude) (maxL := 4) (ret := (some .boolean)) (by decide) rfl ?_
  intro p e s m args below meth c s₁ B hml hv
  obtain ⟨rfl, hsz, hB, hK, hP, hD0⟩ := hv
  subst hsz
  have hA0 := mr_A hB hD0
  have hD := hD0.self (sz := s.heap.size)
  generalize hAe : va_A ([((r 0), .inr (0, mf_M r (nI n) nw pb lc)), ((r 1), .inr (1, [.ref (r 2), .ref (r 3)])), ((r 2), .inl (cI, 8, .inl fm)), ((r 3), .inl (cI, 8, .inl fi)), ((r 4), .inl (cR, 80, .inr (.inr (.inr (.inr fr))))), ((r 5), .inl (cI, 80, .inl fl)), ((r 6), .inl (cI, 80, .inl fc)), ((r 7), .inl (cI, 8, .inl fg))] ++ va_pl L f) s.heap.size = A at hD hA0 ⊢
  have hA : ∀ q : Nat, s.heap.size ≤ q → A q := fun q h => by rw [← hAe]; exact Or.inr h
  have hS : va_S A s.heap s.heap [] := va_S.rf
  have hP : va_P (dC, dI) mr_cl ([((r 0), .inr (0, mf_M r (nI n) nw pb lc)), ((r 1), .inr (1, [.ref (r 2), .ref (r 3)])), ((r 2), .inl (cI, 8, .inl fm)), ((r 3), .inl (cI, 8, .inl fi)), ((r 4), .inl (cR, 80, .inr (.inr (.inr (.inr fr))))), ((r 5), .inl (cI, 80, .inl fl)), ((r 6), .inl (cI, 80, .inl fc)), ((r 7), .inl (cI, 8, .inl fg))] ++ va_pl L f) s.heap := hP
  have hBH := hB.at hS hA0
  have hx := B.exec
  have hb := B.bytes
  have hr := B.returns
  have hlocks := B.notSynchronized
  have hts : ∀ w ∈ lw_tbl, w.before [.ref (r 0), .int a0, .int a1].toArray s = true := hB.hts _
  have hown : s.vm.findClass "MeasureRows" = some m.cls := findClass_of_methodNamed B.named
  have hl := lv_entry ([.ref (r 0), .int a0, .int a1]) (n := 4) (Nat.le_of_ble_eq_true rfl)
  rw [lg_entry_eq]
  generalize (lg_sl ([.ref (r 0), .int a0, .int a1]) ++ List.replicate (4 - (lg_sl ([.ref (r 0), .int a0, .int a1])).length) Slot.unset).toArray = ls at hl ⊢
  have hl : lv_has ls 4 [(0, .ref (r 0)), (1, .int a0), (2, .int a1)] := hl
  refine lv_aload_n hx hb d_M_exclude_0 rfl (lv_at hl 0 rfl) ?_
  refine lv_iload_n hx hb d_M_exclude_1 rfl (lv_at hl 1 rfl) ?_
  refine va_csq (va_Run.run (va_runV (As := [.int a0]) (rest := []) (C := R_M) ⟨hx, hb, hml, hown, hts⟩ (mc_M_find l s0 dC dI cI cR cL cZ r n nw pb lc fr a0 hR.1) ⟨(mr_cB 1 (hts (Cond.code y_M_find b_M_find 2 (some (.object "MeasureRows$Row"))) mw_117) (hts (Cond.initialized y_M_find.cls) mw_118) (hts (Cond.methodLink "MeasureRows" 111 y_M_find) mw_119) rfl rfl (by decide +kernel) ⟨Nat.le_of_ble_eq_true rfl, Nat.le_of_ble_eq_true rfl⟩), (hts (Cond.instanceMethod y_M_find) mw_120), (hts (Cond.selects "MeasureRows" y_M_find y_M_find) mw_121)⟩ (mr_preV hBH hK (hP.sub (ws' := [((r 0), .inr (0, mf_M r (nI n) nw pb lc)), ((r 4), .inl (cR, 80, .inr (.inr (.inr (.inr fr)))))]) [0, 4] rfl) (ci := 0) (q0 := 0) rfl rfl) rfl rfl hl.1 rfl (lv_room (Nat.le_of_ble_eq_true rfl)) d_M_exclude_2 ⟨Nat.le_of_ble_eq_true rfl, Nat.le_of_ble_eq_true rfl⟩)) (fun r_1 h_2 => ?_)
  subst h_2
  rcases mr_fc hR a0 with hf_4 | ⟨i_4, hi_4, hxe_4, a_4, ql_4, qk_4, v0_4, v1_4, v2_4, v4_4, v5_4, v6_4, v7_4, k_4, t_4, ld_4, kd_4, hf_4, hfi_4, m1_4, m2_4, m3_4, e1_4, e2_4, e3_4, hk_4, ht_4, ho_4, hne_4⟩
  · refine mr_topv (show va_rf (mv_M_find n fr a0) = .null by rw [hf_4]; rfl) ?_
    refine lv_astore_nN (lv' := [(3, .null), (0, .ref (r 0)), (1, .int a0), (2, .int a1)]) hx hb d_M_exclude_5 rfl hl (by decide) rfl (fun ls hl => ?_)
    refine lv_aload_nN hx hb d_M_exclude_6 rfl (lv_at hl 0 rfl) ?_
    refine lv_ifnullN (tgt := 29) hx hb d_M_exclude_7 (by decide) ?_
    refine lv_iconst (v := 0) hx hb d_M_exclude_29 (by decide) ?_
    have hP9 := hP
    have hD9 := hD
    exact W.zret (v := 0) hx hb hr (mr_narz mr_b0) (fun t ht hW => ⟨⟨_, f, rfl, trivial, hR, by rw [ht]; exact hP9, va_K.moved hW.alike hK, hD9⟩, hS.F ht⟩) hS.2.2 d_M_exclude_30
  · refine mr_topv (show va_rf (mv_M_find n fr a0) = .ref a_4 by rw [hf_4]; rfl) ?_
    have hPr_4 := mr_row3 (X := [((r 0), .inr (0, mf_M r (nI n) nw pb lc)), ((r 1), .inr (1, [.ref (r 2), .ref (r 3)])), ((r 2), .inl (cI, 8, .inl fm)), ((r 3), .inl (cI, 8, .inl fi)), ((r 4), .inl (cR, 80, .inr (.inr (.inr (.inr fr))))), ((r 5), .inl (cI, 80, .inl fl)), ((r 6), .inl (cI, 80, .inl fc)), ((r 7), .inl (cI, 8, .inl fg))]) hP m1_4 m2_4 m3_4 e1_4 e2_4 e3_4
    refine lv_astore_n (lv' := [(3, .ref a_4), (0, .ref (r 0)), (1, .int a0), (2, .int a1)]) hx hb d_M_exclude_5 rfl hl (by decide) rfl (fun ls hl => ?_)
    refine lv_aload_n hx hb d_M_exclude_6 rfl (lv_at hl 0 rfl) ?_
    refine lv_ifnull hx hb d_M_exclude_7 ?_
    refine lv_iload_n hx hb d_M_exclude_10 rfl (lv_at hl 3 rfl) ?_
    refine vp_callSi (va_Run.run (va_runS (As := [.int a1]) (rest := []) ⟨hx, hb, hml, hown, hts⟩ (mc_M_isLand l s0 a1) ⟨(mr_cB 1 (hts (Cond.code y_M_isLand b_M_isLand 1 (some .boolean)) mw_1) (hts (Cond.initialized y_M_isLand.cls) mw_2) (hts (Cond.methodLink "MeasureRows" 49 y_M_isLand) mw_3) rfl rfl (by decide +kernel) ⟨Nat.le_of_ble_eq_true rfl, Nat.le_of_ble_eq_true rfl⟩), (hts (Cond.static y_M_isLand) mw_4)⟩ (mr_pre0 hBH) rfl rfl hl.1 rfl (lv_room (Nat.le_of_ble_eq_true rfl)) d_M_exclude_11 ⟨Nat.le_of_ble_eq_true rfl, Nat.le_of_ble_eq_true rfl⟩)) (fun r_3 h_4 => ?_)
    subst h_4
    refine lv_if_eq (tgt := 29) hx hb d_M_exclude_14 (by decide) (fun c_5 => ?_) (fun c_5 => ?_)
    · refine lv_iconst (v := 0) hx hb d_M_exclude_29 (by decide) ?_
      have hP9 := hP
      have hD9 := hD
      exact W.zret (v := 0) hx hb hr (mr_narz mr_b0) (fun t ht hW => ⟨⟨_, f, rfl, trivial, hR, by rw [ht]; exact hP9, va_K.moved hW.alike hK, hD9⟩, hS.F ht⟩) hS.2.2 d_M_exclude_30
    · refine lv_aload_n hx hb d_M_exclude_17 rfl (lv_at hl 0 rfl) ?_
      refine lv_iload_n hx hb d_M_exclude_18 rfl (lv_at hl 3 rfl) ?_
      have hPc := hPr_4.sub (ws' := [(a_4, .inr (2, [.int v0_4, .int v1_4, .int v2_4, .int (nI k_4), .int v4_4, .int v5_4, .int v6_4, .int v7_4, .int (nI t_4), .ref ql_4, .ref qk_4]))]) [0] rfl
      have hin9 := mr_in1 (L := L) (e := .inr (2, [.int v0_4, .int v1_4, .int v2_4, .int (nI k_4), .int v4_4, .int v5_4, .int v6_4, .int v7_4, .int (nI t_4), .ref ql_4, .ref qk_4])) m1_4
      have hDc : va_D A [(a_4, .inr (2, [.int v0_4, .int v1_4, .int v2_4, .int (nI k_4), .int v4_4, .int v5_4, .int v6_4, .int v7_4, .int (nI t_4), .ref ql_4, .ref qk_4]))] := mr_D1 (mr_plA (X := [((r 0), .inr (0, mf_M r (nI n) nw pb lc)), ((r 1), .inr (1, [.ref (r 2), .ref (r 3)])), ((r 2), .inl (cI, 8, .inl fm)), ((r 3), .inl (cI, 8, .inl fi)), ((r 4), .inl (cR, 80, .inr (.inr (.inr (.inr fr))))), ((r 5), .inl (cI, 80, .inl fl)), ((r 6), .inl (cI, 80, .inl fc)), ((r 7), .inl (cI, 8, .inl fg))]) hD m1_4)
      have hFc := mr_plfree (X := [((r 0), .inr (0, mf_M r (nI n) nw pb lc)), ((r 1), .inr (1, [.ref (r 2), .ref (r 3)])), ((r 2), .inl (cI, 8, .inl fm)), ((r 3), .inl (cI, 8, .inl fi)), ((r 4), .inl (cR, 80, .inr (.inr (.inr (.inr fr))))), ((r 5), .inl (cI, 80, .inl fl)), ((r 6), .inl (cI, 80, .inl fc)), ((r 7), .inl (cI, 8, .inl fg))]) (wc := [(a_4, .inr (2, [.int v0_4, .int v1_4, .int v2_4, .int (nI k_4), .int v4_4, .int v5_4, .int v6_4, .int v7_4, .int (nI t_4), .ref ql_4, .ref qk_4]))]) hD hS hA hin9
      refine va_calli (va_runV (As := [.int a1]) (rest := []) (C := R_R) ⟨hx, hb, hml, hown, hts⟩ (mc_R_leaveOut l s0 dC dI cI cR cL cZ a_4 ql_4 qk_4 v0_4 v1_4 v2_4 (nI k_4) v4_4 v5_4 v6_4 v7_4 (nI t_4) _ a1) ⟨(mr_cB 1 (hts (Cond.code y_R_leaveOut b_R_leaveOut 2 (some .boolean)) mw_174) (hts (Cond.initialized y_R_leaveOut.cls) mw_175) (hts (Cond.methodLink "MeasureRows" 115 y_R_leaveOut) mw_176) rfl rfl (by decide +kernel) ⟨Nat.le_of_ble_eq_true rfl, Nat.le_of_ble_eq_true rfl⟩), (hts (Cond.instanceMethod y_R_leaveOut) mw_177), (hts (Cond.selects "MeasureRows$Row" y_R_leaveOut y_R_leaveOut) mw_178)⟩ (mr_preCV hBH hK hPc (hDc.weaken (fun _ _ _ h => hA0 _ h)) (ci := 2) (q0 := 0) rfl rfl) rfl rfl hl.1 rfl (lv_room (Nat.le_of_ble_eq_true rfl)) d_M_exclude_19 ⟨Nat.le_of_ble_eq_true rfl, Nat.le_of_ble_eq_true rfl⟩) hS (fun q _ h => hFc q h) hFc (fun r_6 u_7 t9 H1 locs ht9 hvm hw hB1 hz1 hk1 hS => ?_)
      obtain ⟨hP1, hK1, hD1⟩ := hB1
      rw [ht9] at hP1
      have hb9 : mr_b01 r_6 := by rw [hw.1]; exact mv_R_leaveOut_b _ _
      obtain ⟨hP, hD⟩ := mr_plset (X := [((r 0), .inr (0, mf_M r (nI n) nw pb lc)), ((r 1), .inr (1, [.ref (r 2), .ref (r 3)])), ((r 2), .inl (cI, 8, .inl fm)), ((r 3), .inl (cI, 8, .inl fi)), ((r 4), .inl (cR, 80, .inr (.inr (.inr (.inr fr))))), ((r 5), .inl (cI, 80, .inl fl)), ((r 6), .inl (cI, 80, .inl fc)), ((r 7), .inl (cI, 8, .inl fg))]) (f' := va_up f a_4 (.inr (2, [.int v0_4, .int v1_4, .int v2_4, .int (nI k_4), .int v4_4, .int v5_4, .int u_7, .int v7_4, .int (nI t_4), .ref ql_4, .ref qk_4]))) hP hD hin9 hk1 (mr_new1 hP1) mr_old1
      have hR := mr_upR (w0 := v0_4) (w1 := v1_4) (w2 := v2_4) (w4 := v4_4) (w5 := v5_4) (w6 := u_7) (w7 := v7_4) hR e1_4 m2_4 m3_4 e2_4 e3_4 hk_4 ht_4 ho_4 hne_4
      clear hK1 hk1 hPc hDc hFc hin9
      generalize va_up f a_4 (.inr (2, [.int v0_4, .int v1_4, .int v2_4, .int (nI k_4), .int v4_4, .int v5_4, .int u_7, .int v7_4, .int (nI t_4), .ref ql_4, .ref qk_4])) = f at hP hD hR
      generalize H1 = H at hP hS ⊢
      have hP : va_P (dC, dI) mr_cl ([((r 0), .inr (0, mf_M r (nI n) nw pb lc)), ((r 1), .inr (1, [.ref (r 2), .ref (r 3)])), ((r 2), .inl (cI, 8, .inl fm)), ((r 3), .inl (cI, 8, .inl fi)), ((r 4), .inl (cR, 80, .inr (.inr (.inr (.inr fr))))), ((r 5), .inl (cI, 80, .inl fl)), ((r 6), .inl (cI, 80, .inl fc)), ((r 7), .inl (cI, 8, .inl fg))] ++ va_pl L f) H := hP
      have hD : va_D A ([((r 0), .inr (0, mf_M r (nI n) nw pb lc)), ((r 1), .inr (1, [.ref (r 2), .ref (r 3)])), ((r 2), .inl (cI, 8, .inl fm)), ((r 3), .inl (cI, 8, .inl fi)), ((r 4), .inl (cR, 80, .inr (.inr (.inr (.inr fr))))), ((r 5), .inl (cI, 80, .inl fl)), ((r 6), .inl (cI, 80, .inl fc)), ((r 7), .inl (cI, 8, .inl fg))] ++ va_pl L f) := hD
      have hBH := hB.at hS hA0
      refine lv_if_eq (tgt := 29) hx hb d_M_exclude_22 (by decide) (fun c_8 => ?_) (fun c_8 => ?_)
      · refine lv_iconst (v := 0) hx hb d_M_exclude_29 (by decide) ?_
        have hP9 := hP
        have hD9 := hD
        exact W.zret (v := 0) hx hb hr (mr_narz mr_b0) (fun t ht hW => ⟨⟨_, f, rfl, trivial, hR, by rw [ht]; exact hP9, va_K.moved hW.alike hK, hD9⟩, hS.F ht⟩) hS.2.2 d_M_exclude_30
      · refine lv_iconst (v := 1) hx hb d_M_exclude_25 (by decide) ?_
        refine lv_goto (tgt := 30) hx hb d_M_exclude_26 (by decide) ?_
        have hP9 := hP
        have hD9 := hD
        exact W.zret (v := 1) hx hb hr (mr_narz mr_b1) (fun t ht hW => ⟨⟨_, f, rfl, trivial, hR, by rw [ht]; exact hP9, va_K.moved hW.alike hK, hD9⟩, hS.F ht⟩) hS.2.2 d_M_exclude_30
set_option maxHeartbeats 4000000 in
set_option maxRecDepth 100000 in
theorem mc_M_condition (l : Launch) (s0 : State) (dC : Nat → ClassId) (dI : Nat → Nat → Nat) (cI cR cL cZ : ClassId) (r : Nat → Nat) (n : Nat) (nw pb lc : Int32) (fm fi : Nat → Int32) (fr : Nat → Option Nat) (fl fc fg : Nat → Int32) (L : List Nat) (f : Nat → va_E) (sz : Nat) (a0 : Int32) (a1 : Int32) (hR : mr_RI cI n L f fr) : Met l y_M_condition [Cond.code y_M_condition b_M_condition 4 (some .boolean)] ({ frames := 3, cells := 0, slots := 0, locals := 63 }) (mr_PC s0 (dC, dI) [(cI, .int), (cR, .object "MeasureRows$Row"), (cL, .long), (cZ, .boolean)] [.ref (r 0), .int a0, .int a1] ([((r 0), .inr (0, mf_M r (nI n) nw pb lc)), ((r 1), .inr (1, [.ref (r 2), .ref (r 3)])), ((r 2), .inl (cI, 8, .inl fm)), ((r 3), .inl (cI, 8, .inl fi)), ((r 4), .inl (cR, 80, .inr (.inr (.inr (.inr fr))))), ((r 5), .inl (cI, 80, .inl fl)), ((r 6), .inl (cI, 80, .inl fc)), ((r 7), .inl (cI, 8, .inl fg))] ++ va_pl L f) sz) (va_Qi (fun _ _ => True) (fun (u : Nat → va_E) t => mr_RI cI n L u fr ∧ mr_W (dC, dI) [(cI, .int), (cR, .object "MeasureRows$Row"), (cL, .long), (cZ, .boolean)] (va_A ([((r 0), .inr (0, mf_M r (nI n) nw pb lc)), ((r 1), .inr (1, [.ref (r 2), .ref (r 3)])), ((r 2), .inl (cI, 8, .inl fm)), ((r 3), .inl (cI, 8, .inl fi)), ((r 4), .inl (cR, 80, .inr (.inr (.inr (.inr fr))))), ((r 5), .inl (cI, 80, .inl fl)), ((r 6), .inl (cI, 80, .inl fc)), ((r 7), .inl (cI, 8, .inl fg))] ++ va_pl L f) sz) ([((r 0), .inr (0, mf_M r (nI n) nw pb lc)), ((r 1), .inr (1, [.ref (r 2), .ref (r 3)])), ((r 2), .inl (cI, 8, .inl fm)), ((r 3), .inl (cI, 8, .inl fi)), ((r 4), .inl (cR, 80, .inr (.inr (.inr (.inr fr))))), ((r 5), .inl (cI, 80, .inl fl)), ((r 6), .inl (cI, 80, .inl fc)), ((r 7), .inl (cI, 8, .inl fg))] ++ va_pl L u) t) (va_A ([((r 0), .inr (0, mf_M r (nI n) nw pb lc)), ((r 1), .inr (1, [.ref (r 2), .ref (r 3)])), ((r 2), .inl (cI, 8, .inl fm)), ((r 3), .inl (cI, 8, .inl fi)), ((r 4), .inl (cR, 80, .inr (.inr (.inr (.inr fr))))), ((r 5), .inl (cI, 80, .inl fl)), ((r 6), .inl (cI, 80, .inl fc)), ((r 7), .inl (cI, 8, .inl fg))] ++ va_pl L f) sz)) 0 0 (va_A ([((r 0), .inr (0, mf_M r (nI n) nw pb lc)), ((r 1), .inr (1, [.ref (r 2), .ref (r 3)])), ((r 2), .inl (cI, 8, .inl fm)), ((r 3), .inl (cI, 8, .inl fi)), ((r 4), .inl (cR, 80, .inr (.inr (.inr (.inr fr))))), ((r 5), .inl (cI, 80, .inl fl)), ((r 6), .inl (cI, 80, .inl fc)), ((r 7), .inl (cI, 8, .inl fg))] ++ va_pl L f) sz) := by
  refine Met.ofW (cc := b_M_condition) (maxL := 4) (ret := (some .boolean)) (by decide) rfl ?_
  intro p e s m args below meth c s₁ B hml hv
  obtain ⟨rfl, hsz, hB, hK, hP, hD0⟩ := hv
  subst hsz
  have hA0 := mr_A hB hD0
  have hD := hD0.self (sz := s.heap.size)
  generalize hAe : va_A ([((r 0), .inr (0, mf_M r (nI n) nw pb lc)), ((r 1), .inr (1, [.ref (r 2), .ref (r 3)])), ((r 2), .inl (cI, 8, .inl fm)), ((r 3), .inl (cI, 8, .inl fi)), ((r 4), .inl (cR, 80, .inr (.inr (.inr (.inr fr))))), ((r 5), .inl (cI, 80, .inl fl)), ((r 6), .inl (cI, 80, .inl fc)), ((r 7), .inl (cI, 8, .inl fg))] ++ va_pl L f) s.heap.size = A at hD hA0 ⊢
  have hA : ∀ q : Nat, s.heap.size ≤ q → A q := fun q h => by rw [← hAe]; exact Or.inr h
  have hS : va_S A s.heap s.heap [] := va_S.rf
  have hP : va_P (dC, dI) mr_cl ([((r 0), .inr (0, mf_M r (nI n) nw pb lc)), ((r 1), .inr (1, [.ref (r 2), .ref (r 3)])), ((r 2), .inl (cI, 8, .inl fm)), ((r 3), .inl (cI, 8, .inl fi)), ((r 4), .inl (cR, 80, .inr (.inr (.inr (.inr fr))))), ((r 5), .inl (cI, 80, .inl fl)), ((r 6), .inl (cI, 80, .inl fc)), ((r 7), .inl (cI, 8, .inl fg))] ++ va_pl L f) s.heap := hP
  have hBH := hB.at hS hA0
  have hx := B.exec
  have hb := B.bytes
  have hr := B.returns
  have hlocks := B.notSynchronized
  have hts : ∀ w ∈ lw_tbl, w.before [.ref (r 0), .int a0, .int a1].toArray s = true := hB.hts _
  have hown : s.vm.findClass "MeasureRows" = some m.cls := findClass_of_methodNamed B.named
  have hl := lv_entry ([.ref (r 0), .int a0, .int a1]) (n := 4) (Nat.le_of_ble_eq_true rfl)
  rw [lg_entry_eq]
  generalize (lg_sl ([.ref (r 0), .int a0, .int a1]) ++ List.replicate (4 - (lg_sl ([.ref (r 0), .int a0, .int a1])).length) Slot.unset).toArray = ls at hl ⊢
  have hl : lv_has ls 4 [(0, .ref (r 0)), (1, .int a0), (2, .int a1)] := hl
  refine lv_aload_n hx hb d_M_condition_0 rfl (lv_at hl 0 rfl) ?_
  refine lv_iload_n hx hb d_M_condition_1 rfl (lv_at hl 1 rfl) ?_
  refine va_csq (va_Run.run (va_runV (As := [.int a0]) (rest := []) (C := R_M) ⟨hx, hb, hml, hown, hts⟩ (mc_M_find l s0 dC dI cI cR cL cZ r n nw pb lc fr a0 hR.1) ⟨(mr_cB 1 (hts (Cond.code y_M_find b_M_find 2 (some (.object "MeasureRows$Row"))) mw_117) (hts (Cond.initialized y_M_find.cls) mw_118) (hts (Cond.methodLink "MeasureRows" 111 y_M_find) mw_119) rfl rfl (by decide +kernel) ⟨Nat.le_of_ble_eq_true rfl, Nat.le_of_ble_eq_true rfl⟩), (hts (Cond.instanceMethod y_M_find) mw_120), (hts (Cond.selects "MeasureRows" y_M_find y_M_find) mw_121)⟩ (mr_preV hBH hK (hP.sub (ws' := [((r 0), .inr (0, mf_M r (nI n) nw pb lc)), ((r 4), .inl (cR, 80, .inr (.inr (.inr (.inr fr)))))]) [0, 4] rfl) (ci := 0) (q0 := 0) rfl rfl) rfl rfl hl.1 rfl (lv_room (Nat.le_of_ble_eq_true rfl)) d_M_condition_2 ⟨Nat.le_of_ble_eq_true rfl, Nat.le_of_ble_eq_true rfl⟩)) (fun r_1 h_2 => ?_)
  subst h_2
  rcases mr_fc hR a0 with hf_5 | ⟨i_5, hi_5, hxe_5, a_5, ql_5, qk_5, v0_5, v1_5, v2_5, v4_5, v5_5, v6_5, v7_5, k_5, t_5, ld_5, kd_5, hf_5, hfi_5, m1_5, m2_5, m3_5, e1_5, e2_5, e3_5, hk_5, ht_5, ho_5, hne_5⟩
  · refine mr_topv (show va_rf (mv_M_find n fr a0) = .null by rw [hf_5]; rfl) ?_
    refine lv_astore_nN (lv' := [(3, .null), (0, .ref (r 0)), (1, .int a0), (2, .int a1)]) hx hb d_M_condition_5 rfl hl (by decide) rfl (fun ls hl => ?_)
    refine lv_aload_nN hx hb d_M_condition_6 rfl (lv_at hl 0 rfl) ?_
    refine lv_ifnullN (tgt := 32) hx hb d_M_condition_7 (by decide) ?_
    refine lv_iconst (v := 0) hx hb d_M_condition_32 (by decide) ?_
    have hP9 := hP
    have hD9 := hD
    exact W.zret (v := 0) hx hb hr (mr_narz mr_b0) (fun t ht hW => ⟨⟨_, f, rfl, trivial, hR, by rw [ht]; exact hP9, va_K.moved hW.alike hK, hD9⟩, hS.F ht⟩) hS.2.2 d_M_condition_33
  · refine mr_topv (show va_rf (mv_M_find n fr a0) = .ref a_5 by rw [hf_5]; rfl) ?_
    have hPr_5 := mr_row3 (X := [((r 0), .inr (0, mf_M r (nI n) nw pb lc)), ((r 1), .inr (1, [.ref (r 2), .ref (r 3)])), ((r 2), .inl (cI, 8, .inl fm)), ((r 3), .inl (cI, 8, .inl fi)), ((r 4), .inl (cR, 80, .inr (.inr (.inr (.inr fr))))), ((r 5), .inl (cI, 80, .inl fl)), ((r 6), .inl (cI, 80, .inl fc)), ((r 7), .inl (cI, 8, .inl fg))]) hP m1_5 m2_5 m3_5 e1_5 e2_5 e3_5
    refine lv_astore_n (lv' := [(3, .ref a_5), (0, .ref (r 0)), (1, .int a0), (2, .int a1)]) hx hb d_M_condition_5 rfl hl (by decide) rfl (fun ls hl => ?_)
    refine lv_aload_n hx hb d_M_condition_6 rfl (lv_at hl 0 rfl) ?_
    refine lv_ifnull hx hb d_M_condition_7 ?_
    refine lv_iload_n hx hb d_M_condition_10 rfl (lv_at hl 3 rfl) ?_
    refine lv_if_lt (tgt := 32) hx hb d_M_condition_11 (by decide) (fun c_3 => ?_) (fun c_3 => ?_)
    · refine lv_iconst (v := 0) hx hb d_M_condition_32 (by decide) ?_
      have hP9 := hP
      have hD9 := hD
      exact W.zret (v := 0) hx hb hr (mr_narz mr_b0) (fun t ht hW => ⟨⟨_, f, rfl, trivial, hR, by rw [ht]; exact hP9, va_K.moved hW.alike hK, hD9⟩, hS.F ht⟩) hS.2.2 d_M_condition_33
    · refine lv_iload_n hx hb d_M_condition_14 rfl (lv_at hl 3 rfl) ?_
      refine lv_bipush (v := 16) hx hb d_M_condition_15 (by decide) ?_
      refine lv_icmp_ge (tgt := 32) hx hb d_M_condition_17 (by decide) (fun c_4 => ?_) (fun c_4 => ?_)
      · refine lv_iconst (v := 0) hx hb d_M_condition_32 (by decide) ?_
        have hP9 := hP
        have hD9 := hD
        exact W.zret (v := 0) hx hb hr (mr_narz mr_b0) (fun t ht hW => ⟨⟨_, f, rfl, trivial, hR, by rw [ht]; exact hP9, va_K.moved hW.alike hK, hD9⟩, hS.F ht⟩) hS.2.2 d_M_condition_33
      · refine lv_aload_n hx hb d_M_condition_20 rfl (lv_at hl 0 rfl) ?_
        refine lv_iload_n hx hb d_M_condition_21 rfl (lv_at hl 3 rfl) ?_
        have hPc := hPr_5.sub (ws' := [(a_5, .inr (2, [.int v0_5, .int v1_5, .int v2_5, .int (nI k_5), .int v4_5, .int v5_5, .int v6_5, .int v7_5, .int (nI t_5), .ref ql_5, .ref qk_5]))]) [0] rfl
        have hin9 := mr_in1 (L := L) (e := .inr (2, [.int v0_5, .int v1_5, .int v2_5, .int (nI k_5), .int v4_5, .int v5_5, .int v6_5, .int v7_5, .int (nI t_5), .ref ql_5, .ref qk_5])) m1_5
        have hDc : va_D A [(a_5, .inr (2, [.int v0_5, .int v1_5, .int v2_5, .int (nI k_5), .int v4_5, .int v5_5, .int v6_5, .int v7_5, .int (nI t_5), .ref ql_5, .ref qk_5]))] := mr_D1 (mr_plA (X := [((r 0), .inr (0, mf_M r (nI n) nw pb lc)), ((r 1), .inr (1, [.ref (r 2), .ref (r 3)])), ((r 2), .inl (cI, 8, .inl fm)), ((r 3), .inl (cI, 8, .inl fi)), ((r 4), .inl (cR, 80, .inr (.inr (.inr (.inr fr))))), ((r 5), .inl (cI, 80, .inl fl)), ((r 6), .inl (cI, 80, .inl fc)), ((r 7), .inl (cI, 8, .inl fg))]) hD m1_5)
        have hFc := mr_plfree (X := [((r 0), .inr (0, mf_M r (nI n) nw pb lc)), ((r 1), .inr (1, [.ref (r 2), .ref (r 3)])), ((r 2), .inl (cI, 8, .inl fm)), ((r 3), .inl (cI, 8, .inl fi)), ((r 4), .inl (cR, 80, .inr (.inr (.inr (.inr fr))))), ((r 5), .inl (cI, 80, .inl fl)), ((r 6), .inl (cI, 80, .inl fc)), ((r 7), .inl (cI, 8, .inl fg))]) (wc := [(a_5, .inr (2, [.int v0_5, .int v1_5, .int v2_5, .int (nI k_5), .int v4_5, .int v5_5, .int v6_5, .int v7_5, .int (nI t_5), .ref ql_5, .ref qk_5]))]) hD hS hA hin9
        refine va_calli (va_runV (As := [.int a1]) (rest := []) (C := R_R) ⟨hx, hb, hml, hown, hts⟩ (mc_R_want l s0 dC dI cI cR cL cZ a_5 ql_5 qk_5 v0_5 v1_5 v2_5 (nI k_5) v4_5 v5_5 v6_5 v7_5 (nI t_5) _ a1) ⟨(mr_cB 1 (hts (Cond.code y_R_want b_R_want 2 (some .boolean)) mw_179) (hts (Cond.initialized y_R_want.cls) mw_180) (hts (Cond.methodLink "MeasureRows" 118 y_R_want) mw_181) rfl rfl (by decide +kernel) ⟨Nat.le_of_ble_eq_true rfl, Nat.le_of_ble_eq_true rfl⟩), (hts (Cond.instanceMethod y_R_want) mw_182), (hts (Cond.selects "MeasureRows$Row" y_R_want y_R_want) mw_183)⟩ (mr_preCV hBH hK hPc (hDc.weaken (fun _ _ _ h => hA0 _ h)) (ci := 2) (q0 := 0) rfl rfl) rfl rfl hl.1 rfl (lv_room (Nat.le_of_ble_eq_true rfl)) d_M_condition_22 ⟨Nat.le_of_ble_eq_true rfl, Nat.le_of_ble_eq_true rfl⟩) hS (fun q _ h => hFc q h) hFc (fun r_5 u_6 t9 H1 locs ht9 hvm hw hB1 hz1 hk1 hS => ?_)
        obtain ⟨hP1, hK1, hD1⟩ := hB1
        rw [ht9] at hP1
        have hb9 : mr_b01 r_5 := by rw [hw.1]; exact mv_R_want_b _ _
        obtain ⟨hP, hD⟩ := mr_plset (X := [((r 0), .inr (0, mf_M r (nI n) nw pb lc)), ((r 1), .inr (1, [.ref (r 2), .ref (r 3)])), ((r 2), .inl (cI, 8, .inl fm)), ((r 3), .inl (cI, 8, .inl fi)), ((r 4), .inl (cR, 80, .inr (.inr (.inr (.inr fr))))), ((r 5), .inl (cI, 80, .inl fl)), ((r 6), .inl (cI, 80, .inl fc)), ((r 7), .inl (cI, 8, .inl fg))]) (f' := va_up f a_5 (.inr (2, [.int v0_5, .int v1_5, .int v2_5, .int (nI k_5), .int v4_5, .int v5_5, .int v6_5, .int u_6, .int (nI t_5), .ref ql_5, .ref qk_5]))) hP hD hin9 hk1 (mr_new1 hP1) mr_old1
        have hR := mr_upR (w0 := v0_5) (w1 := v1_5) (w2 := v2_5) (w4 := v4_5) (w5 := v5_5) (w6 := v6_5) (w7 := u_6) hR e1_5 m2_5 m3_5 e2_5 e3_5 hk_5 ht_5 ho_5 hne_5
        clear hK1 hk1 hPc hDc hFc hin9
        generalize va_up f a_5 (.inr (2, [.int v0_5, .int v1_5, .int v2_5, .int (nI k_5), .int v4_5, .int v5_5, .int v6_5, .int u_6, .int (nI t_5), .ref ql_5, .ref qk_5])) = f at hP hD hR
        generalize H1 = H at hP hS ⊢
        have hP : va_P (dC, dI) mr_cl ([((r 0), .inr (0, mf_M r (nI n) nw pb lc)), ((r 1), .inr (1, [.ref (r 2), .ref (r 3)])), ((r 2), .inl (cI, 8, .inl fm)), ((r 3), .inl (cI, 8, .inl fi)), ((r 4), .inl (cR, 80, .inr (.inr (.inr (.inr fr))))), ((r 5), .inl (cI, 80, .inl fl)), ((r 6), .inl (cI, 80, .inl fc)), ((r 7), .inl (cI, 8, .inl fg))] ++ va_pl L f) H := hP
        have hD : va_D A ([((r 0), .inr (0, mf_M r (nI n) nw pb lc)), ((r 1), .inr (1, [.ref (r 2), .ref (r 3)])), ((r 2), .inl (cI, 8, .inl fm)), ((r 3), .inl (cI, 8, .inl fi)), ((r 4), .inl (cR, 80, .inr (.inr (.inr (.inr fr))))), ((r 5), .inl (cI, 80, .inl fl)), ((r 6), .inl (cI, 80, .inl fc)), ((r 7), .inl (cI, 8, .inl fg))] ++ va_pl L f) := hD
        have hBH := hB.at hS hA0
        refine lv_if_eq (tgt := 32) hx hb d_M_condition_25 (by decide) (fun c_7 => ?_) (fun c_7 => ?_)
        · refine lv_iconst (v := 0) hx hb d_M_condition_32 (by decide) ?_
          have hP9 := hP
          have hD9 := hD
          exact W.zret (v := 0) hx hb hr (mr_narz mr_b0) (fun t ht hW => ⟨⟨_, f, rfl, trivial, hR, by rw [ht]; exact hP9, va_K.moved hW.alike hK, hD9⟩, hS.F ht⟩) hS.2.2 d_M_condition_33
        · refine lv_iconst (v := 1) hx hb d_M_condition_28 (by decide) ?_
          refine lv_goto (tgt := 33) hx hb d_M_condition_29 (by decide) ?_
          have hP9 := hP
          have hD9 := hD
          exact W.zret (v := 1) hx hb hr (mr_narz mr_b1) (fun t ht hW => ⟨⟨_, f, rfl, trivial, hR, by rw [ht]; exact hP9, va_K.moved hW.alike hK, hD9⟩, hS.F ht⟩) hS.2.2 d_M_condition_33
end
section
theorem mr_t8 {t : Nat} (h : ¬ 8 ≤ nI t) (h8 : t ≤ 8) : t < 8 := by
  rcases Nat.lt_or_ge t 8 with q | q
  · exact q
  · exact absurd (nI_le (a := 8) q (by omega)) h
theorem mw_184 : Cond.code y_M_isLastDay b_M_isLastDay 1 (some .boolean) ∈ lw_tbl := by decide +kernel
theorem mw_185 : Cond.initialized y_M_isLastDay.cls ∈ lw_tbl := by decide +kernel
theorem mw_186 : Cond.methodLink "MeasureRows" 86 y_M_isLastDay ∈ lw_tbl := by decide +kernel
theorem mw_187 : Cond.static y_M_isLastDay ∈ lw_tbl := by decide +kernel
theorem mw_188 : Cond.code y_R_tell b_R_tell 3 none ∈ lw_tbl := by decide +kernel
theorem mw_189 : Cond.initialized y_R_tell.cls ∈ lw_tbl := by decide +kernel
theorem mw_190 : Cond.methodLink "MeasureRows" 131 y_R_tell ∈ lw_tbl := by decide +kernel
theorem mw_191 : Cond.instanceMethod y_R_tell ∈ lw_tbl := by decide +kernel
theorem mw_192 : Cond.selects "MeasureRows$Row" y_R_tell y_R_tell ∈ lw_tbl := by decide +kernel
theorem mw_193 : Cond.methodLink "MeasureRows" 105 Lib.Math.max.name ∈ lw_tbl := by decide +kernel
theorem mw_194 : Cond.static Lib.Math.max.name ∈ lw_tbl := by decide +kernel
theorem mw_195 : Cond.initialized "java/lang/Math" ∈ lw_tbl := by decide +kernel
theorem mw_196 : Cond.code Lib.Math.max.name Lib.Math.max.code 2 (some .int) ∈ lw_tbl := by decide +kernel
theorem mw_197 : Cond.stringRef "MeasureRows" 126 "no room for another last day" ∈ lw_tbl := by decide +kernel
theorem mw_198 : Cond.classLink "MeasureRows" 93 mr_ise ∈ lw_tbl := by decide +kernel
theorem mw_199 : Cond.initialized mr_ise ∈ lw_tbl := by decide +kernel
set_option maxHeartbeats 4000000 in
set_option maxRecDepth 100000 in
theorem mc_R_tell (l : Launch) (s0 : State) (dC : Nat → ClassId) (dI : Nat → Nat → Nat) (cI cR cL cZ : ClassId) (q ql qk : Nat) (vc vp vf vk vr vn ve vw : Int32) (tn : Nat) (ld kd : Nat → Int32) (sz : Nat) (a0 : Int32) (a1 : Int32) (hto : tn ≤ 8) (ho : 1 ≤ tn) : Met l y_R_tell [Cond.code y_R_tell b_R_tell 3 none] ({ frames := 0, cells := 0, slots := 0, locals := 0 }) (mr_PC s0 (dC, dI) [(cI, .int), (cR, .object "MeasureRows$Row"), (cL, .long), (cZ, .boolean)] [.ref q, .int a0, .int a1] [(q, .inr (2, [.int vc, .int vp, .int vf, .int vk, .int vr, .int vn, .int ve, .int vw, .int (nI tn), .ref ql, .ref qk])), (ql, .inl (cI, 8, .inl ld)), (qk, .inl (cI, 8, .inl kd))] sz) (va_Qv (fun u => u.1 ≤ 8 ∧ 1 ≤ u.1) (fun (u : Nat × (Nat → Int32) × (Nat → Int32)) t => mr_W (dC, dI) [(cI, .int), (cR, .object "MeasureRows$Row"), (cL, .long), (cZ, .boolean)] (va_A [(q, .inr (2, [.int vc, .int vp, .int vf, .int vk, .int vr, .int vn, .int ve, .int vw, .int (nI tn), .ref ql, .ref qk])), (ql, .inl (cI, 8, .inl ld)), (qk, .inl (cI, 8, .inl kd))] sz) [(q, .inr (2, [.int vc, .int vp, .int vf, .int vk, .int vr, .int vn, .int ve, .int vw, .int (nI u.1), .ref ql, .ref qk])), (ql, .inl (cI, 8, .inl u.2.1)), (qk, .inl (cI, 8, .inl u.2.2))] t) (va_A [(q, .inr (2, [.int vc, .int vp, .int vf, .int vk, .int vr, .int vn, .int ve, .int vw, .int (nI tn), .ref ql, .ref qk])), (ql, .inl (cI, 8, .inl ld)), (qk, .inl (cI, 8, .inl kd))] sz)) 0 0 (va_A [(q, .inr (2, [.int vc, .int vp, .int vf, .int vk, .int vr, .int vn, .int ve, .int vw, .int (nI tn), .ref ql, .ref qk])), (ql, .inl (cI, 8, .inl ld)), (qk, .inl (cI, 8, .inl kd))] sz) := by
  refine Met.ofW (cc := b_R_tell) (maxL := 3) (ret := none) (by decide) rfl ?_
  intro p e s m args below meth c s₁ B hml hv
  obtain ⟨rfl, hsz, hB, hK, hP, hD0⟩ := hv
  subst hsz
  have hA0 := mr_A hB hD0
  have hD := hD0.self (sz := s.heap.size)
  generalize hAe : va_A [(q, .inr (2, [.int vc, .int vp, .int vf, .int vk, .int vr, .int vn, .int ve, .int vw, .int (nI tn), .ref ql, .ref qk])), (ql, .inl (cI, 8, .inl ld)), (qk, .inl (cI, 8, .inl kd))] s.heap.size = A at hD hA0 ⊢
  have hA : ∀ q : Nat, s.heap.size ≤ q → A q := fun q h => by rw [← hAe]; exact Or.inr h
  have hS : va_S A s.heap s.heap [] := va_S.rf
  have hP : va_P (dC, dI) mr_cl [(q, .inr (2, [.int vc, .int vp, .int vf, .int vk, .int vr, .int vn, .int ve, .int vw, .int (nI tn), .ref ql, .ref qk])), (ql, .inl (cI, 8, .inl ld)), (qk, .inl (cI, 8, .inl kd))] s.heap := hP
  have hBH := hB.at hS hA0
  have hx := B.exec
  have hb := B.bytes
  have hr := B.returns
  have hlocks := B.notSynchronized
  have hts : ∀ w ∈ lw_tbl, w.before [.ref q, .int a0, .int a1].toArray s = true := hB.hts _
  have hown : s.vm.findClass "MeasureRows$Row" = some m.cls := findClass_of_methodNamed B.named
  have hl := lv_entry ([.ref q, .int a0, .int a1]) (n := 3) (Nat.le_of_ble_eq_true rfl)
  rw [lg_entry_eq]
  generalize (lg_sl ([.ref q, .int a0, .int a1]) ++ List.replicate (3 - (lg_sl ([.ref q, .int a0, .int a1])).length) Slot.unset).toArray = ls at hl ⊢
  have hl : lv_has ls 3 [(0, .ref q), (1, .int a0), (2, .int a1)] := hl
  refine lv_aload_n hx hb d_R_tell_0 rfl (lv_at hl 0 rfl) ?_
  refine va_get (D := (dC, dI)) (ci := 2) (v := .int (nI tn)) (C := R_R) (T := T_R) (N := 11) hx hb hts ti_R hown hK hP 0 rfl rfl 8 (by decide) (hts (Cond.fieldLink "MeasureRows$Row" 43 "MeasureRows$Row" "told" "I") mw_75) (fun _ h9 => h9) rfl d_R_tell_1 ?_
  refine lv_bipush (v := 8) hx hb d_R_tell_4 (by decide) ?_
  refine lv_icmp_ge (tgt := 39) hx hb d_R_tell_6 (by decide) (fun c_1 => ?_) (fun c_1 => ?_)
  · have hP9 := hP.sub (ws' := [(q, .inr (2, [.int vc, .int vp, .int vf, .int vk, .int vr, .int vn, .int ve, .int vw, .int (nI tn), .ref ql, .ref qk])), (ql, .inl (cI, 8, .inl ld)), (qk, .inl (cI, 8, .inl kd))]) [0, 1, 2] rfl
    have hD9 := hD.sub (ws' := [(q, .inr (2, [.int vc, .int vp, .int vf, .int vk, .int vr, .int vn, .int ve, .int vw, .int (nI tn), .ref ql, .ref qk])), (ql, .inl (cI, 8, .inl ld)), (qk, .inl (cI, 8, .inl kd))]) [0, 1, 2] (by decide) rfl
    exact W.vret hx hb hr (fun t ht hW => ⟨⟨(tn, ld, kd), rfl, ⟨hto, ho⟩, by rw [ht]; exact hP9, va_K.moved hW.alike hK, hD9⟩, hS.F ht⟩) hS.2.2 d_R_tell_39
  · refine lv_aload_n hx hb d_R_tell_9 rfl (lv_at hl 0 rfl) ?_
    refine va_get (D := (dC, dI)) (ci := 2) (v := .ref ql) (C := R_R) (T := T_R) (N := 11) hx hb hts ti_R hown hK hP 0 rfl rfl 9 (by decide) (hts (Cond.fieldLink "MeasureRows$Row" 36 "MeasureRows$Row" "lastDays" "[I") mw_73) (fun _ h9 => h9) rfl d_R_tell_10 ?_
    refine lv_aload_n hx hb d_R_tell_13 rfl (lv_at hl 0 rfl) ?_
    refine va_get (D := (dC, dI)) (ci := 2) (v := .int (nI tn)) (C := R_R) (T := T_R) (N := 11) hx hb hts ti_R hown hK hP 0 rfl rfl 8 (by decide) (hts (Cond.fieldLink "MeasureRows$Row" 43 "MeasureRows$Row" "told" "I") mw_75) (fun _ h9 => h9) rfl d_R_tell_14 ?_
    refine lv_iload_n hx hb d_R_tell_17 rfl (lv_at hl 1 rfl) ?_
    refine va_iast (D := (dC, dI)) hx hb hK hP hD hS 1 0 rfl rfl (i := (nI tn)) (nI_in (mr_t8 c_1 hto) (by decide)) d_R_tell_18 (fun H locs hP hD hS => ?_)
    have hP : va_P (dC, dI) mr_cl [(q, .inr (2, [.int vc, .int vp, .int vf, .int vk, .int vr, .int vn, .int ve, .int vw, .int (nI tn), .ref ql, .ref qk])), (ql, .inl (cI, 8, .inl (upd ld (nI tn).toNatClampNeg a0))), (qk, .inl (cI, 8, .inl kd))] H := hP
    have hD : va_D A [(q, .inr (2, [.int vc, .int vp, .int vf, .int vk, .int vr, .int vn, .int ve, .int vw, .int (nI tn), .ref ql, .ref qk])), (ql, .inl (cI, 8, .inl (upd ld (nI tn).toNatClampNeg a0))), (qk, .inl (cI, 8, .inl kd))] := hD
    have hBH := hB.at hS hA0
    refine lv_aload_n hx hb d_R_tell_19 rfl (lv_at hl 0 rfl) ?_
    refine va_get (D := (dC, dI)) (ci := 2) (v := .ref qk) (C := R_R) (T := T_R) (N := 11) hx hb hts ti_R hown hK hP 0 rfl rfl 10 (by decide) (hts (Cond.fieldLink "MeasureRows$Row" 40 "MeasureRows$Row" "knownDays" "[I") mw_74) (fun _ h9 => h9) rfl d_R_tell_20 ?_
    refine lv_aload_n hx hb d_R_tell_23 rfl (lv_at hl 0 rfl) ?_
    refine va_get (D := (dC, dI)) (ci := 2) (v := .int (nI tn)) (C := R_R) (T := T_R) (N := 11) hx hb hts ti_R hown hK hP 0 rfl rfl 8 (by decide) (hts (Cond.fieldLink "MeasureRows$Row" 43 "MeasureRows$Row" "told" "I") mw_75) (fun _ h9 => h9) rfl d_R_tell_24 ?_
    refine lv_iload_n hx hb d_R_tell_27 rfl (lv_at hl 2 rfl) ?_
    refine va_iast (D := (dC, dI)) hx hb hK hP hD hS 2 0 rfl rfl (i := (nI tn)) (nI_in (mr_t8 c_1 hto) (by decide)) d_R_tell_28 (fun H locs hP hD hS => ?_)
    have hP : va_P (dC, dI) mr_cl [(q, .inr (2, [.int vc, .int vp, .int vf, .int vk, .int vr, .int vn, .int ve, .int vw, .int (nI tn), .ref ql, .ref qk])), (ql, .inl (cI, 8, .inl (upd ld (nI tn).toNatClampNeg a0))), (qk, .inl (cI, 8, .inl (upd kd (nI tn).toNatClampNeg a1)))] H := hP
    have hD : va_D A [(q, .inr (2, [.int vc, .int vp, .int vf, .int vk, .int vr, .int vn, .int ve, .int vw, .int (nI tn), .ref ql, .ref qk])), (ql, .inl (cI, 8, .inl (upd ld (nI tn).toNatClampNeg a0))), (qk, .inl (cI, 8, .inl (upd kd (nI tn).toNatClampNeg a1)))] := hD
    have hBH := hB.at hS hA0
    refine lv_aload_n hx hb d_R_tell_29 rfl (lv_at hl 0 rfl) ?_
    refine lv_dup hx hb d_R_tell_30 rfl ?_
    refine va_get (D := (dC, dI)) (ci := 2) (v := .int (nI tn)) (C := R_R) (T := T_R) (N := 11) hx hb hts ti_R hown hK hP 0 rfl rfl 8 (by decide) (hts (Cond.fieldLink "MeasureRows$Row" 43 "MeasureRows$Row" "told" "I") mw_75) (fun _ h9 => h9) rfl d_R_tell_31 ?_
    refine lv_iconst (v := 1) hx hb d_R_tell_34 (by decide) ?_
    refine lv_iadd hx hb d_R_tell_35 ?_
    refine mr_top (nI_1 tn) ?_
    refine va_put (D := (dC, dI)) (ci := 2) (v := .int (nI (tn + 1))) (ty := .int) (C := R_R) (T := T_R) (N := 11) hx hb hts ti_R t_R to_R tn_R hown hK hP hD hS 0 rfl rfl 8 (by decide) (hts (Cond.fieldLink "MeasureRows$Row" 43 "MeasureRows$Row" "told" "I") mw_75) (fun _ h9 => h9) rfl (by decide +kernel) rfl rfl (Nat.le_of_ble_eq_true rfl) d_R_tell_36 (fun H locs hP hD hS => ?_)
    have hP : va_P (dC, dI) mr_cl [(q, .inr (2, [.int vc, .int vp, .int vf, .int vk, .int vr, .int vn, .int ve, .int vw, .int (nI (tn + 1)), .ref ql, .ref qk])), (ql, .inl (cI, 8, .inl (upd ld (nI tn).toNatClampNeg a0))), (qk, .inl (cI, 8, .inl (upd kd (nI tn).toNatClampNeg a1)))] H := hP
    have hD : va_D A [(q, .inr (2, [.int vc, .int vp, .int vf, .int vk, .int vr, .int vn, .int ve, .int vw, .int (nI (tn + 1)), .ref ql, .ref qk])), (ql, .inl (cI, 8, .inl (upd ld (nI tn).toNatClampNeg a0))), (qk, .inl (cI, 8, .inl (upd kd (nI tn).toNatClampNeg a1)))] := hD
    have hBH := hB.at hS hA0
    have hP9 := hP.sub (ws' := [(q, .inr (2, [.int vc, .int vp, .int vf, .int vk, .int vr, .int vn, .int ve, .int vw, .int (nI (tn + 1)), .ref ql, .ref qk])), (ql, .inl (cI, 8, .inl (upd ld (nI tn).toNatClampNeg a0))), (qk, .inl (cI, 8, .inl (upd kd (nI tn).toNatClampNeg a1)))]) [0, 1, 2] rfl
    have hD9 := hD.sub (ws' := [(q, .inr (2, [.int vc, .int vp, .int vf, .int vk, .int vr, .int vn, .int ve, .int vw, .int (nI (tn + 1)), .ref ql, .ref qk])), (ql, .inl (cI, 8, .inl (upd ld (nI tn).toNatClampNeg a0))), (qk, .inl (cI, 8, .inl (upd kd (nI tn).toNatClampNeg a1)))]) [0, 1, 2] (by decide) rfl
    exact W.vret hx hb hr (fun t ht hW => ⟨⟨((tn + 1), (upd ld (nI tn).toNatClampNeg a0), (upd kd (nI tn).toNatClampNeg a1)), rfl, ⟨mr_t8 c_1 hto, by show 1 ≤ tn + 1; omega⟩, by rw [ht]; exact hP9, va_K.moved hW.alike hK, hD9⟩, hS.F ht⟩) hS.2.2 d_R_tell_39
set_option maxHeartbeats 4000000 in
set_option maxRecDepth 100000 in
theorem mc_M_end (l : Launch) (hlt : l.stackTraces = false) (s0 : State) (dC : Nat → ClassId) (dI : Nat → Nat → Nat) (cI cR cL cZ : ClassId) (r : Nat → Nat) (n : Nat) (nw pb lc : Int32) (fm fi : Nat → Int32) (fr : Nat → Option Nat) (fl fc fg : Nat → Int32) (L : List Nat) (f : Nat → va_E) (sz : Nat) (a0 : Int32) (a1 : Int32) (a2 : Int32) (hR : mr_RI cI n L f fr) : mr_Met l y_M_end [Cond.code y_M_end b_M_end 5 (some .int)] ({ frames := 6, cells := 1, slots := 6, locals := 92 }) (mr_PC s0 (dC, dI) [(cI, .int), (cR, .object "MeasureRows$Row"), (cL, .long), (cZ, .boolean)] [.ref (r 0), .int a0, .int a1, .int a2] ([((r 0), .inr (0, mf_M r (nI n) nw pb lc)), ((r 1), .inr (1, [.ref (r 2), .ref (r 3)])), ((r 2), .inl (cI, 8, .inl fm)), ((r 3), .inl (cI, 8, .inl fi)), ((r 4), .inl (cR, 80, .inr (.inr (.inr (.inr fr))))), ((r 5), .inl (cI, 80, .inl fl)), ((r 6), .inl (cI, 80, .inl fc)), ((r 7), .inl (cI, 8, .inl fg))] ++ va_pl L f) sz) (va_Qi (fun _ _ => True) (fun (u : Int32 × (Nat → va_E)) t => mr_RI cI n L u.2 fr ∧ mr_W (dC, dI) [(cI, .int), (cR, .object "MeasureRows$Row"), (cL, .long), (cZ, .boolean)] (va_A ([((r 0), .inr (0, mf_M r (nI n) nw pb lc)), ((r 1), .inr (1, [.ref (r 2), .ref (r 3)])), ((r 2), .inl (cI, 8, .inl fm)), ((r 3), .inl (cI, 8, .inl fi)), ((r 4), .inl (cR, 80, .inr (.inr (.inr (.inr fr))))), ((r 5), .inl (cI, 80, .inl fl)), ((r 6), .inl (cI, 80, .inl fc)), ((r 7), .inl (cI, 8, .inl fg))] ++ va_pl L f) sz) ([((r 0), .inr (0, mf_M r (nI n) u.1 pb lc)), ((r 1), .inr (1, [.ref (r 2), .ref (r 3)])), ((r 2), .inl (cI, 8, .inl fm)), ((r 3), .inl (cI, 8, .inl fi)), ((r 4), .inl (cR, 80, .inr (.inr (.inr (.inr fr))))), ((r 5), .inl (cI, 80, .inl fl)), ((r 6), .inl (cI, 80, .inl fc)), ((r 7), .inl (cI, 8, .inl fg))] ++ va_pl L u.2) t) (va_A ([((r 0), .inr (0, mf_M r (nI n) nw pb lc)), ((r 1), .inr (1, [.ref (r 2), .ref (r 3)])), ((r 2), .inl (cI, 8, .inl fm)), ((r 3), .inl (cI, 8, .inl fi)), ((r 4), .inl (cR, 80, .inr (.inr (.inr (.inr fr))))), ((r 5), .inl (cI, 80, .inl fl)), ((r 6), .inl (cI, 80, .inl fc)), ((r 7), .inl (cI, 8, .inl fg))] ++ va_pl L f) sz)) (fun E => E = mr_iob ∨ E = mr_iae ∨ E = mr_ise) 1 6 (va_A ([((r 0), .inr (0, mf_M r (nI n) nw pb lc)), ((r 1), .inr (1, [.ref (r 2), .ref (r 3)])), ((r 2), .inl (cI, 8, .inl fm)), ((r 3), .inl (cI, 8, .inl fi)), ((r 4), .inl (cR, 80, .inr (.inr (.inr (.inr fr))))), ((r 5), .inl (cI, 80, .inl fl)), ((r 6), .inl (cI, 80, .inl fc)), ((r 7), .inl (cI, 8, .inl fg))] ++ va_pl L f) sz) := by
  refine mr_of (cc := b_M_end) (maxL := 5) (ret := (some .int)) (by decide) rfl ?_
  intro p e s m args below meth c s₁ B hml hno hv
  obtain ⟨rfl, hsz, hB, hK, hP, hD0⟩ := hv
  subst hsz
  have hA0 := mr_A hB hD0
  have hD := hD0.self (sz := s.heap.size)
  generalize hAe : va_A ([((r 0), .inr (0, mf_M r (nI n) nw pb lc)), ((r 1), .inr (1, [.ref (r 2), .ref (r 3)])), ((r 2), .inl (cI, 8, .inl fm)), ((r 3), .inl (cI, 8, .inl fi)), ((r 4), .inl (cR, 80, .inr (.inr (.inr (.inr fr))))), ((r 5), .inl (cI, 80, .inl fl)), ((r 6), .inl (cI, 80, .inl fc)), ((r 7), .inl (cI, 8, .inl fg))] ++ va_pl L f) s.heap.size = A at hD hA0 ⊢
  have hA : ∀ q : Nat, s.heap.size ≤ q → A q := fun q h => by rw [← hAe]; exact Or.inr h
  have hS : va_S A s.heap s.heap [] := va_S.rf
  have hP : va_P (dC, dI) mr_cl ([((r 0), .inr (0, mf_M r (nI n) nw pb lc)), ((r 1), .inr (1, [.ref (r 2), .ref (r 3)])), ((r 2), .inl (cI, 8, .inl fm)), ((r 3), .inl (cI, 8, .inl fi)), ((r 4), .inl (cR, 80, .inr (.inr (.inr (.inr fr))))), ((r 5), .inl (cI, 80, .inl fl)), ((r 6), .inl (cI, 80, .inl fc)), ((r 7), .inl (cI, 8, .inl fg))] ++ va_pl L f) s.heap := hP
  have hBH := hB.at hS hA0
  have hx := B.exec
  have hb := B.bytes
  have hr := B.returns
  have hlocks := B.notSynchronized
  have hts : ∀ w ∈ lw_tbl, w.before [.ref (r 0), .int a0, .int a1, .int a2].toArray s = true := hB.hts _
  have hown : s.vm.findClass "MeasureRows" = some m.cls := findClass_of_methodNamed B.named
  have hl := lv_entry ([.ref (r 0), .int a0, .int a1, .int a2]) (n := 5) (Nat.le_of_ble_eq_true rfl)
  rw [lg_entry_eq]
  generalize (lg_sl ([.ref (r 0), .int a0, .int a1, .int a2]) ++ List.replicate (5 - (lg_sl ([.ref (r 0), .int a0, .int a1, .int a2])).length) Slot.unset).toArray = ls at hl ⊢
  have hl : lv_has ls 5 [(0, .ref (r 0)), (1, .int a0), (2, .int a1), (3, .int a2)] := hl
  refine lv_aload_n hx hb d_M_end_0 rfl (lv_at hl 0 rfl) ?_
  refine lv_iload_n hx hb d_M_end_1 rfl (lv_at hl 1 rfl) ?_
  refine va_csq (va_Run.run (va_runV (As := [.int a0]) (rest := []) (C := R_M) ⟨hx, hb, hml, hown, hts⟩ (mc_M_find l s0 dC dI cI cR cL cZ r n nw pb lc fr a0 hR.1) ⟨(mr_cB 1 (hts (Cond.code y_M_find b_M_find 2 (some (.object "MeasureRows$Row"))) mw_117) (hts (Cond.initialized y_M_find.cls) mw_118) (hts (Cond.methodLink "MeasureRows" 111 y_M_find) mw_119) rfl rfl (by decide +kernel) ⟨Nat.le_of_ble_eq_true rfl, Nat.le_of_ble_eq_true rfl⟩), (hts (Cond.instanceMethod y_M_find) mw_120), (hts (Cond.selects "MeasureRows" y_M_find y_M_find) mw_121)⟩ (mr_preV hBH hK (hP.sub (ws' := [((r 0), .inr (0, mf_M r (nI n) nw pb lc)), ((r 4), .inl (cR, 80, .inr (.inr (.inr (.inr fr)))))]) [0, 4] rfl) (ci := 0) (q0 := 0) rfl rfl) rfl rfl hl.1 rfl (lv_room (Nat.le_of_ble_eq_true rfl)) d_M_end_2 ⟨Nat.le_of_ble_eq_true rfl, Nat.le_of_ble_eq_true rfl⟩)) (fun r_1 h_2 => ?_)
  subst h_2
  rcases mr_fc hR a0 with hf_6 | ⟨i_6, hi_6, hxe_6, a_6, ql_6, qk_6, v0_6, v1_6, v2_6, v4_6, v5_6, v6_6, v7_6, k_6, t_6, ld_6, kd_6, hf_6, hfi_6, m1_6, m2_6, m3_6, e1_6, e2_6, e3_6, hk_6, ht_6, ho_6, hne_6⟩
  · refine mr_topv (show va_rf (mv_M_find n fr a0) = .null by rw [hf_6]; rfl) ?_
    refine lv_astoreN (lv' := [(4, .null), (0, .ref (r 0)), (1, .int a0), (2, .int a1), (3, .int a2)]) hx hb d_M_end_5 hl (by decide) rfl (fun ls hl => ?_)
    refine lv_aloadN hx hb d_M_end_7 (lv_at hl 0 rfl) ?_
    refine lv_ifnonnullN hx hb d_M_end_9 ?_
    obtain ⟨sa, hstr⟩ := mr_str (hts (Cond.stringRef "MeasureRows" 121 "no such row") mw_146) hown
    exact mr_throw (names := mr_up) hx hb hlt hown (by decide +kernel) (by decide +kernel) (hts (Cond.classLink "MeasureRows" 56 mr_iob) mw_129) (hts (Cond.initialized mr_iob) mw_130) hstr (hB.own _ mr_a_iob) (hl.1.trans hml.symm) d_M_end_12 d_M_end_15 d_M_end_16 d_M_end_18 d_M_end_21 hno (Nat.le_of_ble_eq_true rfl) (Nat.le_of_ble_eq_true rfl) (Nat.le_of_ble_eq_true rfl) (Nat.le_of_ble_eq_true rfl) hlocks (Or.inl rfl) (Nat.le_of_ble_eq_true rfl) (Nat.le_of_ble_eq_true rfl)
  · refine mr_topv (show va_rf (mv_M_find n fr a0) = .ref a_6 by rw [hf_6]; rfl) ?_
    have hPr_6 := mr_row3 (X := [((r 0), .inr (0, mf_M r (nI n) nw pb lc)), ((r 1), .inr (1, [.ref (r 2), .ref (r 3)])), ((r 2), .inl (cI, 8, .inl fm)), ((r 3), .inl (cI, 8, .inl fi)), ((r 4), .inl (cR, 80, .inr (.inr (.inr (.inr fr))))), ((r 5), .inl (cI, 80, .inl fl)), ((r 6), .inl (cI, 80, .inl fc)), ((r 7), .inl (cI, 8, .inl fg))]) hP m1_6 m2_6 m3_6 e1_6 e2_6 e3_6
    refine lv_astore (lv' := [(4, .ref a_6), (0, .ref (r 0)), (1, .int a0), (2, .int a1), (3, .int a2)]) hx hb d_M_end_5 hl (by decide) rfl (fun ls hl => ?_)
    refine lv_aload hx hb d_M_end_7 (lv_at hl 0 rfl) ?_
    refine lv_ifnonnull (tgt := 22) hx hb d_M_end_9 (by decide) ?_
    refine lv_iload_n hx hb d_M_end_22 rfl (lv_at hl 3 rfl) ?_
    refine vp_callSi (va_Run.run (va_runS (As := [.int a1]) (rest := []) ⟨hx, hb, hml, hown, hts⟩ (mc_M_isLastDay l s0 a1) ⟨(mr_cB 1 (hts (Cond.code y_M_isLastDay b_M_isLastDay 1 (some .boolean)) mw_184) (hts (Cond.initialized y_M_isLastDay.cls) mw_185) (hts (Cond.methodLink "MeasureRows" 86 y_M_isLastDay) mw_186) rfl rfl (by decide +kernel) ⟨Nat.le_of_ble_eq_true rfl, Nat.le_of_ble_eq_true rfl⟩), (hts (Cond.static y_M_isLastDay) mw_187)⟩ (mr_pre0 hBH) rfl rfl hl.1 rfl (lv_room (Nat.le_of_ble_eq_true rfl)) d_M_end_23 ⟨Nat.le_of_ble_eq_true rfl, Nat.le_of_ble_eq_true rfl⟩)) (fun r_3 h_4 => ?_)
    subst h_4
    refine lv_if_eq (tgt := 36) hx hb d_M_end_26 (by decide) (fun c_5 => ?_) (fun c_5 => ?_)
    · obtain ⟨sa, hstr⟩ := mr_str (hts (Cond.stringRef "MeasureRows" 89 "no such days") mw_138) hown
      exact mr_throw (names := mr_up) hx hb hlt hown (by decide +kernel) (by decide +kernel) (hts (Cond.classLink "MeasureRows" 78 mr_iae) mw_139) (hts (Cond.initialized mr_iae) mw_140) hstr (hB.own _ mr_a_iae) (hl.1.trans hml.symm) d_M_end_36 d_M_end_39 d_M_end_40 d_M_end_42 d_M_end_45 hno (Nat.le_of_ble_eq_true rfl) (Nat.le_of_ble_eq_true rfl) (Nat.le_of_ble_eq_true rfl) (Nat.le_of_ble_eq_true rfl) hlocks (Or.inr (Or.inl rfl)) (Nat.le_of_ble_eq_true rfl) (Nat.le_of_ble_eq_true rfl)
    · refine lv_iload_n hx hb d_M_end_29 rfl (lv_at hl 4 rfl) ?_
      refine vp_callSi (va_Run.run (va_runS (As := [.int a2]) (rest := []) ⟨hx, hb, hml, hown, hts⟩ (mc_M_isDay l s0 a2) ⟨(mr_cB 1 (hts (Cond.code y_M_isDay b_M_isDay 1 (some .boolean)) mw_9) (hts (Cond.initialized y_M_isDay.cls) mw_10) (hts (Cond.methodLink "MeasureRows" 83 y_M_isDay) mw_11) rfl rfl (by decide +kernel) ⟨Nat.le_of_ble_eq_true rfl, Nat.le_of_ble_eq_true rfl⟩), (hts (Cond.static y_M_isDay) mw_12)⟩ (mr_pre0 hBH) rfl rfl hl.1 rfl (lv_room (Nat.le_of_ble_eq_true rfl)) d_M_end_30 ⟨Nat.le_of_ble_eq_true rfl, Nat.le_of_ble_eq_true rfl⟩)) (fun r_6 h_7 => ?_)
      subst h_7
      refine lv_if_ne (tgt := 46) hx hb d_M_end_33 (by decide) (fun c_8 => ?_) (fun c_8 => ?_)
      · refine lv_aload hx hb d_M_end_46 (lv_at hl 0 rfl) ?_
        refine va_get (D := (dC, dI)) (ci := 2) (v := .int (nI t_6)) (C := R_R) (T := T_R) (N := 11) hx hb hts ti_R hown hK hPr_6 0 rfl rfl 8 (by decide) (hts (Cond.fieldLink "MeasureRows" 123 "MeasureRows$Row" "told" "I") mw_154) (fun _ h9 => h9) rfl d_M_end_48 ?_
        refine lv_bipush (v := 8) hx hb d_M_end_51 (by decide) ?_
        refine lv_icmp_lt (tgt := 66) hx hb d_M_end_53 (by decide) (fun c_9 => ?_) (fun c_9 => ?_)
        · refine lv_iload_n hx hb d_M_end_66 rfl (lv_at hl 3 rfl) ?_
          refine lv_aload hx hb d_M_end_67 (lv_at hl 0 rfl) ?_
          refine va_get (D := (dC, dI)) (ci := 2) (v := .int v2_6) (C := R_R) (T := T_R) (N := 11) hx hb hts ti_R hown hK hPr_6 0 rfl rfl 2 (by decide) (hts (Cond.fieldLink "MeasureRows" 128 "MeasureRows$Row" "first" "I") mw_149) (fun _ h9 => h9) rfl d_M_end_69 ?_
          refine lv_icmp_ge (tgt := 77) hx hb d_M_end_72 (by decide) (fun c_10 => ?_) (fun c_10 => ?_)
          · refine lv_aload hx hb d_M_end_77 (lv_at hl 0 rfl) ?_
            refine lv_iload_n hx hb d_M_end_79 rfl (lv_at hl 3 rfl) ?_
            refine lv_iload_n hx hb d_M_end_80 rfl (lv_at hl 4 rfl) ?_
            have hPc := hPr_6.sub (ws' := [(a_6, .inr (2, [.int v0_6, .int v1_6, .int v2_6, .int (nI k_6), .int v4_6, .int v5_6, .int v6_6, .int v7_6, .int (nI t_6), .ref ql_6, .ref qk_6])), (ql_6, .inl (cI, 8, .inl ld_6)), (qk_6, .inl (cI, 8, .inl kd_6))]) [0, 1, 2] rfl
            have hin9 := mr_in3 (L := L) (e1 := .inr (2, [.int v0_6, .int v1_6, .int v2_6, .int (nI k_6), .int v4_6, .int v5_6, .int v6_6, .int v7_6, .int (nI t_6), .ref ql_6, .ref qk_6])) (e2 := .inl (cI, 8, .inl ld_6)) (e3 := .inl (cI, 8, .inl kd_6)) m1_6 m2_6 m3_6
            have hDc : va_D A [(a_6, .inr (2, [.int v0_6, .int v1_6, .int v2_6, .int (nI k_6), .int v4_6, .int v5_6, .int v6_6, .int v7_6, .int (nI t_6), .ref ql_6, .ref qk_6])), (ql_6, .inl (cI, 8, .inl ld_6)), (qk_6, .inl (cI, 8, .inl kd_6))] := mr_D3 (mr_plA (X := [((r 0), .inr (0, mf_M r (nI n) nw pb lc)), ((r 1), .inr (1, [.ref (r 2), .ref (r 3)])), ((r 2), .inl (cI, 8, .inl fm)), ((r 3), .inl (cI, 8, .inl fi)), ((r 4), .inl (cR, 80, .inr (.inr (.inr (.inr fr))))), ((r 5), .inl (cI, 80, .inl fl)), ((r 6), .inl (cI, 80, .inl fc)), ((r 7), .inl (cI, 8, .inl fg))]) hD m1_6) (mr_plA (X := [((r 0), .inr (0, mf_M r (nI n) nw pb lc)), ((r 1), .inr (1, [.ref (r 2), .ref (r 3)])), ((r 2), .inl (cI, 8, .inl fm)), ((r 3), .inl (cI, 8, .inl fi)), ((r 4), .inl (cR, 80, .inr (.inr (.inr (.inr fr))))), ((r 5), .inl (cI, 80, .inl fl)), ((r 6), .inl (cI, 80, .inl fc)), ((r 7), .inl (cI, 8, .inl fg))]) hD m2_6) (mr_plA (X := [((r 0), .inr (0, mf_M r (nI n) nw pb lc)), ((r 1), .inr (1, [.ref (r 2), .ref (r 3)])), ((r 2), .inl (cI, 8, .inl fm)), ((r 3), .inl (cI, 8, .inl fi)), ((r 4), .inl (cR, 80, .inr (.inr (.inr (.inr fr))))), ((r 5), .inl (cI, 80, .inl fl)), ((r 6), .inl (cI, 80, .inl fc)), ((r 7), .inl (cI, 8, .inl fg))]) hD m3_6) (mr_ne3 e1_6 e2_6 e3_6 hne_6)
            have hFc := mr_plfree (X := [((r 0), .inr (0, mf_M r (nI n) nw pb lc)), ((r 1), .inr (1, [.ref (r 2), .ref (r 3)])), ((r 2), .inl (cI, 8, .inl fm)), ((r 3), .inl (cI, 8, .inl fi)), ((r 4), .inl (cR, 80, .inr (.inr (.inr (.inr fr))))), ((r 5), .inl (cI, 80, .inl fl)), ((r 6), .inl (cI, 80, .inl fc)), ((r 7), .inl (cI, 8, .inl fg))]) (wc := [(a_6, .inr (2, [.int v0_6, .int v1_6, .int v2_6, .int (nI k_6), .int v4_6, .int v5_6, .int v6_6, .int v7_6, .int (nI t_6), .ref ql_6, .ref qk_6])), (ql_6, .inl (cI, 8, .inl ld_6)), (qk_6, .inl (cI, 8, .inl kd_6))]) hD hS hA hin9
            refine va_callv (va_runV (As := [.int a1, .int a2]) (rest := []) (C := R_R) ⟨hx, hb, hml, hown, hts⟩ (mc_R_tell l s0 dC dI cI cR cL cZ a_6 ql_6 qk_6 v0_6 v1_6 v2_6 (nI k_6) v4_6 v5_6 v6_6 v7_6 t_6 ld_6 kd_6 _ a1 a2 ht_6 ho_6) ⟨(mr_cB 2 (hts (Cond.code y_R_tell b_R_tell 3 none) mw_188) (hts (Cond.initialized y_R_tell.cls) mw_189) (hts (Cond.methodLink "MeasureRows" 131 y_R_tell) mw_190) rfl rfl (by decide +kernel) ⟨Nat.le_of_ble_eq_true rfl, Nat.le_of_ble_eq_true rfl⟩), (hts (Cond.instanceMethod y_R_tell) mw_191), (hts (Cond.selects "MeasureRows$Row" y_R_tell y_R_tell) mw_192)⟩ (mr_preCV hBH hK hPc (hDc.weaken (fun _ _ _ h => hA0 _ h)) (ci := 2) (q0 := 0) rfl rfl) rfl rfl hl.1 rfl (lv_room (Nat.le_of_ble_eq_true rfl)) d_M_end_81 ⟨Nat.le_of_ble_eq_true rfl, Nat.le_of_ble_eq_true rfl⟩) hS (fun q _ h => hFc q h) hFc (fun u_12 t9 H1 locs ht9 hvm hw hB1 hz1 hk1 hS => ?_)
            obtain ⟨tt_13, lb_14, kb_15⟩ := u_12
            obtain ⟨hP1, hK1, hD1⟩ := hB1
            rw [ht9] at hP1
            have hn3 := mr_ne3 e1_6 e2_6 e3_6 hne_6
            obtain ⟨hP, hD⟩ := mr_plset (X := [((r 0), .inr (0, mf_M r (nI n) nw pb lc)), ((r 1), .inr (1, [.ref (r 2), .ref (r 3)])), ((r 2), .inl (cI, 8, .inl fm)), ((r 3), .inl (cI, 8, .inl fi)), ((r 4), .inl (cR, 80, .inr (.inr (.inr (.inr fr))))), ((r 5), .inl (cI, 80, .inl fl)), ((r 6), .inl (cI, 80, .inl fc)), ((r 7), .inl (cI, 8, .inl fg))]) (f' := va_up (va_up (va_up f a_6 (.inr (2, [.int v0_6, .int v1_6, .int v2_6, .int (nI k_6), .int v4_6, .int v5_6, .int v6_6, .int v7_6, .int (nI tt_13), .ref ql_6, .ref qk_6]))) ql_6 (.inl (cI, 8, .inl lb_14))) qk_6 (.inl (cI, 8, .inl kb_15))) hP hD hin9 hk1 (mr_new3 hP1 hn3) mr_old3
            have hR := mr_upR (w0 := v0_6) (w1 := v1_6) (w2 := v2_6) (w4 := v4_6) (w5 := v5_6) (w6 := v6_6) (w7 := v7_6) hR e1_6 m2_6 m3_6 e2_6 e3_6 hk_6 hw.1 hw.2 hne_6
            have hR := mr_upA (b := ql_6) (g0 := ld_6) (g1 := lb_14) hR (by simp [va_up, hn3.1.symm, e2_6])
            have hR := mr_upA (b := qk_6) (g0 := kd_6) (g1 := kb_15) hR (by simp [va_up, hn3.2.1.symm, hn3.2.2.symm, e3_6])
            have e1_6 : (va_up (va_up (va_up f a_6 (.inr (2, [.int v0_6, .int v1_6, .int v2_6, .int (nI k_6), .int v4_6, .int v5_6, .int v6_6, .int v7_6, .int (nI tt_13), .ref ql_6, .ref qk_6]))) ql_6 (.inl (cI, 8, .inl lb_14))) qk_6 (.inl (cI, 8, .inl kb_15))) a_6 = .inr (2, [.int v0_6, .int v1_6, .int v2_6, .int (nI k_6), .int v4_6, .int v5_6, .int v6_6, .int v7_6, .int (nI tt_13), .ref ql_6, .ref qk_6]) := by simp [va_up, hn3.1, hn3.2.1]
            have e2_6 : (va_up (va_up (va_up f a_6 (.inr (2, [.int v0_6, .int v1_6, .int v2_6, .int (nI k_6), .int v4_6, .int v5_6, .int v6_6, .int v7_6, .int (nI tt_13), .ref ql_6, .ref qk_6]))) ql_6 (.inl (cI, 8, .inl lb_14))) qk_6 (.inl (cI, 8, .inl kb_15))) ql_6 = .inl (cI, 8, .inl lb_14) := by simp [va_up, hn3.2.2]
            have e3_6 : (va_up (va_up (va_up f a_6 (.inr (2, [.int v0_6, .int v1_6, .int v2_6, .int (nI k_6), .int v4_6, .int v5_6, .int v6_6, .int v7_6, .int (nI tt_13), .ref ql_6, .ref qk_6]))) ql_6 (.inl (cI, 8, .inl lb_14))) qk_6 (.inl (cI, 8, .inl kb_15))) qk_6 = .inl (cI, 8, .inl kb_15) := by simp [va_up]
            clear hK1 hk1 hPc hDc hFc hin9
            generalize va_up (va_up (va_up f a_6 (.inr (2, [.int v0_6, .int v1_6, .int v2_6, .int (nI k_6), .int v4_6, .int v5_6, .int v6_6, .int v7_6, .int (nI tt_13), .ref ql_6, .ref qk_6]))) ql_6 (.inl (cI, 8, .inl lb_14))) qk_6 (.inl (cI, 8, .inl kb_15)) = f at hP hD hR e1_6 e2_6 e3_6
            generalize H1 = H at hP hS ⊢
            have hP : va_P (dC, dI) mr_cl ([((r 0), .inr (0, mf_M r (nI n) nw pb lc)), ((r 1), .inr (1, [.ref (r 2), .ref (r 3)])), ((r 2), .inl (cI, 8, .inl fm)), ((r 3), .inl (cI, 8, .inl fi)), ((r 4), .inl (cR, 80, .inr (.inr (.inr (.inr fr))))), ((r 5), .inl (cI, 80, .inl fl)), ((r 6), .inl (cI, 80, .inl fc)), ((r 7), .inl (cI, 8, .inl fg))] ++ va_pl L f) H := hP
            have hD : va_D A ([((r 0), .inr (0, mf_M r (nI n) nw pb lc)), ((r 1), .inr (1, [.ref (r 2), .ref (r 3)])), ((r 2), .inl (cI, 8, .inl fm)), ((r 3), .inl (cI, 8, .inl fi)), ((r 4), .inl (cR, 80, .inr (.inr (.inr (.inr fr))))), ((r 5), .inl (cI, 80, .inl fl)), ((r 6), .inl (cI, 80, .inl fc)), ((r 7), .inl (cI, 8, .inl fg))] ++ va_pl L f) := hD
            have hBH := hB.at hS hA0
            have hPr_6 := mr_row3 (X := [((r 0), .inr (0, mf_M r (nI n) nw pb lc)), ((r 1), .inr (1, [.ref (r 2), .ref (r 3)])), ((r 2), .inl (cI, 8, .inl fm)), ((r 3), .inl (cI, 8, .inl fi)), ((r 4), .inl (cR, 80, .inr (.inr (.inr (.inr fr))))), ((r 5), .inl (cI, 80, .inl fl)), ((r 6), .inl (cI, 80, .inl fc)), ((r 7), .inl (cI, 8, .inl fg))]) hP m1_6 m2_6 m3_6 e1_6 e2_6 e3_6
            refine lv_aload_n hx hb d_M_end_84 rfl (lv_at hl 1 rfl) ?_
            refine lv_aload_n hx hb d_M_end_85 rfl (lv_at hl 1 rfl) ?_
            refine va_get (D := (dC, dI)) (ci := 0) (v := .int nw) (C := R_M) (T := T_M) (N := 9) hx hb hts ti_M hown hK hP 0 rfl rfl 3 (by decide) (hts (Cond.fieldLink "MeasureRows" 26 "MeasureRows" "now" "I") mw_58) (fun _ h9 => h9) rfl d_M_end_86 ?_
            refine lv_iload_n hx hb d_M_end_89 rfl (lv_at hl 4 rfl) ?_
            refine va_mmax hx hb (hml.trans hl.1.symm) hown (hts (Cond.methodLink "MeasureRows" 105 Lib.Math.max.name) mw_193) (hts (Cond.static Lib.Math.max.name) mw_194) (hts (Cond.initialized "java/lang/Math") mw_195) (hts (Cond.code Lib.Math.max.name Lib.Math.max.code 2 (some .int)) mw_196) (Nat.le_of_ble_eq_true rfl) (Nat.le_of_ble_eq_true rfl) (Nat.le_of_ble_eq_true rfl) (Nat.le_of_ble_eq_true rfl) d_M_end_90 ?_
            refine va_put (D := (dC, dI)) (ci := 0) (v := .int (if nw < a2 then a2 else nw)) (ty := .int) (C := R_M) (T := T_M) (N := 9) hx hb hts ti_M t_M to_M tn_M hown hK hP hD hS 0 rfl rfl 3 (by decide) (hts (Cond.fieldLink "MeasureRows" 26 "MeasureRows" "now" "I") mw_58) (fun _ h9 => h9) rfl (by decide +kernel) rfl rfl (Nat.le_of_ble_eq_true rfl) d_M_end_93 (fun H locs hP hD hS => ?_)
            have hP : va_P (dC, dI) mr_cl ([((r 0), .inr (0, mf_M r (nI n) (if nw < a2 then a2 else nw) pb lc)), ((r 1), .inr (1, [.ref (r 2), .ref (r 3)])), ((r 2), .inl (cI, 8, .inl fm)), ((r 3), .inl (cI, 8, .inl fi)), ((r 4), .inl (cR, 80, .inr (.inr (.inr (.inr fr))))), ((r 5), .inl (cI, 80, .inl fl)), ((r 6), .inl (cI, 80, .inl fc)), ((r 7), .inl (cI, 8, .inl fg))] ++ va_pl L f) H := hP
            have hD : va_D A ([((r 0), .inr (0, mf_M r (nI n) (if nw < a2 then a2 else nw) pb lc)), ((r 1), .inr (1, [.ref (r 2), .ref (r 3)])), ((r 2), .inl (cI, 8, .inl fm)), ((r 3), .inl (cI, 8, .inl fi)), ((r 4), .inl (cR, 80, .inr (.inr (.inr (.inr fr))))), ((r 5), .inl (cI, 80, .inl fl)), ((r 6), .inl (cI, 80, .inl fc)), ((r 7), .inl (cI, 8, .inl fg))] ++ va_pl L f) := hD
            have hBH := hB.at hS hA0
            have hPr_6 := mr_row3 (X := [((r 0), .inr (0, mf_M r (nI n) (if nw < a2 then a2 else nw) pb lc)), ((r 1), .inr (1, [.ref (r 2), .ref (r 3)])), ((r 2), .inl (cI, 8, .inl fm)), ((r 3), .inl (cI, 8, .inl fi)), ((r 4), .inl (cR, 80, .inr (.inr (.inr (.inr fr))))), ((r 5), .inl (cI, 80, .inl fl)), ((r 6), .inl (cI, 80, .inl fc)), ((r 7), .inl (cI, 8, .inl fg))]) hP m1_6 m2_6 m3_6 e1_6 e2_6 e3_6
            refine lv_aload hx hb d_M_end_96 (lv_at hl 0 rfl) ?_
            refine va_get (D := (dC, dI)) (ci := 2) (v := .int (nI tt_13)) (C := R_R) (T := T_R) (N := 11) hx hb hts ti_R hown hK hPr_6 0 rfl rfl 8 (by decide) (hts (Cond.fieldLink "MeasureRows" 123 "MeasureRows$Row" "told" "I") mw_154) (fun _ h9 => h9) rfl d_M_end_98 ?_
            have hP9 := hP
            have hD9 := hD
            refine mr_ret ?_
            refine W.widen (k := 1) (n := 6) (by omega) (by omega) ?_
            exact W.iret (v := nI tt_13) hx hb hr (fun t ht hW => ⟨⟨_, ((if nw < a2 then a2 else nw), f), rfl, trivial, hR, by rw [ht]; exact hP9, va_K.moved hW.alike hK, hD9⟩, hS.F ht⟩) hS.2.2 d_M_end_101
          · refine lv_iconst (v := 0) hx hb d_M_end_75 (by decide) ?_
            have hP9 := hP
            have hD9 := hD
            refine mr_ret ?_
            refine W.widen (k := 1) (n := 6) (by omega) (by omega) ?_
            exact W.iret (v := 0) hx hb hr (fun t ht hW => ⟨⟨_, (nw, f), rfl, trivial, hR, by rw [ht]; exact hP9, va_K.moved hW.alike hK, hD9⟩, hS.F ht⟩) hS.2.2 d_M_end_76
        · obtain ⟨sa, hstr⟩ := mr_str (hts (Cond.stringRef "MeasureRows" 126 "no room for another last day") mw_197) hown
          exact mr_throw (names := mr_up) hx hb hlt hown (by decide +kernel) (by decide +kernel) (hts (Cond.classLink "MeasureRows" 93 mr_ise) mw_198) (hts (Cond.initialized mr_ise) mw_199) hstr (hB.own _ mr_a_ise) (hl.1.trans hml.symm) d_M_end_56 d_M_end_59 d_M_end_60 d_M_end_62 d_M_end_65 hno (Nat.le_of_ble_eq_true rfl) (Nat.le_of_ble_eq_true rfl) (Nat.le_of_ble_eq_true rfl) (Nat.le_of_ble_eq_true rfl) hlocks (Or.inr (Or.inr rfl)) (Nat.le_of_ble_eq_true rfl) (Nat.le_of_ble_eq_true rfl)
      · obtain ⟨sa, hstr⟩ := mr_str (hts (Cond.stringRef "MeasureRows" 89 "no such days") mw_138) hown
        exact mr_throw (names := mr_up) hx hb hlt hown (by decide +kernel) (by decide +kernel) (hts (Cond.classLink "MeasureRows" 78 mr_iae) mw_139) (hts (Cond.initialized mr_iae) mw_140) hstr (hB.own _ mr_a_iae) (hl.1.trans hml.symm) d_M_end_36 d_M_end_39 d_M_end_40 d_M_end_42 d_M_end_45 hno (Nat.le_of_ble_eq_true rfl) (Nat.le_of_ble_eq_true rfl) (Nat.le_of_ble_eq_true rfl) (Nat.le_of_ble_eq_true rfl) hlocks (Or.inr (Or.inl rfl)) (Nat.le_of_ble_eq_true rfl) (Nat.le_of_ble_eq_true rfl)
end
section
theorem mw_200 : Cond.code y_M_isUnder b_M_isUnder 2 (some .boolean) ∈ lw_tbl := by decide +kernel
theorem mw_201 : Cond.initialized y_M_isUnder.cls ∈ lw_tbl := by decide +kernel
theorem mw_202 : Cond.methodLink "MeasureRows" 197 y_M_isUnder ∈ lw_tbl := by decide +kernel
theorem mw_203 : Cond.static y_M_isUnder ∈ lw_tbl := by decide +kernel
theorem mw_204 : Cond.code y_M_isOfLand b_M_isOfLand 3 (some .boolean) ∈ lw_tbl := by decide +kernel
theorem mw_205 : Cond.initialized y_M_isOfLand.cls ∈ lw_tbl := by decide +kernel
theorem mw_206 : Cond.methodLink "MeasureRows" 200 y_M_isOfLand ∈ lw_tbl := by decide +kernel
theorem mw_207 : Cond.instanceMethod y_M_isOfLand ∈ lw_tbl := by decide +kernel
theorem mw_208 : Cond.selects "MeasureRows" y_M_isOfLand y_M_isOfLand ∈ lw_tbl := by decide +kernel
set_option maxHeartbeats 4000000 in
set_option maxRecDepth 100000 in
theorem mc_M_gather5 (l : Launch) (s0 : State) (dC : Nat → ClassId) (dI : Nat → Nat → Nat) (cI cR cL cZ : ClassId) (r : Nat → Nat) (n : Nat) (nw pb lc : Int32) (fm fi : Nat → Int32) (fr : Nat → Option Nat) (fl fc fg : Nat → Int32) (L : List Nat) (f : Nat → va_E) (sz : Nat) (a1 : Int32) (a2 : Int32) (a3 : Int32) (a4 : Int32) (hR : mr_RI cI n L f fr) : Met l y_M_gather [Cond.code y_M_gather b_M_gather 9 (some .int)] ({ frames := 4, cells := 0, slots := 0, locals := 85 }) (mr_PC s0 (dC, dI) [(cI, .int), (cR, .object "MeasureRows$Row"), (cL, .long), (cZ, .boolean)] [.ref (r 0), .ref (r 5), .int a1, .int a2, .int a3, .int a4] ([((r 0), .inr (0, mf_M r (nI n) nw pb lc)), ((r 1), .inr (1, [.ref (r 2), .ref (r 3)])), ((r 2), .inl (cI, 8, .inl fm)), ((r 3), .inl (cI, 8, .inl fi)), ((r 4), .inl (cR, 80, .inr (.inr (.inr (.inr fr))))), ((r 5), .inl (cI, 80, .inl fl)), ((r 6), .inl (cI, 80, .inl fc)), ((r 7), .inl (cI, 8, .inl fg))] ++ va_pl L f) sz) (va_Qi (fun rr u => rr = nI u.1 ∧ u.1 ≤ n) (fun (u : Nat × (Nat → Int32)) t => mr_W (dC, dI) [(cI, .int), (cR, .object "MeasureRows$Row"), (cL, .long), (cZ, .boolean)] (va_A ([((r 0), .inr (0, mf_M r (nI n) nw pb lc)), ((r 1), .inr (1, [.ref (r 2), .ref (r 3)])), ((r 2), .inl (cI, 8, .inl fm)), ((r 3), .inl (cI, 8, .inl fi)), ((r 4), .inl (cR, 80, .inr (.inr (.inr (.inr fr))))), ((r 5), .inl (cI, 80, .inl fl)), ((r 6), .inl (cI, 80, .inl fc)), ((r 7), .inl (cI, 8, .inl fg))] ++ va_pl L f) sz) ([((r 0), .inr (0, mf_M r (nI n) nw pb lc)), ((r 1), .inr (1, [.ref (r 2), .ref (r 3)])), ((r 2), .inl (cI, 8, .inl fm)), ((r 3), .inl (cI, 8, .inl fi)), ((r 4), .inl (cR, 80, .inr (.inr (.inr (.inr fr))))), ((r 5), .inl (cI, 80, .inl u.2)), ((r 6), .inl (cI, 80, .inl fc)), ((r 7), .inl (cI, 8, .inl fg))] ++ va_pl L f) t) (va_A ([((r 0), .inr (0, mf_M r (nI n) nw pb lc)), ((r 1), .inr (1, [.ref (r 2), .ref (r 3)])), ((r 2), .inl (cI, 8, .inl fm)), ((r 3), .inl (cI, 8, .inl fi)), ((r 4), .inl (cR, 80, .inr (.inr (.inr (.inr fr))))), ((r 5), .inl (cI, 80, .inl fl)), ((r 6), .inl (cI, 80, .inl fc)), ((r 7), .inl (cI, 8, .inl fg))] ++ va_pl L f) sz)) 0 0 (va_A ([((r 0), .inr (0, mf_M r (nI n) nw pb lc)), ((r 1), .inr (1, [.ref (r 2), .ref (r 3)])), ((r 2), .inl (cI, 8, .inl fm)), ((r 3), .inl (cI, 8, .inl fi)), ((r 4), .inl (cR, 80, .inr (.inr (.inr (.inr fr))))), ((r 5), .inl (cI, 80, .inl fl)), ((r 6), .inl (cI, 80, .inl fc)), ((r 7), .inl (cI, 8, .inl fg))] ++ va_pl L f) sz) := by
  refine Met.ofW (cc := b_M_gather) (maxL := 9) (ret := (some .int)) (by decide) rfl ?_
  intro p e s m args below meth c s₁ B hml hv
  obtain ⟨rfl, hsz, hB, hK, hP, hD0⟩ := hv
  subst hsz
  have hA0 := mr_A hB hD0
  have hD := hD0.self (sz := s.heap.size)
  generalize hAe : va_A ([((r 0), .inr (0, mf_M r (nI n) nw pb lc)), ((r 1), .inr (1, [.ref (r 2), .ref (r 3)])), ((r 2), .inl (cI, 8, .inl fm)), ((r 3), .inl (cI, 8, .inl fi)), ((r 4), .inl (cR, 80, .inr (.inr (.inr (.inr fr))))), ((r 5), .inl (cI, 80, .inl fl)), ((r 6), .inl (cI, 80, .inl fc)), ((r 7), .inl (cI, 8, .inl fg))] ++ va_pl L f) s.heap.size = A at hD hA0 ⊢
  have hA : ∀ q : Nat, s.heap.size ≤ q → A q := fun q h => by rw [← hAe]; exact Or.inr h
  have hS : va_S A s.heap s.heap [] := va_S.rf
  have hP : va_P (dC, dI) mr_cl ([((r 0), .inr (0, mf_M r (nI n) nw pb lc)), ((r 1), .inr (1, [.ref (r 2), .ref (r 3)])), ((r 2), .inl (cI, 8, .inl fm)), ((r 3), .inl (cI, 8, .inl fi)), ((r 4), .inl (cR, 80, .inr (.inr (.inr (.inr fr))))), ((r 5), .inl (cI, 80, .inl fl)), ((r 6), .inl (cI, 80, .inl fc)), ((r 7), .inl (cI, 8, .inl fg))] ++ va_pl L f) s.heap := hP
  have hBH := hB.at hS hA0
  have hx := B.exec
  have hb := B.bytes
  have hr := B.returns
  have hlocks := B.notSynchronized
  have hts : ∀ w ∈ lw_tbl, w.before [.ref (r 0), .ref (r 5), .int a1, .int a2, .int a3, .int a4].toArray s = true := hB.hts _
  have hown : s.vm.findClass "MeasureRows" = some m.cls := findClass_of_methodNamed B.named
  have hl := lv_entry ([.ref (r 0), .ref (r 5), .int a1, .int a2, .int a3, .int a4]) (n := 9) (Nat.le_of_ble_eq_true rfl)
  rw [lg_entry_eq]
  generalize (lg_sl ([.ref (r 0), .ref (r 5), .int a1, .int a2, .int a3, .int a4]) ++ List.replicate (9 - (lg_sl ([.ref (r 0), .ref (r 5), .int a1, .int a2, .int a3, .int a4])).length) Slot.unset).toArray = ls at hl ⊢
  have hl : lv_has ls 9 [(0, .ref (r 0)), (1, .ref (r 5)), (2, .int a1), (3, .int a2), (4, .int a3), (5, .int a4)] := hl
  refine lv_iconst (v := 0) hx hb d_M_gather_0 (by decide) ?_
  refine lv_istore (lv' := [(6, .int 0), (0, .ref (r 0)), (1, .ref (r 5)), (2, .int a1), (3, .int a2), (4, .int a3), (5, .int a4)]) hx hb d_M_gather_1 hl (by decide) rfl (fun ls hl => ?_)
  refine lv_iconst (v := 1) hx hb d_M_gather_3 (by decide) ?_
  refine lv_istore (lv' := [(7, .int 1), (6, .int 0), (0, .ref (r 0)), (1, .ref (r 5)), (2, .int a1), (3, .int a2), (4, .int a3), (5, .int a4)]) hx hb d_M_gather_4 hl (by decide) rfl (fun ls hl => ?_)
  refine mr_loop (N := n) (I := fun j H locs ls => ∃ q9 : Nat, ∃ ft9 : Nat → Int32, q9 ≤ j ∧ va_P (dC, dI) mr_cl ([((r 0), .inr (0, mf_M r (nI n) nw pb lc)), ((r 1), .inr (1, [.ref (r 2), .ref (r 3)])), ((r 2), .inl (cI, 8, .inl fm)), ((r 3), .inl (cI, 8, .inl fi)), ((r 4), .inl (cR, 80, .inr (.inr (.inr (.inr fr))))), ((r 5), .inl (cI, 80, .inl ft9)), ((r 6), .inl (cI, 80, .inl fc)), ((r 7), .inl (cI, 8, .inl fg))] ++ va_pl L f) H ∧ va_D A ([((r 0), .inr (0, mf_M r (nI n) nw pb lc)), ((r 1), .inr (1, [.ref (r 2), .ref (r 3)])), ((r 2), .inl (cI, 8, .inl fm)), ((r 3), .inl (cI, 8, .inl fi)), ((r 4), .inl (cR, 80, .inr (.inr (.inr (.inr fr))))), ((r 5), .inl (cI, 80, .inl ft9)), ((r 6), .inl (cI, 80, .inl fc)), ((r 7), .inl (cI, 8, .inl fg))] ++ va_pl L f) ∧ va_S A s.heap H locs ∧ lv_has ls 9 [(7, .int (nI (j + 1))), (6, .int (nI q9)), (0, .ref (r 0)), (1, .ref (r 5)), (2, .int a1), (3, .int a2), (4, .int a3), (5, .int a4)]) (fun j H locs ls hj hI9 ih => ?_) (fun H locs ls hI9 => ?_) 0 _ _ _ (Nat.zero_le _) ⟨0, fl, Nat.le_refl 0, hP, hD, hS, (lv_sub hl [0, 1, 2, 3, 4, 5, 6, 7] rfl)⟩
  · obtain ⟨q9, ft9, hexj, hP, hD, hS, hl⟩ := hI9
    have hBH := hB.at hS hA0
    refine lv_iload hx hb d_M_gather_6 (lv_at hl 0 rfl) ?_
    refine lv_aload_n hx hb d_M_gather_8 rfl (lv_at hl 2 rfl) ?_
    refine va_get (D := (dC, dI)) (ci := 0) (v := .int (nI n)) (C := R_M) (T := T_M) (N := 9) hx hb hts ti_M hown hK hP 0 rfl rfl 2 (by decide) (hts (Cond.fieldLink "MeasureRows" 22 "MeasureRows" "rowCount" "I") mw_57) (fun _ h9 => h9) rfl d_M_gather_9 ?_
    refine lv_icmp_gt (tgt := 87) hx hb d_M_gather_12 (by decide) (fun c_1 => absurd c_1 (nI_nlt (by omega) (by have := hR.1; omega))) (fun _ => ?_)
    refine lv_aload_n hx hb d_M_gather_15 rfl (lv_at hl 2 rfl) ?_
    refine lv_iload hx hb d_M_gather_16 (lv_at hl 0 rfl) ?_
    refine va_csq (va_Run.run (va_runV (As := [.int (nI (j + 1))]) (rest := []) (C := R_M) ⟨hx, hb, hml, hown, hts⟩ (mc_M_find l s0 dC dI cI cR cL cZ r n nw pb lc fr (nI (j + 1)) hR.1) ⟨(mr_cB 1 (hts (Cond.code y_M_find b_M_find 2 (some (.object "MeasureRows$Row"))) mw_117) (hts (Cond.initialized y_M_find.cls) mw_118) (hts (Cond.methodLink "MeasureRows" 111 y_M_find) mw_119) rfl rfl (by decide +kernel) ⟨Nat.le_of_ble_eq_true rfl, Nat.le_of_ble_eq_true rfl⟩), (hts (Cond.instanceMethod y_M_find) mw_120), (hts (Cond.selects "MeasureRows" y_M_find y_M_find) mw_121)⟩ (mr_preV hBH hK (hP.sub (ws' := [((r 0), .inr (0, mf_M r (nI n) nw pb lc)), ((r 4), .inl (cR, 80, .inr (.inr (.inr (.inr fr)))))]) [0, 4] rfl) (ci := 0) (q0 := 0) rfl rfl) rfl rfl hl.1 rfl (lv_room (Nat.le_of_ble_eq_true rfl)) d_M_gather_18 ⟨Nat.le_of_ble_eq_true rfl, Nat.le_of_ble_eq_true rfl⟩)) (fun r_2 h_3 => ?_)
    subst h_3
    rcases mr_fc hR (nI (j + 1)) with hf_7 | ⟨i_7, hi_7, hxe_7, a_7, ql_7, qk_7, v0_7, v1_7, v2_7, v4_7, v5_7, v6_7, v7_7, k_7, t_7, ld_7, kd_7, hf_7, hfi_7, m1_7, m2_7, m3_7, e1_7, e2_7, e3_7, hk_7, ht_7, ho_7, hne_7⟩
    · refine mr_topv (show va_rf (mv_M_find n fr (nI (j + 1))) = .null by rw [hf_7]; rfl) ?_
      refine lv_astoreN (lv' := [(8, .null), (7, .int (nI (j + 1))), (6, .int (nI q9)), (0, .ref (r 0)), (1, .ref (r 5)), (2, .int a1), (3, .int a2), (4, .int a3), (5, .int a4)]) hx hb d_M_gather_21 hl (by decide) rfl (fun ls hl => ?_)
      refine lv_aloadN hx hb d_M_gather_23 (lv_at hl 0 rfl) ?_
      refine lv_ifnullN (tgt := 81) hx hb d_M_gather_25 (by decide) ?_
      refine lv_iinc (v := nI ((j + 1) + 1)) (lv' := [(7, .int (nI ((j + 1) + 1))), (8, .null), (6, .int (nI q9)), (0, .ref (r 0)), (1, .ref (r 5)), (2, .int a1), (3, .int a2), (4, .int a3), (5, .int a4)]) hx hb d_M_gather_81 hl (k := 1) rfl ((nI_succ (j + 1)).symm) (by decide) rfl (fun ls hl => ?_)
      refine lv_goto (tgt := 6) hx hb d_M_gather_84 (by decide) ?_
      exact ih _ _ _ ⟨q9, ft9, by omega, hP, hD, hS, lv_sub hl [0, 2, 3, 4, 5, 6, 7, 8] rfl⟩
    · refine mr_topv (show va_rf (mv_M_find n fr (nI (j + 1))) = .ref a_7 by rw [hf_7]; rfl) ?_
      have hPr_7 := mr_row3 (X := [((r 0), .inr (0, mf_M r (nI n) nw pb lc)), ((r 1), .inr (1, [.ref (r 2), .ref (r 3)])), ((r 2), .inl (cI, 8, .inl fm)), ((r 3), .inl (cI, 8, .inl fi)), ((r 4), .inl (cR, 80, .inr (.inr (.inr (.inr fr))))), ((r 5), .inl (cI, 80, .inl ft9)), ((r 6), .inl (cI, 80, .inl fc)), ((r 7), .inl (cI, 8, .inl fg))]) hP m1_7 m2_7 m3_7 e1_7 e2_7 e3_7
      refine lv_astore (lv' := [(8, .ref a_7), (7, .int (nI (j + 1))), (6, .int (nI q9)), (0, .ref (r 0)), (1, .ref (r 5)), (2, .int a1), (3, .int a2), (4, .int a3), (5, .int a4)]) hx hb d_M_gather_21 hl (by decide) rfl (fun ls hl => ?_)
      refine lv_aload hx hb d_M_gather_23 (lv_at hl 0 rfl) ?_
      refine lv_ifnull hx hb d_M_gather_25 ?_
      refine lv_aload hx hb d_M_gather_28 (lv_at hl 0 rfl) ?_
      refine va_get (D := (dC, dI)) (ci := 2) (v := .int v5_7) (C := R_R) (T := T_R) (N := 11) hx hb hts ti_R hown hK hPr_7 0 rfl rfl 5 (by decide) (hts (Cond.fieldLink "MeasureRows" 170 "MeasureRows$Row" "known" "I") mw_153) (fun _ h9 => h9) rfl d_M_gather_30 ?_
      refine lv_iload hx hb d_M_gather_33 (lv_at hl 8 rfl) ?_
      refine lv_icmp_gt (tgt := 81) hx hb d_M_gather_35 (by decide) (fun c_4 => ?_) (fun c_4 => ?_)
      · refine lv_iinc (v := nI ((j + 1) + 1)) (lv' := [(7, .int (nI ((j + 1) + 1))), (8, .ref a_7), (6, .int (nI q9)), (0, .ref (r 0)), (1, .ref (r 5)), (2, .int a1), (3, .int a2), (4, .int a3), (5, .int a4)]) hx hb d_M_gather_81 hl (k := 1) rfl ((nI_succ (j + 1)).symm) (by decide) rfl (fun ls hl => ?_)
        refine lv_goto (tgt := 6) hx hb d_M_gather_84 (by decide) ?_
        exact ih _ _ _ ⟨q9, ft9, by omega, hP, hD, hS, lv_sub hl [0, 2, 3, 4, 5, 6, 7, 8] rfl⟩
      · refine lv_iload_n hx hb d_M_gather_38 rfl (lv_at hl 5 rfl) ?_
        refine lv_aload hx hb d_M_gather_39 (lv_at hl 0 rfl) ?_
        refine va_get (D := (dC, dI)) (ci := 2) (v := .int v0_7) (C := R_R) (T := T_R) (N := 11) hx hb hts ti_R hown hK hPr_7 0 rfl rfl 0 (by decide) (hts (Cond.fieldLink "MeasureRows" 155 "MeasureRows$Row" "code" "I") mw_147) (fun _ h9 => h9) rfl d_M_gather_41 ?_
        refine vp_callSi (va_Run.run (va_runS (As := [.int a1, .int v0_7]) (rest := []) ⟨hx, hb, hml, hown, hts⟩ (mc_M_isUnder l s0 a1 v0_7) ⟨(mr_cB 2 (hts (Cond.code y_M_isUnder b_M_isUnder 2 (some .boolean)) mw_200) (hts (Cond.initialized y_M_isUnder.cls) mw_201) (hts (Cond.methodLink "MeasureRows" 197 y_M_isUnder) mw_202) rfl rfl (by decide +kernel) ⟨Nat.le_of_ble_eq_true rfl, Nat.le_of_ble_eq_true rfl⟩), (hts (Cond.static y_M_isUnder) mw_203)⟩ (mr_pre0 hBH) rfl rfl hl.1 rfl (lv_room (Nat.le_of_ble_eq_true rfl)) d_M_gather_44 ⟨Nat.le_of_ble_eq_true rfl, Nat.le_of_ble_eq_true rfl⟩)) (fun r_5 h_6 => ?_)
        subst h_6
        refine lv_if_eq (tgt := 81) hx hb d_M_gather_47 (by decide) (fun c_7 => ?_) (fun c_7 => ?_)
        · refine lv_iinc (v := nI ((j + 1) + 1)) (lv' := [(7, .int (nI ((j + 1) + 1))), (8, .ref a_7), (6, .int (nI q9)), (0, .ref (r 0)), (1, .ref (r 5)), (2, .int a1), (3, .int a2), (4, .int a3), (5, .int a4)]) hx hb d_M_gather_81 hl (k := 1) rfl ((nI_succ (j + 1)).symm) (by decide) rfl (fun ls hl => ?_)
          refine lv_goto (tgt := 6) hx hb d_M_gather_84 (by decide) ?_
          exact ih _ _ _ ⟨q9, ft9, by omega, hP, hD, hS, lv_sub hl [0, 2, 3, 4, 5, 6, 7, 8] rfl⟩
        · refine lv_aload_n hx hb d_M_gather_50 rfl (lv_at hl 3 rfl) ?_
          refine lv_aload hx hb d_M_gather_51 (lv_at hl 0 rfl) ?_
          refine lv_iload_n hx hb d_M_gather_53 rfl (lv_at hl 6 rfl) ?_
          refine vp_callSi (va_Run.run (va_runV (As := [.ref a_7, .int a2]) (rest := []) (C := R_M) ⟨hx, hb, hml, hown, hts⟩ (mc_M_isOfLand l s0 dC dI cI cR cL cZ r n nw pb lc fi a_7 ql_7 qk_7 v0_7 v1_7 v2_7 v4_7 v5_7 v6_7 v7_7 (nI t_7) k_7 a2) ⟨(mr_cB 2 (hts (Cond.code y_M_isOfLand b_M_isOfLand 3 (some .boolean)) mw_204) (hts (Cond.initialized y_M_isOfLand.cls) mw_205) (hts (Cond.methodLink "MeasureRows" 200 y_M_isOfLand) mw_206) rfl rfl (by decide +kernel) ⟨Nat.le_of_ble_eq_true rfl, Nat.le_of_ble_eq_true rfl⟩), (hts (Cond.instanceMethod y_M_isOfLand) mw_207), (hts (Cond.selects "MeasureRows" y_M_isOfLand y_M_isOfLand) mw_208)⟩ (mr_preV hBH hK ((hP.sub (ws' := [((r 0), .inr (0, mf_M r (nI n) nw pb lc)), ((r 1), .inr (1, [.ref (r 2), .ref (r 3)])), ((r 3), .inl (cI, 8, .inl fi))]) [0, 1, 3] rfl).app (hPr_7.sub (ws' := [(a_7, .inr (2, [.int v0_7, .int v1_7, .int v2_7, .int (nI k_7), .int v4_7, .int v5_7, .int v6_7, .int v7_7, .int (nI t_7), .ref ql_7, .ref qk_7]))]) [0] rfl)) (ci := 0) (q0 := 0) rfl rfl) rfl rfl hl.1 rfl (lv_room (Nat.le_of_ble_eq_true rfl)) d_M_gather_54 ⟨Nat.le_of_ble_eq_true rfl, Nat.le_of_ble_eq_true rfl⟩)) (fun r_8 h_9 => ?_)
          refine lv_if_eq (tgt := 81) hx hb d_M_gather_57 (by decide) (fun c_10 => ?_) (fun c_10 => ?_)
          · refine lv_iinc (v := nI ((j + 1) + 1)) (lv' := [(7, .int (nI ((j + 1) + 1))), (8, .ref a_7), (6, .int (nI q9)), (0, .ref (r 0)), (1, .ref (r 5)), (2, .int a1), (3, .int a2), (4, .int a3), (5, .int a4)]) hx hb d_M_gather_81 hl (k := 1) rfl ((nI_succ (j + 1)).symm) (by decide) rfl (fun ls hl => ?_)
            refine lv_goto (tgt := 6) hx hb d_M_gather_84 (by decide) ?_
            exact ih _ _ _ ⟨q9, ft9, by omega, hP, hD, hS, lv_sub hl [0, 2, 3, 4, 5, 6, 7, 8] rfl⟩
          · refine lv_aload hx hb d_M_gather_60 (lv_at hl 0 rfl) ?_
            refine lv_iload hx hb d_M_gather_62 (lv_at hl 7 rfl) ?_
            refine lv_iload hx hb d_M_gather_64 (lv_at hl 8 rfl) ?_
            refine vp_callSi (va_Run.run (va_runV (As := [.int a3, .int a4]) (rest := []) (C := R_R) ⟨hx, hb, hml, hown, hts⟩ (mc_R_lastsOn l s0 dC dI cI cR cL cZ a_7 ql_7 qk_7 v0_7 v1_7 v2_7 (nI k_7) v4_7 v5_7 v6_7 v7_7 t_7 ld_7 kd_7 a3 a4 ht_7) ⟨(mr_cB 2 (hts (Cond.code y_R_lastsOn b_R_lastsOn 3 (some .boolean)) mw_141) (hts (Cond.initialized y_R_lastsOn.cls) mw_142) (hts (Cond.methodLink "MeasureRows" 152 y_R_lastsOn) mw_143) rfl rfl (by decide +kernel) ⟨Nat.le_of_ble_eq_true rfl, Nat.le_of_ble_eq_true rfl⟩), (hts (Cond.instanceMethod y_R_lastsOn) mw_144), (hts (Cond.selects "MeasureRows$Row" y_R_lastsOn y_R_lastsOn) mw_145)⟩ (mr_preV hBH hK (hPr_7.sub (ws' := [(a_7, .inr (2, [.int v0_7, .int v1_7, .int v2_7, .int (nI k_7), .int v4_7, .int v5_7, .int v6_7, .int v7_7, .int (nI t_7), .ref ql_7, .ref qk_7])), (ql_7, .inl (cI, 8, .inl ld_7)), (qk_7, .inl (cI, 8, .inl kd_7))]) [0, 1, 2] rfl) (ci := 2) (q0 := 0) rfl rfl) rfl rfl hl.1 rfl (lv_room (Nat.le_of_ble_eq_true rfl)) d_M_gather_66 ⟨Nat.le_of_ble_eq_true rfl, Nat.le_of_ble_eq_true rfl⟩)) (fun r_11 h_12 => ?_)
            subst h_12
            refine lv_if_eq (tgt := 81) hx hb d_M_gather_69 (by decide) (fun c_13 => ?_) (fun c_13 => ?_)
            · refine lv_iinc (v := nI ((j + 1) + 1)) (lv' := [(7, .int (nI ((j + 1) + 1))), (8, .ref a_7), (6, .int (nI q9)), (0, .ref (r 0)), (1, .ref (r 5)), (2, .int a1), (3, .int a2), (4, .int a3), (5, .int a4)]) hx hb d_M_gather_81 hl (k := 1) rfl ((nI_succ (j + 1)).symm) (by decide) rfl (fun ls hl => ?_)
              refine lv_goto (tgt := 6) hx hb d_M_gather_84 (by decide) ?_
              exact ih _ _ _ ⟨q9, ft9, by omega, hP, hD, hS, lv_sub hl [0, 2, 3, 4, 5, 6, 7, 8] rfl⟩
            · refine lv_aload_n hx hb d_M_gather_72 rfl (lv_at hl 4 rfl) ?_
              refine lv_iload hx hb d_M_gather_73 (lv_at hl 2 rfl) ?_
              refine lv_iload hx hb d_M_gather_75 (lv_at hl 1 rfl) ?_
              refine va_iast (D := (dC, dI)) hx hb hK hP hD hS 5 0 rfl rfl (i := nI q9) (nI_in (by have := hR.1; omega) (by decide)) d_M_gather_77 (fun H locs hP hD hS => ?_)
              have hP : va_P (dC, dI) mr_cl ([((r 0), .inr (0, mf_M r (nI n) nw pb lc)), ((r 1), .inr (1, [.ref (r 2), .ref (r 3)])), ((r 2), .inl (cI, 8, .inl fm)), ((r 3), .inl (cI, 8, .inl fi)), ((r 4), .inl (cR, 80, .inr (.inr (.inr (.inr fr))))), ((r 5), .inl (cI, 80, .inl (upd ft9 (nI q9).toNatClampNeg (nI (j + 1))))), ((r 6), .inl (cI, 80, .inl fc)), ((r 7), .inl (cI, 8, .inl fg))] ++ va_pl L f) H := hP
              have hD : va_D A ([((r 0), .inr (0, mf_M r (nI n) nw pb lc)), ((r 1), .inr (1, [.ref (r 2), .ref (r 3)])), ((r 2), .inl (cI, 8, .inl fm)), ((r 3), .inl (cI, 8, .inl fi)), ((r 4), .inl (cR, 80, .inr (.inr (.inr (.inr fr))))), ((r 5), .inl (cI, 80, .inl (upd ft9 (nI q9).toNatClampNeg (nI (j + 1))))), ((r 6), .inl (cI, 80, .inl fc)), ((r 7), .inl (cI, 8, .inl fg))] ++ va_pl L f) := hD
              have hBH := hB.at hS hA0
              have hPr_7 := mr_row3 (X := [((r 0), .inr (0, mf_M r (nI n) nw pb lc)), ((r 1), .inr (1, [.ref (r 2), .ref (r 3)])), ((r 2), .inl (cI, 8, .inl fm)), ((r 3), .inl (cI, 8, .inl fi)), ((r 4), .inl (cR, 80, .inr (.inr (.inr (.inr fr))))), ((r 5), .inl (cI, 80, .inl (upd ft9 (nI q9).toNatClampNeg (nI (j + 1))))), ((r 6), .inl (cI, 80, .inl fc)), ((r 7), .inl (cI, 8, .inl fg))]) hP m1_7 m2_7 m3_7 e1_7 e2_7 e3_7
              refine lv_iinc (v := nI (q9 + 1)) (lv' := [(6, .int (nI (q9 + 1))), (8, .ref a_7), (7, .int (nI (j + 1))), (0, .ref (r 0)), (1, .ref (r 5)), (2, .int a1), (3, .int a2), (4, .int a3), (5, .int a4)]) hx hb d_M_gather_78 hl (k := 2) rfl ((nI_succ q9).symm) (by decide) rfl (fun ls hl => ?_)
              refine lv_iinc (v := nI ((j + 1) + 1)) (lv' := [(7, .int (nI ((j + 1) + 1))), (6, .int (nI (q9 + 1))), (8, .ref a_7), (0, .ref (r 0)), (1, .ref (r 5)), (2, .int a1), (3, .int a2), (4, .int a3), (5, .int a4)]) hx hb d_M_gather_81 hl (k := 2) rfl ((nI_succ (j + 1)).symm) (by decide) rfl (fun ls hl => ?_)
              refine lv_goto (tgt := 6) hx hb d_M_gather_84 (by decide) ?_
              exact ih _ _ _ ⟨(q9 + 1), (upd ft9 (nI q9).toNatClampNeg (nI (j + 1))), by omega, hP, hD, hS, lv_sub hl [0, 1, 3, 4, 5, 6, 7, 8] rfl⟩
  · obtain ⟨q9, ft9, hexj, hP, hD, hS, hl⟩ := hI9
    have hBH := hB.at hS hA0
    refine lv_iload hx hb d_M_gather_6 (lv_at hl 0 rfl) ?_
    refine lv_aload_n hx hb d_M_gather_8 rfl (lv_at hl 2 rfl) ?_
    refine va_get (D := (dC, dI)) (ci := 0) (v := .int (nI n)) (C := R_M) (T := T_M) (N := 9) hx hb hts ti_M hown hK hP 0 rfl rfl 2 (by decide) (hts (Cond.fieldLink "MeasureRows" 22 "MeasureRows" "rowCount" "I") mw_57) (fun _ h9 => h9) rfl d_M_gather_9 ?_
    refine lv_icmp_gt (tgt := 87) hx hb d_M_gather_12 (by decide) (fun _ => ?_) (fun c_14 => absurd (nI_lt (by omega) (by have := hR.1; omega)) c_14)
    refine lv_iload hx hb d_M_gather_87 (lv_at hl 1 rfl) ?_
    have hP9 := hP
    have hD9 := hD
    exact W.iret (v := nI q9) hx hb hr (fun t ht hW => ⟨⟨_, (q9, ft9), rfl, ⟨rfl, hexj⟩, by rw [ht]; exact hP9, va_K.moved hW.alike hK, hD9⟩, hS.F ht⟩) hS.2.2 d_M_gather_89
set_option maxHeartbeats 4000000 in
set_option maxRecDepth 100000 in
theorem mc_M_gather6 (l : Launch) (s0 : State) (dC : Nat → ClassId) (dI : Nat → Nat → Nat) (cI cR cL cZ : ClassId) (r : Nat → Nat) (n : Nat) (nw pb lc : Int32) (fm fi : Nat → Int32) (fr : Nat → Option Nat) (fl fc fg : Nat → Int32) (L : List Nat) (f : Nat → va_E) (sz : Nat) (a1 : Int32) (a2 : Int32) (a3 : Int32) (a4 : Int32) (hR : mr_RI cI n L f fr) : Met l y_M_gather [Cond.code y_M_gather b_M_gather 9 (some .int)] ({ frames := 4, cells := 0, slots := 0, locals := 85 }) (mr_PC s0 (dC, dI) [(cI, .int), (cR, .object "MeasureRows$Row"), (cL, .long), (cZ, .boolean)] [.ref (r 0), .ref (r 6), .int a1, .int a2, .int a3, .int a4] ([((r 0), .inr (0, mf_M r (nI n) nw pb lc)), ((r 1), .inr (1, [.ref (r 2), .ref (r 3)])), ((r 2), .inl (cI, 8, .inl fm)), ((r 3), .inl (cI, 8, .inl fi)), ((r 4), .inl (cR, 80, .inr (.inr (.inr (.inr fr))))), ((r 5), .inl (cI, 80, .inl fl)), ((r 6), .inl (cI, 80, .inl fc)), ((r 7), .inl (cI, 8, .inl fg))] ++ va_pl L f) sz) (va_Qi (fun rr u => rr = nI u.1 ∧ u.1 ≤ n) (fun (u : Nat × (Nat → Int32)) t => mr_W (dC, dI) [(cI, .int), (cR, .object "MeasureRows$Row"), (cL, .long), (cZ, .boolean)] (va_A ([((r 0), .inr (0, mf_M r (nI n) nw pb lc)), ((r 1), .inr (1, [.ref (r 2), .ref (r 3)])), ((r 2), .inl (cI, 8, .inl fm)), ((r 3), .inl (cI, 8, .inl fi)), ((r 4), .inl (cR, 80, .inr (.inr (.inr (.inr fr))))), ((r 5), .inl (cI, 80, .inl fl)), ((r 6), .inl (cI, 80, .inl fc)), ((r 7), .inl (cI, 8, .inl fg))] ++ va_pl L f) sz) ([((r 0), .inr (0, mf_M r (nI n) nw pb lc)), ((r 1), .inr (1, [.ref (r 2), .ref (r 3)])), ((r 2), .inl (cI, 8, .inl fm)), ((r 3), .inl (cI, 8, .inl fi)), ((r 4), .inl (cR, 80, .inr (.inr (.inr (.inr fr))))), ((r 5), .inl (cI, 80, .inl fl)), ((r 6), .inl (cI, 80, .inl u.2)), ((r 7), .inl (cI, 8, .inl fg))] ++ va_pl L f) t) (va_A ([((r 0), .inr (0, mf_M r (nI n) nw pb lc)), ((r 1), .inr (1, [.ref (r 2), .ref (r 3)])), ((r 2), .inl (cI, 8, .inl fm)), ((r 3), .inl (cI, 8, .inl fi)), ((r 4), .inl (cR, 80, .inr (.inr (.inr (.inr fr))))), ((r 5), .inl (cI, 80, .inl fl)), ((r 6), .inl (cI, 80, .inl fc)), ((r 7), .inl (cI, 8, .inl fg))] ++ va_pl L f) sz)) 0 0 (va_A ([((r 0), .inr (0, mf_M r (nI n) nw pb lc)), ((r 1), .inr (1, [.ref (r 2), .ref (r 3)])), ((r 2), .inl (cI, 8, .inl fm)), ((r 3), .inl (cI, 8, .inl fi)), ((r 4), .inl (cR, 80, .inr (.inr (.inr (.inr fr))))), ((r 5), .inl (cI, 80, .inl fl)), ((r 6), .inl (cI, 80, .inl fc)), ((r 7), .inl (cI, 8, .inl fg))] ++ va_pl L f) sz) := by
  refine Met.ofW (cc := b_M_gather) (maxL := 9) (ret := (some .int)) (by decide) rfl ?_
  intro p e s m args below meth c s₁ B hml hv
  obtain ⟨rfl, hsz, hB, hK, hP, hD0⟩ := hv
  subst hsz
  have hA0 := mr_A hB hD0
  have hD := hD0.self (sz := s.heap.size)
  generalize hAe : va_A ([((r 0), .inr (0, mf_M r (nI n) nw pb lc)), ((r 1), .inr (1, [.ref (r 2), .ref (r 3)])), ((r 2), .inl (cI, 8, .inl fm)), ((r 3), .inl (cI, 8, .inl fi)), ((r 4), .inl (cR, 80, .inr (.inr (.inr (.inr fr))))), ((r 5), .inl (cI, 80, .inl fl)), ((r 6), .inl (cI, 80, .inl fc)), ((r 7), .inl (cI, 8, .inl fg))] ++ va_pl L f) s.heap.size = A at hD hA0 ⊢
  have hA : ∀ q : Nat, s.heap.size ≤ q → A q := fun q h => by rw [← hAe]; exact Or.inr h
  have hS : va_S A s.heap s.heap [] := va_S.rf
  have hP : va_P (dC, dI) mr_cl ([((r 0), .inr (0, mf_M r (nI n) nw pb lc)), ((r 1), .inr (1, [.ref (r 2), .ref (r 3)])), ((r 2), .inl (cI, 8, .inl fm)), ((r 3), .inl (cI, 8, .inl fi)), ((r 4), .inl (cR, 80, .inr (.inr (.inr (.inr fr))))), ((r 5), .inl (cI, 80, .inl fl)), ((r 6), .inl (cI, 80, .inl fc)), ((r 7), .inl (cI, 8, .inl fg))] ++ va_pl L f) s.heap := hP
  have hBH := hB.at hS hA0
  have hx := B.exec
  have hb := B.bytes
  have hr := B.returns
  have hlocks := B.notSynchronized
  have hts : ∀ w ∈ lw_tbl, w.before [.ref (r 0), .ref (r 6), .int a1, .int a2, .int a3, .int a4].toArray s = true := hB.hts _
  have hown : s.vm.findClass "MeasureRows" = some m.cls := findClass_of_methodNamed B.named
  have hl := lv_entry ([.ref (r 0), .ref (r 6), .int a1, .int a2, .int a3, .int a4]) (n := 9) (Nat.le_of_ble_eq_true rfl)
  rw [lg_entry_eq]
  generalize (lg_sl ([.ref (r 0), .ref (r 6), .int a1, .int a2, .int a3, .int a4]) ++ List.replicate (9 - (lg_sl ([.ref (r 0), .ref (r 6), .int a1, .int a2, .int a3, .int a4])).length) Slot.unset).toArray = ls at hl ⊢
  have hl : lv_has ls 9 [(0, .ref (r 0)), (1, .ref (r 6)), (2, .int a1), (3, .int a2), (4, .int a3), (5, .int a4)] := hl
  refine lv_iconst (v := 0) hx hb d_M_gather_0 (by decide) ?_
  refine lv_istore (lv' := [(6, .int 0), (0, .ref (r 0)), (1, .ref (r 6)), (2, .int a1), (3, .int a2), (4, .int a3), (5, .int a4)]) hx hb d_M_gather_1 hl (by decide) rfl (fun ls hl => ?_)
  refine lv_iconst (v := 1) hx hb d_M_gather_3 (by decide) ?_
  refine lv_istore (lv' := [(7, .int 1), (6, .int 0), (0, .ref (r 0)), (1, .ref (r 6)), (2, .int a1), (3, .int a2), (4, .int a3), (5, .int a4)]) hx hb d_M_gather_4 hl (by decide) rfl (fun ls hl => ?_)
  refine mr_loop (N := n) (I := fun j H locs ls => ∃ q9 : Nat, ∃ ft9 : Nat → Int32, q9 ≤ j ∧ va_P (dC, dI) mr_cl ([((r 0), .inr (0, mf_M r (nI n) nw pb lc)), ((r 1), .inr (1, [.ref (r 2), .ref (r 3)])), ((r 2), .inl (cI, 8, .inl fm)), ((r 3), .inl (cI, 8, .inl fi)), ((r 4), .inl (cR, 80, .inr (.inr (.inr (.inr fr))))), ((r 5), .inl (cI, 80, .inl fl)), ((r 6), .inl (cI, 80, .inl ft9)), ((r 7), .inl (cI, 8, .inl fg))] ++ va_pl L f) H ∧ va_D A ([((r 0), .inr (0, mf_M r (nI n) nw pb lc)), ((r 1), .inr (1, [.ref (r 2), .ref (r 3)])), ((r 2), .inl (cI, 8, .inl fm)), ((r 3), .inl (cI, 8, .inl fi)), ((r 4), .inl (cR, 80, .inr (.inr (.inr (.inr fr))))), ((r 5), .inl (cI, 80, .inl fl)), ((r 6), .inl (cI, 80, .inl ft9)), ((r 7), .inl (cI, 8, .inl fg))] ++ va_pl L f) ∧ va_S A s.heap H locs ∧ lv_has ls 9 [(7, .int (nI (j + 1))), (6, .int (nI q9)), (0, .ref (r 0)), (1, .ref (r 6)), (2, .int a1), (3, .int a2), (4, .int a3), (5, .int a4)]) (fun j H locs ls hj hI9 ih => ?_) (fun H locs ls hI9 => ?_) 0 _ _ _ (Nat.zero_le _) ⟨0, fc, Nat.le_refl 0, hP, hD, hS, (lv_sub hl [0, 1, 2, 3, 4, 5, 6, 7] rfl)⟩
  · obtain ⟨q9, ft9, hexj, hP, hD, hS, hl⟩ := hI9
    have hBH := hB.at hS hA0
    refine lv_iload hx hb d_M_gather_6 (lv_at hl 0 rfl) ?_
    refine lv_aload_n hx hb d_M_gather_8 rfl (lv_at hl 2 rfl) ?_
    refine va_get (D := (dC, dI)) (ci := 0) (v := .int (nI n)) (C := R_M) (T := T_M) (N := 9) hx hb hts ti_M hown hK hP 0 rfl rfl 2 (by decide) (hts (Cond.fieldLink "MeasureRows" 22 "MeasureRows" "rowCount" "I") mw_57) (fun _ h9 => h9) rfl d_M_gather_9 ?_
    refine lv_icmp_gt (tgt := 87) hx hb d_M_gather_12 (by decide) (fun c_1 => absurd c_1 (nI_nlt (by omega) (by have := hR.1; omega))) (fun _ => ?_)
    refine lv_aload_n hx hb d_M_gather_15 rfl (lv_at hl 2 rfl) ?_
    refine lv_iload hx hb d_M_gather_16 (lv_at hl 0 rfl) ?_
    refine va_csq (va_Run.run (va_runV (As := [.int (nI (j + 1))]) (rest := []) (C := R_M) ⟨hx, hb, hml, hown, hts⟩ (mc_M_find l s0 dC dI cI cR cL cZ r n nw pb lc fr (nI (j + 1)) hR.1) ⟨(mr_cB 1 (hts (Cond.code y_M_find b_M_find 2 (some (.object "MeasureRows$Row"))) mw_117) (hts (Cond.initialized y_M_find.cls) mw_118) (hts (Cond.methodLink "MeasureRows" 111 y_M_find) mw_119) rfl rfl (by decide +kernel) ⟨Nat.le_of_ble_eq_true rfl, Nat.le_of_ble_eq_true rfl⟩), (hts (Cond.instanceMethod y_M_find) mw_120), (hts (Cond.selects "MeasureRows" y_M_find y_M_find) mw_121)⟩ (mr_preV hBH hK (hP.sub (ws' := [((r 0), .inr (0, mf_M r (nI n) nw pb lc)), ((r 4), .inl (cR, 80, .inr (.inr (.inr (.inr fr)))))]) [0, 4] rfl) (ci := 0) (q0 := 0) rfl rfl) rfl rfl hl.1 rfl (lv_room (Nat.le_of_ble_eq_true rfl)) d_M_gather_18 ⟨Nat.le_of_ble_eq_true rfl, Nat.le_of_ble_eq_true rfl⟩)) (fun r_2 h_3 => ?_)
    subst h_3
    rcases mr_fc hR (nI (j + 1)) with hf_8 | ⟨i_8, hi_8, hxe_8, a_8, ql_8, qk_8, v0_8, v1_8, v2_8, v4_8, v5_8, v6_8, v7_8, k_8, t_8, ld_8, kd_8, hf_8, hfi_8, m1_8, m2_8, m3_8, e1_8, e2_8, e3_8, hk_8, ht_8, ho_8, hne_8⟩
    · refine mr_topv (show va_rf (mv_M_find n fr (nI (j + 1))) = .null by rw [hf_8]; rfl) ?_
      refine lv_astoreN (lv' := [(8, .null), (7, .int (nI (j + 1))), (6, .int (nI q9)), (0, .ref (r 0)), (1, .ref (r 6)), (2, .int a1), (3, .int a2), (4, .int a3), (5, .int a4)]) hx hb d_M_gather_21 hl (by decide) rfl (fun ls hl => ?_)
      refine lv_aloadN hx hb d_M_gather_23 (lv_at hl 0 rfl) ?_
      refine lv_ifnullN (tgt := 81) hx hb d_M_gather_25 (by decide) ?_
      refine lv_iinc (v := nI ((j + 1) + 1)) (lv' := [(7, .int (nI ((j + 1) + 1))), (8, .null), (6, .int (nI q9)), (0, .ref (r 0)), (1, .ref (r 6)), (2, .int a1), (3, .int a2), (4, .int a3), (5, .int a4)]) hx hb d_M_gather_81 hl (k := 1) rfl ((nI_succ (j + 1)).symm) (by decide) rfl (fun ls hl => ?_)
      refine lv_goto (tgt := 6) hx hb d_M_gather_84 (by decide) ?_
      exact ih _ _ _ ⟨q9, ft9, by omega, hP, hD, hS, lv_sub hl [0, 2, 3, 4, 5, 6, 7, 8] rfl⟩
    · refine mr_topv (show va_rf (mv_M_find n fr (nI (j + 1))) = .ref a_8 by rw [hf_8]; rfl) ?_
      have hPr_8 := mr_row3 (X := [((r 0), .inr (0, mf_M r (nI n) nw pb lc)), ((r 1), .inr (1, [.ref (r 2), .ref (r 3)])), ((r 2), .inl (cI, 8, .inl fm)), ((r 3), .inl (cI, 8, .inl fi)), ((r 4), .inl (cR, 80, .inr (.inr (.inr (.inr fr))))), ((r 5), .inl (cI, 80, .inl fl)), ((r 6), .inl (cI, 80, .inl ft9)), ((r 7), .inl (cI, 8, .inl fg))]) hP m1_8 m2_8 m3_8 e1_8 e2_8 e3_8
      refine lv_astore (lv' := [(8, .ref a_8), (7, .int (nI (j + 1))), (6, .int (nI q9)), (0, .ref (r 0)), (1, .ref (r 6)), (2, .int a1), (3, .int a2), (4, .int a3), (5, .int a4)]) hx hb d_M_gather_21 hl (by decide) rfl (fun ls hl => ?_)
      refine lv_aload hx hb d_M_gather_23 (lv_at hl 0 rfl) ?_
      refine lv_ifnull hx hb d_M_gather_25 ?_
      refine lv_aload hx hb d_M_gather_28 (lv_at hl 0 rfl) ?_
      refine va_get (D := (dC, dI)) (ci := 2) (v := .int v5_8) (C := R_R) (T := T_R) (N := 11) hx hb hts ti_R hown hK hPr_8 0 rfl rfl 5 (by decide) (hts (Cond.fieldLink "MeasureRows" 170 "MeasureRows$Row" "known" "I") mw_153) (fun _ h9 => h9) rfl d_M_gather_30 ?_
      refine lv_iload hx hb d_M_gather_33 (lv_at hl 8 rfl) ?_
      refine lv_icmp_gt (tgt := 81) hx hb d_M_gather_35 (by decide) (fun c_4 => ?_) (fun c_4 => ?_)
      · refine lv_iinc (v := nI ((j + 1) + 1)) (lv' := [(7, .int (nI ((j + 1) + 1))), (8, .ref a_8), (6, .int (nI q9)), (0, .ref (r 0)), (1, .ref (r 6)), (2, .int a1), (3, .int a2), (4, .int a3), (5, .int a4)]) hx hb d_M_gather_81 hl (k := 1) rfl ((nI_succ (j + 1)).symm) (by decide) rfl (fun ls hl => ?_)
        refine lv_goto (tgt := 6) hx hb d_M_gather_84 (by decide) ?_
        exact ih _ _ _ ⟨q9, ft9, by omega, hP, hD, hS, lv_sub hl [0, 2, 3, 4, 5, 6, 7, 8] rfl⟩
      · refine lv_iload_n hx hb d_M_gather_38 rfl (lv_at hl 5 rfl) ?_
        refine lv_aload hx hb d_M_gather_39 (lv_at hl 0 rfl) ?_
        refine va_get (D := (dC, dI)) (ci := 2) (v := .int v0_8) (C := R_R) (T := T_R) (N := 11) hx hb hts ti_R hown hK hPr_8 0 rfl rfl 0 (by decide) (hts (Cond.fieldLink "MeasureRows" 155 "MeasureRows$Row" "code" "I") mw_147) (fun _ h9 => h9) rfl d_M_gather_41 ?_
        refine vp_callSi (va_Run.run (va_runS (As := [.int a1, .int v0_8]) (rest := []) ⟨hx, hb, hml, hown, hts⟩ (mc_M_isUnder l s0 a1 v0_8) ⟨(mr_cB 2 (hts (Cond.code y_M_isUnder b_M_isUnder 2 (some .boolean)) mw_200) (hts (Cond.initialized y_M_isUnder.cls) mw_201) (hts (Cond.methodLink "MeasureRows" 197 y_M_isUnder) mw_202) rfl rfl (by decide +kernel) ⟨Nat.le_of_ble_eq_true rfl, Nat.le_of_ble_eq_true rfl⟩), (hts (Cond.static y_M_isUnder) mw_203)⟩ (mr_pre0 hBH) rfl rfl hl.1 rfl (lv_room (Nat.le_of_ble_eq_true rfl)) d_M_gather_44 ⟨Nat.le_of_ble_eq_true rfl, Nat.le_of_ble_eq_true rfl⟩)) (fun r_5 h_6 => ?_)
        subst h_6
        refine lv_if_eq (tgt := 81) hx hb d_M_gather_47 (by decide) (fun c_7 => ?_) (fun c_7 => ?_)
        · refine lv_iinc (v := nI ((j + 1) + 1)) (lv' := [(7, .int (nI ((j + 1) + 1))), (8, .ref a_8), (6, .int (nI q9)), (0, .ref (r 0)), (1, .ref (r 6)), (2, .int a1), (3, .int a2), (4, .int a3), (5, .int a4)]) hx hb d_M_gather_81 hl (k := 1) rfl ((nI_succ (j + 1)).symm) (by decide) rfl (fun ls hl => ?_)
          refine lv_goto (tgt := 6) hx hb d_M_gather_84 (by decide) ?_
          exact ih _ _ _ ⟨q9, ft9, by omega, hP, hD, hS, lv_sub hl [0, 2, 3, 4, 5, 6, 7, 8] rfl⟩
        · refine lv_aload_n hx hb d_M_gather_50 rfl (lv_at hl 3 rfl) ?_
          refine lv_aload hx hb d_M_gather_51 (lv_at hl 0 rfl) ?_
          refine lv_iload_n hx hb d_M_gather_53 rfl (lv_at hl 6 rfl) ?_
          refine vp_callSi (va_Run.run (va_runV (As := [.ref a_8, .int a2]) (rest := []) (C := R_M) ⟨hx, hb, hml, hown, hts⟩ (mc_M_isOfLand l s0 dC dI cI cR cL cZ r n nw pb lc fi a_8 ql_8 qk_8 v0_8 v1_8 v2_8 v4_8 v5_8 v6_8 v7_8 (nI t_8) k_8 a2) ⟨(mr_cB 2 (hts (Cond.code y_M_isOfLand b_M_isOfLand 3 (some .boolean)) mw_204) (hts (Cond.initialized y_M_isOfLand.cls) mw_205) (hts (Cond.methodLink "MeasureRows" 200 y_M_isOfLand) mw_206) rfl rfl (by decide +kernel) ⟨Nat.le_of_ble_eq_true rfl, Nat.le_of_ble_eq_true rfl⟩), (hts (Cond.instanceMethod y_M_isOfLand) mw_207), (hts (Cond.selects "MeasureRows" y_M_isOfLand y_M_isOfLand) mw_208)⟩ (mr_preV hBH hK ((hP.sub (ws' := [((r 0), .inr (0, mf_M r (nI n) nw pb lc)), ((r 1), .inr (1, [.ref (r 2), .ref (r 3)])), ((r 3), .inl (cI, 8, .inl fi))]) [0, 1, 3] rfl).app (hPr_8.sub (ws' := [(a_8, .inr (2, [.int v0_8, .int v1_8, .int v2_8, .int (nI k_8), .int v4_8, .int v5_8, .int v6_8, .int v7_8, .int (nI t_8), .ref ql_8, .ref qk_8]))]) [0] rfl)) (ci := 0) (q0 := 0) rfl rfl) rfl rfl hl.1 rfl (lv_room (Nat.le_of_ble_eq_true rfl)) d_M_gather_54 ⟨Nat.le_of_ble_eq_true rfl, Nat.le_of_ble_eq_true rfl⟩)) (fun r_8 h_9 => ?_)
          refine lv_if_eq (tgt := 81) hx hb d_M_gather_57 (by decide) (fun c_10 => ?_) (fun c_10 => ?_)
          · refine lv_iinc (v := nI ((j + 1) + 1)) (lv' := [(7, .int (nI ((j + 1) + 1))), (8, .ref a_8), (6, .int (nI q9)), (0, .ref (r 0)), (1, .ref (r 6)), (2, .int a1), (3, .int a2), (4, .int a3), (5, .int a4)]) hx hb d_M_gather_81 hl (k := 1) rfl ((nI_succ (j + 1)).symm) (by decide) rfl (fun ls hl => ?_)
            refine lv_goto (tgt := 6) hx hb d_M_gather_84 (by decide) ?_
            exact ih _ _ _ ⟨q9, ft9, by omega, hP, hD, hS, lv_sub hl [0, 2, 3, 4, 5, 6, 7, 8] rfl⟩
          · refine lv_aload hx hb d_M_gather_60 (lv_at hl 0 rfl) ?_
            refine lv_iload hx hb d_M_gather_62 (lv_at hl 7 rfl) ?_
            refine lv_iload hx hb d_M_gather_64 (lv_at hl 8 rfl) ?_
            refine vp_callSi (va_Run.run (va_runV (As := [.int a3, .int a4]) (rest := []) (C := R_R) ⟨hx, hb, hml, hown, hts⟩ (mc_R_lastsOn l s0 dC dI cI cR cL cZ a_8 ql_8 qk_8 v0_8 v1_8 v2_8 (nI k_8) v4_8 v5_8 v6_8 v7_8 t_8 ld_8 kd_8 a3 a4 ht_8) ⟨(mr_cB 2 (hts (Cond.code y_R_lastsOn b_R_lastsOn 3 (some .boolean)) mw_141) (hts (Cond.initialized y_R_lastsOn.cls) mw_142) (hts (Cond.methodLink "MeasureRows" 152 y_R_lastsOn) mw_143) rfl rfl (by decide +kernel) ⟨Nat.le_of_ble_eq_true rfl, Nat.le_of_ble_eq_true rfl⟩), (hts (Cond.instanceMethod y_R_lastsOn) mw_144), (hts (Cond.selects "MeasureRows$Row" y_R_lastsOn y_R_lastsOn) mw_145)⟩ (mr_preV hBH hK (hPr_8.sub (ws' := [(a_8, .inr (2, [.int v0_8, .int v1_8, .int v2_8, .int (nI k_8), .int v4_8, .int v5_8, .int v6_8, .int v7_8, .int (nI t_8), .ref ql_8, .ref qk_8])), (ql_8, .inl (cI, 8, .inl ld_8)), (qk_8, .inl (cI, 8, .inl kd_8))]) [0, 1, 2] rfl) (ci := 2) (q0 := 0) rfl rfl) rfl rfl hl.1 rfl (lv_room (Nat.le_of_ble_eq_true rfl)) d_M_gather_66 ⟨Nat.le_of_ble_eq_true rfl, Nat.le_of_ble_eq_true rfl⟩)) (fun r_11 h_12 => ?_)
            subst h_12
            refine lv_if_eq (tgt := 81) hx hb d_M_gather_69 (by decide) (fun c_13 => ?_) (fun c_13 => ?_)
            · refine lv_iinc (v := nI ((j + 1) + 1)) (lv' := [(7, .int (nI ((j + 1) + 1))), (8, .ref a_8), (6, .int (nI q9)), (0, .ref (r 0)), (1, .ref (r 6)), (2, .int a1), (3, .int a2), (4, .int a3), (5, .int a4)]) hx hb d_M_gather_81 hl (k := 1) rfl ((nI_succ (j + 1)).symm) (by decide) rfl (fun ls hl => ?_)
              refine lv_goto (tgt := 6) hx hb d_M_gather_84 (by decide) ?_
              exact ih _ _ _ ⟨q9, ft9, by omega, hP, hD, hS, lv_sub hl [0, 2, 3, 4, 5, 6, 7, 8] rfl⟩
            · refine lv_aload_n hx hb d_M_gather_72 rfl (lv_at hl 4 rfl) ?_
              refine lv_iload hx hb d_M_gather_73 (lv_at hl 2 rfl) ?_
              refine lv_iload hx hb d_M_gather_75 (lv_at hl 1 rfl) ?_
              refine va_iast (D := (dC, dI)) hx hb hK hP hD hS 6 0 rfl rfl (i := nI q9) (nI_in (by have := hR.1; omega) (by decide)) d_M_gather_77 (fun H locs hP hD hS => ?_)
              have hP : va_P (dC, dI) mr_cl ([((r 0), .inr (0, mf_M r (nI n) nw pb lc)), ((r 1), .inr (1, [.ref (r 2), .ref (r 3)])), ((r 2), .inl (cI, 8, .inl fm)), ((r 3), .inl (cI, 8, .inl fi)), ((r 4), .inl (cR, 80, .inr (.inr (.inr (.inr fr))))), ((r 5), .inl (cI, 80, .inl fl)), ((r 6), .inl (cI, 80, .inl (upd ft9 (nI q9).toNatClampNeg (nI (j + 1))))), ((r 7), .inl (cI, 8, .inl fg))] ++ va_pl L f) H := hP
              have hD : va_D A ([((r 0), .inr (0, mf_M r (nI n) nw pb lc)), ((r 1), .inr (1, [.ref (r 2), .ref (r 3)])), ((r 2), .inl (cI, 8, .inl fm)), ((r 3), .inl (cI, 8, .inl fi)), ((r 4), .inl (cR, 80, .inr (.inr (.inr (.inr fr))))), ((r 5), .inl (cI, 80, .inl fl)), ((r 6), .inl (cI, 80, .inl (upd ft9 (nI q9).toNatClampNeg (nI (j + 1))))), ((r 7), .inl (cI, 8, .inl fg))] ++ va_pl L f) := hD
              have hBH := hB.at hS hA0
              have hPr_8 := mr_row3 (X := [((r 0), .inr (0, mf_M r (nI n) nw pb lc)), ((r 1), .inr (1, [.ref (r 2), .ref (r 3)])), ((r 2), .inl (cI, 8, .inl fm)), ((r 3), .inl (cI, 8, .inl fi)), ((r 4), .inl (cR, 80, .inr (.inr (.inr (.inr fr))))), ((r 5), .inl (cI, 80, .inl fl)), ((r 6), .inl (cI, 80, .inl (upd ft9 (nI q9).toNatClampNeg (nI (j + 1))))), ((r 7), .inl (cI, 8, .inl fg))]) hP m1_8 m2_8 m3_8 e1_8 e2_8 e3_8
              refine lv_iinc (v := nI (q9 + 1)) (lv' := [(6, .int (nI (q9 + 1))), (8, .ref a_8), (7, .int (nI (j + 1))), (0, .ref (r 0)), (1, .ref (r 6)), (2, .int a1), (3, .int a2), (4, .int a3), (5, .int a4)]) hx hb d_M_gather_78 hl (k := 2) rfl ((nI_succ q9).symm) (by decide) rfl (fun ls hl => ?_)
              refine lv_iinc (v := nI ((j + 1) + 1)) (lv' := [(7, .int (nI ((j + 1) + 1))), (6, .int (nI (q9 + 1))), (8, .ref a_8), (0, .ref (r 0)), (1, .ref (r 6)), (2, .int a1), (3, .int a2), (4, .int a3), (5, .int a4)]) hx hb d_M_gather_81 hl (k := 2) rfl ((nI_succ (j + 1)).symm) (by decide) rfl (fun ls hl => ?_)
              refine lv_goto (tgt := 6) hx hb d_M_gather_84 (by decide) ?_
              exact ih _ _ _ ⟨(q9 + 1), (upd ft9 (nI q9).toNatClampNeg (nI (j + 1))), by omega, hP, hD, hS, lv_sub hl [0, 1, 3, 4, 5, 6, 7, 8] rfl⟩
  · obtain ⟨q9, ft9, hexj, hP, hD, hS, hl⟩ := hI9
    have hBH := hB.at hS hA0
    refine lv_iload hx hb d_M_gather_6 (lv_at hl 0 rfl) ?_
    refine lv_aload_n hx hb d_M_gather_8 rfl (lv_at hl 2 rfl) ?_
    refine va_get (D := (dC, dI)) (ci := 0) (v := .int (nI n)) (C := R_M) (T := T_M) (N := 9) hx hb hts ti_M hown hK hP 0 rfl rfl 2 (by decide) (hts (Cond.fieldLink "MeasureRows" 22 "MeasureRows" "rowCount" "I") mw_57) (fun _ h9 => h9) rfl d_M_gather_9 ?_
    refine lv_icmp_gt (tgt := 87) hx hb d_M_gather_12 (by decide) (fun _ => ?_) (fun c_14 => absurd (nI_lt (by omega) (by have := hR.1; omega)) c_14)
    refine lv_iload hx hb d_M_gather_87 (lv_at hl 1 rfl) ?_
    have hP9 := hP
    have hD9 := hD
    exact W.iret (v := nI q9) hx hb hr (fun t ht hW => ⟨⟨_, (q9, ft9), rfl, ⟨rfl, hexj⟩, by rw [ht]; exact hP9, va_K.moved hW.alike hK, hD9⟩, hS.F ht⟩) hS.2.2 d_M_gather_89
end
section
theorem mr_Afree {A : Nat → Prop} {ws : va_W} {H0 H : Heap} {locs : List Loc} (hD : va_D A ws) (hS : va_S A H0 H locs) (hA : ∀ q, H0.size ≤ q → A q) : ∀ q, va_A ws H.size q → A q := fun q h => by
  rcases h with ⟨k, e, hk⟩ | h
  · exact hD.2 k _ hk
  · exact hA q (Nat.le_trans hS.1 h)
theorem mw_209 : Cond.code y_R_isContentWith b_R_isContentWith 2 (some .boolean) ∈ lw_tbl := by decide +kernel
theorem mw_210 : Cond.initialized y_R_isContentWith.cls ∈ lw_tbl := by decide +kernel
theorem mw_211 : Cond.methodLink "MeasureRows" 207 y_R_isContentWith ∈ lw_tbl := by decide +kernel
theorem mw_212 : Cond.instanceMethod y_R_isContentWith ∈ lw_tbl := by decide +kernel
theorem mw_213 : Cond.selects "MeasureRows$Row" y_R_isContentWith y_R_isContentWith ∈ lw_tbl := by decide +kernel
set_option maxHeartbeats 4000000 in
set_option maxRecDepth 100000 in
theorem mc_M_keepWithPapers (l : Launch) (s0 : State) (dC : Nat → ClassId) (dI : Nat → Nat → Nat) (cI cR cL cZ : ClassId) (r : Nat → Nat) (n : Nat) (nw pb lc : Int32) (fm fi : Nat → Int32) (fr : Nat → Option Nat) (fl fc fg : Nat → Int32) (L : List Nat) (f : Nat → va_E) (cc : Nat) (sz : Nat)  (hc : cc ≤ 80) (hR : mr_RI cI n L f fr) : Met l y_M_keepWithPapers [Cond.code y_M_keepWithPapers b_M_keepWithPapers 5 (some .int)] ({ frames := 1, cells := 0, slots := 0, locals := 21 }) (mr_PC s0 (dC, dI) [(cI, .int), (cR, .object "MeasureRows$Row"), (cL, .long), (cZ, .boolean)] [.ref (r 0), .int (nI cc)] ([((r 0), .inr (0, mf_M r (nI n) nw pb lc)), ((r 1), .inr (1, [.ref (r 2), .ref (r 3)])), ((r 2), .inl (cI, 8, .inl fm)), ((r 3), .inl (cI, 8, .inl fi)), ((r 4), .inl (cR, 80, .inr (.inr (.inr (.inr fr))))), ((r 5), .inl (cI, 80, .inl fl)), ((r 6), .inl (cI, 80, .inl fc)), ((r 7), .inl (cI, 8, .inl fg))] ++ va_pl L f) sz) (va_Qi (fun rr u => rr = nI u.1 ∧ u.1 ≤ cc) (fun (u : Nat × (Nat → Int32)) t => mr_W (dC, dI) [(cI, .int), (cR, .object "MeasureRows$Row"), (cL, .long), (cZ, .boolean)] (va_A ([((r 0), .inr (0, mf_M r (nI n) nw pb lc)), ((r 1), .inr (1, [.ref (r 2), .ref (r 3)])), ((r 2), .inl (cI, 8, .inl fm)), ((r 3), .inl (cI, 8, .inl fi)), ((r 4), .inl (cR, 80, .inr (.inr (.inr (.inr fr))))), ((r 5), .inl (cI, 80, .inl fl)), ((r 6), .inl (cI, 80, .inl fc)), ((r 7), .inl (cI, 8, .inl fg))] ++ va_pl L f) sz) ([((r 0), .inr (0, mf_M r (nI n) nw pb lc)), ((r 1), .inr (1, [.ref (r 2), .ref (r 3)])), ((r 2), .inl (cI, 8, .inl fm)), ((r 3), .inl (cI, 8, .inl fi)), ((r 4), .inl (cR, 80, .inr (.inr (.inr (.inr fr))))), ((r 5), .inl (cI, 80, .inl fl)), ((r 6), .inl (cI, 80, .inl u.2)), ((r 7), .inl (cI, 8, .inl fg))] ++ va_pl L f) t) (va_A ([((r 0), .inr (0, mf_M r (nI n) nw pb lc)), ((r 1), .inr (1, [.ref (r 2), .ref (r 3)])), ((r 2), .inl (cI, 8, .inl fm)), ((r 3), .inl (cI, 8, .inl fi)), ((r 4), .inl (cR, 80, .inr (.inr (.inr (.inr fr))))), ((r 5), .inl (cI, 80, .inl fl)), ((r 6), .inl (cI, 80, .inl fc)), ((r 7), .inl (cI, 8, .inl fg))] ++ va_pl L f) sz)) 0 0 (va_A ([((r 0), .inr (0, mf_M r (nI n) nw pb lc)), ((r 1), .inr (1, [.ref (r 2), .ref (r 3)])), ((r 2), .inl (cI, 8, .inl fm)), ((r 3), .inl (cI, 8, .inl fi)), ((r 4), .inl (cR, 80, .inr (.inr (.inr (.inr fr))))), ((r 5), .inl (cI, 80, .inl fl)), ((r 6), .inl (cI, 80, .inl fc)), ((r 7), .inl (cI, 8, .inl fg))] ++ va_pl L f) sz) := by
  refine Met.ofW (cc := b_M_keepWithPapers) (maxL := 5) (ret := (some .int)) (by decide) rfl ?_
  intro p e s m args below meth c s₁ B hml hv
  obtain ⟨rfl, hsz, hB, hK, hP, hD0⟩ := hv
  subst hsz
  have hA0 := mr_A hB hD0
  have hD := hD0.self (sz := s.heap.size)
  generalize hAe : va_A ([((r 0), .inr (0, mf_M r (nI n) nw pb lc)), ((r 1), .inr (1, [.ref (r 2), .ref (r 3)])), ((r 2), .inl (cI, 8, .inl fm)), ((r 3), .inl (cI, 8, .inl fi)), ((r 4), .inl (cR, 80, .inr (.inr (.inr (.inr fr))))), ((r 5), .inl (cI, 80, .inl fl)), ((r 6), .inl (cI, 80, .inl fc)), ((r 7), .inl (cI, 8, .inl fg))] ++ va_pl L f) s.heap.size = A at hD hA0 ⊢
  have hA : ∀ q : Nat, s.heap.size ≤ q → A q := fun q h => by rw [← hAe]; exact Or.inr h
  have hS : va_S A s.heap s.heap [] := va_S.rf
  have hP : va_P (dC, dI) mr_cl ([((r 0), .inr (0, mf_M r (nI n) nw pb lc)), ((r 1), .inr (1, [.ref (r 2), .ref (r 3)])), ((r 2), .inl (cI, 8, .inl fm)), ((r 3), .inl (cI, 8, .inl fi)), ((r 4), .inl (cR, 80, .inr (.inr (.inr (.inr fr))))), ((r 5), .inl (cI, 80, .inl fl)), ((r 6), .inl (cI, 80, .inl fc)), ((r 7), .inl (cI, 8, .inl fg))] ++ va_pl L f) s.heap := hP
  have hBH := hB.at hS hA0
  have hx := B.exec
  have hb := B.bytes
  have hr := B.returns
  have hlocks := B.notSynchronized
  have hts : ∀ w ∈ lw_tbl, w.before [.ref (r 0), .int (nI cc)].toArray s = true := hB.hts _
  have hown : s.vm.findClass "MeasureRows" = some m.cls := findClass_of_methodNamed B.named
  have hl := lv_entry ([.ref (r 0), .int (nI cc)]) (n := 5) (Nat.le_of_ble_eq_true rfl)
  rw [lg_entry_eq]
  generalize (lg_sl ([.ref (r 0), .int (nI cc)]) ++ List.replicate (5 - (lg_sl ([.ref (r 0), .int (nI cc)])).length) Slot.unset).toArray = ls at hl ⊢
  have hl : lv_has ls 5 [(0, .ref (r 0)), (1, .int (nI cc))] := hl
  refine lv_iconst (v := 0) hx hb d_M_keepWithPapers_0 (by decide) ?_
  refine lv_istore_n (lv' := [(2, .int 0), (0, .ref (r 0)), (1, .int (nI cc))]) hx hb d_M_keepWithPapers_1 rfl hl (by decide) rfl (fun ls hl => ?_)
  refine lv_iconst (v := 0) hx hb d_M_keepWithPapers_2 (by decide) ?_
  refine lv_istore_n (lv' := [(3, .int 0), (2, .int 0), (0, .ref (r 0)), (1, .int (nI cc))]) hx hb d_M_keepWithPapers_3 rfl hl (by decide) rfl (fun ls hl => ?_)
  refine mr_loop (N := cc) (I := fun j H locs ls => ∃ q9 : Nat, ∃ ft9 : Nat → Int32, q9 ≤ j ∧ va_P (dC, dI) mr_cl ([((r 0), .inr (0, mf_M r (nI n) nw pb lc)), ((r 1), .inr (1, [.ref (r 2), .ref (r 3)])), ((r 2), .inl (cI, 8, .inl fm)), ((r 3), .inl (cI, 8, .inl fi)), ((r 4), .inl (cR, 80, .inr (.inr (.inr (.inr fr))))), ((r 5), .inl (cI, 80, .inl fl)), ((r 6), .inl (cI, 80, .inl ft9)), ((r 7), .inl (cI, 8, .inl fg))] ++ va_pl L f) H ∧ va_D A ([((r 0), .inr (0, mf_M r (nI n) nw pb lc)), ((r 1), .inr (1, [.ref (r 2), .ref (r 3)])), ((r 2), .inl (cI, 8, .inl fm)), ((r 3), .inl (cI, 8, .inl fi)), ((r 4), .inl (cR, 80, .inr (.inr (.inr (.inr fr))))), ((r 5), .inl (cI, 80, .inl fl)), ((r 6), .inl (cI, 80, .inl ft9)), ((r 7), .inl (cI, 8, .inl fg))] ++ va_pl L f) ∧ va_S A s.heap H locs ∧ lv_has ls 5 [(3, .int (nI j)), (2, .int (nI q9)), (0, .ref (r 0)), (1, .int (nI cc))]) (fun j H locs ls hj hI9 ih => ?_) (fun H locs ls hI9 => ?_) 0 _ _ _ (Nat.zero_le _) ⟨0, fc, Nat.le_refl 0, hP, hD, hS, (lv_sub hl [0, 1, 2, 3] rfl)⟩
  · obtain ⟨q9, ft9, hexj, hP, hD, hS, hl⟩ := hI9
    have hBH := hB.at hS hA0
    refine lv_iload_n hx hb d_M_keepWithPapers_4 rfl (lv_at hl 0 rfl) ?_
    refine lv_iload_n hx hb d_M_keepWithPapers_5 rfl (lv_at hl 3 rfl) ?_
    refine lv_icmp_ge (tgt := 59) hx hb d_M_keepWithPapers_6 (by decide) (fun c_1 => absurd c_1 (nI_ge hj (by omega))) (fun _ => ?_)
    refine lv_aload_n hx hb d_M_keepWithPapers_9 rfl (lv_at hl 2 rfl) ?_
    refine lv_aload_n hx hb d_M_keepWithPapers_10 rfl (lv_at hl 2 rfl) ?_
    refine va_get (D := (dC, dI)) (ci := 0) (v := .ref (r 6)) (C := R_M) (T := T_M) (N := 9) hx hb hts ti_M hown hK hP 0 rfl rfl 7 (by decide) (hts (Cond.fieldLink "MeasureRows" 39 "MeasureRows" "candidates" "[I") mw_62) (fun _ h9 => h9) rfl d_M_keepWithPapers_11 ?_
    refine lv_iload_n hx hb d_M_keepWithPapers_14 rfl (lv_at hl 0 rfl) ?_
    refine va_iald (D := (dC, dI)) hx hb hK hP 6 0 rfl rfl (i := nI j) (nI_in (by omega) (by decide)) d_M_keepWithPapers_15 ?_
    refine mr_top (show ft9 (nI j).toNatClampNeg = ft9 j by rw [nI_clamp (by omega)]) ?_
    refine va_csq (va_Run.run (va_runV (As := [.int (ft9 j)]) (rest := []) (C := R_M) ⟨hx, hb, hml, hown, hts⟩ (mc_M_find l s0 dC dI cI cR cL cZ r n nw pb lc fr (ft9 j) hR.1) ⟨(mr_cB 1 (hts (Cond.code y_M_find b_M_find 2 (some (.object "MeasureRows$Row"))) mw_117) (hts (Cond.initialized y_M_find.cls) mw_118) (hts (Cond.methodLink "MeasureRows" 111 y_M_find) mw_119) rfl rfl (by decide +kernel) ⟨Nat.le_of_ble_eq_true rfl, Nat.le_of_ble_eq_true rfl⟩), (hts (Cond.instanceMethod y_M_find) mw_120), (hts (Cond.selects "MeasureRows" y_M_find y_M_find) mw_121)⟩ (mr_preV hBH hK (hP.sub (ws' := [((r 0), .inr (0, mf_M r (nI n) nw pb lc)), ((r 4), .inl (cR, 80, .inr (.inr (.inr (.inr fr)))))]) [0, 4] rfl) (ci := 0) (q0 := 0) rfl rfl) rfl rfl hl.1 rfl (lv_room (Nat.le_of_ble_eq_true rfl)) d_M_keepWithPapers_16 ⟨Nat.le_of_ble_eq_true rfl, Nat.le_of_ble_eq_true rfl⟩)) (fun r_2 h_3 => ?_)
    subst h_3
    rcases mr_fc hR (ft9 j) with hf_9 | ⟨i_9, hi_9, hxe_9, a_9, ql_9, qk_9, v0_9, v1_9, v2_9, v4_9, v5_9, v6_9, v7_9, k_9, t_9, ld_9, kd_9, hf_9, hfi_9, m1_9, m2_9, m3_9, e1_9, e2_9, e3_9, hk_9, ht_9, ho_9, hne_9⟩
    · refine mr_topv (show va_rf (mv_M_find n fr (ft9 j)) = .null by rw [hf_9]; rfl) ?_
      refine lv_astoreN (lv' := [(4, .null), (3, .int (nI j)), (2, .int (nI q9)), (0, .ref (r 0)), (1, .int (nI cc))]) hx hb d_M_keepWithPapers_19 hl (by decide) rfl (fun ls hl => ?_)
      refine lv_aloadN hx hb d_M_keepWithPapers_21 (lv_at hl 0 rfl) ?_
      refine lv_ifnullN (tgt := 53) hx hb d_M_keepWithPapers_23 (by decide) ?_
      refine lv_iinc (v := nI (j + 1)) (lv' := [(3, .int (nI (j + 1))), (4, .null), (2, .int (nI q9)), (0, .ref (r 0)), (1, .int (nI cc))]) hx hb d_M_keepWithPapers_53 hl (k := 1) rfl ((nI_succ j).symm) (by decide) rfl (fun ls hl => ?_)
      refine lv_goto (tgt := 4) hx hb d_M_keepWithPapers_56 (by decide) ?_
      exact ih _ _ _ ⟨q9, ft9, by omega, hP, hD, hS, lv_sub hl [0, 2, 3, 4] rfl⟩
    · refine mr_topv (show va_rf (mv_M_find n fr (ft9 j)) = .ref a_9 by rw [hf_9]; rfl) ?_
      have hPr_9 := mr_row3 (X := [((r 0), .inr (0, mf_M r (nI n) nw pb lc)), ((r 1), .inr (1, [.ref (r 2), .ref (r 3)])), ((r 2), .inl (cI, 8, .inl fm)), ((r 3), .inl (cI, 8, .inl fi)), ((r 4), .inl (cR, 80, .inr (.inr (.inr (.inr fr))))), ((r 5), .inl (cI, 80, .inl fl)), ((r 6), .inl (cI, 80, .inl ft9)), ((r 7), .inl (cI, 8, .inl fg))]) hP m1_9 m2_9 m3_9 e1_9 e2_9 e3_9
      refine lv_astore (lv' := [(4, .ref a_9), (3, .int (nI j)), (2, .int (nI q9)), (0, .ref (r 0)), (1, .int (nI cc))]) hx hb d_M_keepWithPapers_19 hl (by decide) rfl (fun ls hl => ?_)
      refine lv_aload hx hb d_M_keepWithPapers_21 (lv_at hl 0 rfl) ?_
      refine lv_ifnull hx hb d_M_keepWithPapers_23 ?_
      refine lv_aload hx hb d_M_keepWithPapers_26 (lv_at hl 0 rfl) ?_
      refine lv_aload_n hx hb d_M_keepWithPapers_28 rfl (lv_at hl 3 rfl) ?_
      refine va_get (D := (dC, dI)) (ci := 0) (v := .int pb) (C := R_M) (T := T_M) (N := 9) hx hb hts ti_M hown hK hP 0 rfl rfl 4 (by decide) (hts (Cond.fieldLink "MeasureRows" 29 "MeasureRows" "paperBits" "I") mw_59) (fun _ h9 => h9) rfl d_M_keepWithPapers_29 ?_
      refine vp_callSi (va_Run.run (va_runV (As := [.int pb]) (rest := []) (C := R_R) ⟨hx, hb, hml, hown, hts⟩ (mc_R_isContentWith l s0 dC dI cI cR cL cZ a_9 ql_9 qk_9 v0_9 v1_9 v2_9 (nI k_9) v4_9 v5_9 v6_9 v7_9 (nI t_9) pb) ⟨(mr_cB 1 (hts (Cond.code y_R_isContentWith b_R_isContentWith 2 (some .boolean)) mw_209) (hts (Cond.initialized y_R_isContentWith.cls) mw_210) (hts (Cond.methodLink "MeasureRows" 207 y_R_isContentWith) mw_211) rfl rfl (by decide +kernel) ⟨Nat.le_of_ble_eq_true rfl, Nat.le_of_ble_eq_true rfl⟩), (hts (Cond.instanceMethod y_R_isContentWith) mw_212), (hts (Cond.selects "MeasureRows$Row" y_R_isContentWith y_R_isContentWith) mw_213)⟩ (mr_preV hBH hK (hPr_9.sub (ws' := [(a_9, .inr (2, [.int v0_9, .int v1_9, .int v2_9, .int (nI k_9), .int v4_9, .int v5_9, .int v6_9, .int v7_9, .int (nI t_9), .ref ql_9, .ref qk_9]))]) [0] rfl) (ci := 2) (q0 := 0) rfl rfl) rfl rfl hl.1 rfl (lv_room (Nat.le_of_ble_eq_true rfl)) d_M_keepWithPapers_32 ⟨Nat.le_of_ble_eq_true rfl, Nat.le_of_ble_eq_true rfl⟩)) (fun r_4 h_5 => ?_)
      subst h_5
      refine lv_if_eq (tgt := 53) hx hb d_M_keepWithPapers_35 (by decide) (fun c_6 => ?_) (fun c_6 => ?_)
      · refine lv_iinc (v := nI (j + 1)) (lv' := [(3, .int (nI (j + 1))), (4, .ref a_9), (2, .int (nI q9)), (0, .ref (r 0)), (1, .int (nI cc))]) hx hb d_M_keepWithPapers_53 hl (k := 1) rfl ((nI_succ j).symm) (by decide) rfl (fun ls hl => ?_)
        refine lv_goto (tgt := 4) hx hb d_M_keepWithPapers_56 (by decide) ?_
        exact ih _ _ _ ⟨q9, ft9, by omega, hP, hD, hS, lv_sub hl [0, 2, 3, 4] rfl⟩
      · refine lv_aload_n hx hb d_M_keepWithPapers_38 rfl (lv_at hl 3 rfl) ?_
        refine va_get (D := (dC, dI)) (ci := 0) (v := .ref (r 6)) (C := R_M) (T := T_M) (N := 9) hx hb hts ti_M hown hK hP 0 rfl rfl 7 (by decide) (hts (Cond.fieldLink "MeasureRows" 39 "MeasureRows" "candidates" "[I") mw_62) (fun _ h9 => h9) rfl d_M_keepWithPapers_39 ?_
        refine lv_iload_n hx hb d_M_keepWithPapers_42 rfl (lv_at hl 2 rfl) ?_
        refine lv_aload_n hx hb d_M_keepWithPapers_43 rfl (lv_at hl 3 rfl) ?_
        refine va_get (D := (dC, dI)) (ci := 0) (v := .ref (r 6)) (C := R_M) (T := T_M) (N := 9) hx hb hts ti_M hown hK hP 0 rfl rfl 7 (by decide) (hts (Cond.fieldLink "MeasureRows" 39 "MeasureRows" "candidates" "[I") mw_62) (fun _ h9 => h9) rfl d_M_keepWithPapers_44 ?_
        refine lv_iload_n hx hb d_M_keepWithPapers_47 rfl (lv_at hl 1 rfl) ?_
        refine va_iald (D := (dC, dI)) hx hb hK hP 6 0 rfl rfl (i := nI j) (nI_in (by omega) (by decide)) d_M_keepWithPapers_48 ?_
        refine mr_top (show ft9 (nI j).toNatClampNeg = ft9 j by rw [nI_clamp (by omega)]) ?_
        refine va_iast (D := (dC, dI)) hx hb hK hP hD hS 6 0 rfl rfl (i := nI q9) (nI_in (by omega) (by decide)) d_M_keepWithPapers_49 (fun H locs hP hD hS => ?_)
        have hP : va_P (dC, dI) mr_cl ([((r 0), .inr (0, mf_M r (nI n) nw pb lc)), ((r 1), .inr (1, [.ref (r 2), .ref (r 3)])), ((r 2), .inl (cI, 8, .inl fm)), ((r 3), .inl (cI, 8, .inl fi)), ((r 4), .inl (cR, 80, .inr (.inr (.inr (.inr fr))))), ((r 5), .inl (cI, 80, .inl fl)), ((r 6), .inl (cI, 80, .inl (upd ft9 (nI q9).toNatClampNeg (ft9 j)))), ((r 7), .inl (cI, 8, .inl fg))] ++ va_pl L f) H := hP
        have hD : va_D A ([((r 0), .inr (0, mf_M r (nI n) nw pb lc)), ((r 1), .inr (1, [.ref (r 2), .ref (r 3)])), ((r 2), .inl (cI, 8, .inl fm)), ((r 3), .inl (cI, 8, .inl fi)), ((r 4), .inl (cR, 80, .inr (.inr (.inr (.inr fr))))), ((r 5), .inl (cI, 80, .inl fl)), ((r 6), .inl (cI, 80, .inl (upd ft9 (nI q9).toNatClampNeg (ft9 j)))), ((r 7), .inl (cI, 8, .inl fg))] ++ va_pl L f) := hD
        have hBH := hB.at hS hA0
        have hPr_9 := mr_row3 (X := [((r 0), .inr (0, mf_M r (nI n) nw pb lc)), ((r 1), .inr (1, [.ref (r 2), .ref (r 3)])), ((r 2), .inl (cI, 8, .inl fm)), ((r 3), .inl (cI, 8, .inl fi)), ((r 4), .inl (cR, 80, .inr (.inr (.inr (.inr fr))))), ((r 5), .inl (cI, 80, .inl fl)), ((r 6), .inl (cI, 80, .inl (upd ft9 (nI q9).toNatClampNeg (ft9 j)))), ((r 7), .inl (cI, 8, .inl fg))]) hP m1_9 m2_9 m3_9 e1_9 e2_9 e3_9
        refine lv_iinc (v := nI (q9 + 1)) (lv' := [(2, .int (nI (q9 + 1))), (4, .ref a_9), (3, .int (nI j)), (0, .ref (r 0)), (1, .int (nI cc))]) hx hb d_M_keepWithPapers_50 hl (k := 2) rfl ((nI_succ q9).symm) (by decide) rfl (fun ls hl => ?_)
        refine lv_iinc (v := nI (j + 1)) (lv' := [(3, .int (nI (j + 1))), (2, .int (nI (q9 + 1))), (4, .ref a_9), (0, .ref (r 0)), (1, .int (nI cc))]) hx hb d_M_keepWithPapers_53 hl (k := 2) rfl ((nI_succ j).symm) (by decide) rfl (fun ls hl => ?_)
        refine lv_goto (tgt := 4) hx hb d_M_keepWithPapers_56 (by decide) ?_
        exact ih _ _ _ ⟨(q9 + 1), (upd ft9 (nI q9).toNatClampNeg (ft9 j)), by omega, hP, hD, hS, lv_sub hl [0, 1, 3, 4] rfl⟩
  · obtain ⟨q9, ft9, hexj, hP, hD, hS, hl⟩ := hI9
    have hBH := hB.at hS hA0
    refine lv_iload_n hx hb d_M_keepWithPapers_4 rfl (lv_at hl 0 rfl) ?_
    refine lv_iload_n hx hb d_M_keepWithPapers_5 rfl (lv_at hl 3 rfl) ?_
    refine lv_icmp_ge (tgt := 59) hx hb d_M_keepWithPapers_6 (by decide) (fun _ => ?_) (fun c_7 => absurd (Int32.le_refl _) c_7)
    refine lv_iload_n hx hb d_M_keepWithPapers_59 rfl (lv_at hl 1 rfl) ?_
    have hP9 := hP
    have hD9 := hD
    exact W.iret (v := nI q9) hx hb hr (fun t ht hW => ⟨⟨_, (q9, ft9), rfl, ⟨rfl, hexj⟩, by rw [ht]; exact hP9, va_K.moved hW.alike hK, hD9⟩, hS.F ht⟩) hS.2.2 d_M_keepWithPapers_60
set_option maxHeartbeats 4000000 in
set_option maxRecDepth 100000 in
theorem mc_M_weighKinds (l : Launch) (s0 : State) (dC : Nat → ClassId) (dI : Nat → Nat → Nat) (cI cR cL cZ : ClassId) (r : Nat → Nat) (n : Nat) (nw pb lc : Int32) (fm fi : Nat → Int32) (fr : Nat → Option Nat) (fl fc fg : Nat → Int32) (L : List Nat) (f : Nat → va_E) (cc : Nat) (sz : Nat)  (hc : cc ≤ 80) (hR : mr_RI cI n L f fr) : Met l y_M_weighKinds [Cond.code y_M_weighKinds b_M_weighKinds 4 none] ({ frames := 2, cells := 0, slots := 0, locals := 40 }) (mr_PC s0 (dC, dI) [(cI, .int), (cR, .object "MeasureRows$Row"), (cL, .long), (cZ, .boolean)] [.ref (r 0), .int (nI cc)] ([((r 0), .inr (0, mf_M r (nI n) nw pb lc)), ((r 1), .inr (1, [.ref (r 2), .ref (r 3)])), ((r 2), .inl (cI, 8, .inl fm)), ((r 3), .inl (cI, 8, .inl fi)), ((r 4), .inl (cR, 80, .inr (.inr (.inr (.inr fr))))), ((r 5), .inl (cI, 80, .inl fl)), ((r 6), .inl (cI, 80, .inl fc)), ((r 7), .inl (cI, 8, .inl fg))] ++ va_pl L f) sz) (va_Qv (fun _ => True) (fun (u : Nat → Int32) t => mr_W (dC, dI) [(cI, .int), (cR, .object "MeasureRows$Row"), (cL, .long), (cZ, .boolean)] (va_A ([((r 0), .inr (0, mf_M r (nI n) nw pb lc)), ((r 1), .inr (1, [.ref (r 2), .ref (r 3)])), ((r 2), .inl (cI, 8, .inl fm)), ((r 3), .inl (cI, 8, .inl fi)), ((r 4), .inl (cR, 80, .inr (.inr (.inr (.inr fr))))), ((r 5), .inl (cI, 80, .inl fl)), ((r 6), .inl (cI, 80, .inl fc)), ((r 7), .inl (cI, 8, .inl fg))] ++ va_pl L f) sz) ([((r 0), .inr (0, mf_M r (nI n) nw pb lc)), ((r 1), .inr (1, [.ref (r 2), .ref (r 3)])), ((r 2), .inl (cI, 8, .inl fm)), ((r 3), .inl (cI, 8, .inl fi)), ((r 4), .inl (cR, 80, .inr (.inr (.inr (.inr fr))))), ((r 5), .inl (cI, 80, .inl fl)), ((r 6), .inl (cI, 80, .inl fc)), ((r 7), .inl (cI, 8, .inl u))] ++ va_pl L f) t) (va_A ([((r 0), .inr (0, mf_M r (nI n) nw pb lc)), ((r 1), .inr (1, [.ref (r 2), .ref (r 3)])), ((r 2), .inl (cI, 8, .inl fm)), ((r 3), .inl (cI, 8, .inl fi)), ((r 4), .inl (cR, 80, .inr (.inr (.inr (.inr fr))))), ((r 5), .inl (cI, 80, .inl fl)), ((r 6), .inl (cI, 80, .inl fc)), ((r 7), .inl (cI, 8, .inl fg))] ++ va_pl L f) sz)) 0 0 (va_A ([((r 0), .inr (0, mf_M r (nI n) nw pb lc)), ((r 1), .inr (1, [.ref (r 2), .ref (r 3)])), ((r 2), .inl (cI, 8, .inl fm)), ((r 3), .inl (cI, 8, .inl fi)), ((r 4), .inl (cR, 80, .inr (.inr (.inr (.inr fr))))), ((r 5), .inl (cI, 80, .inl fl)), ((r 6), .inl (cI, 80, .inl fc)), ((r 7), .inl (cI, 8, .inl fg))] ++ va_pl L f) sz) := by
  refine Met.ofW (cc := b_M_weighKinds) (maxL := 4) (ret := none) (by decide) rfl ?_
  intro p e s m args below meth c s₁ B hml hv
  obtain ⟨rfl, hsz, hB, hK, hP, hD0⟩ := hv
  subst hsz
  have hA0 := mr_A hB hD0
  have hD := hD0.self (sz := s.heap.size)
  generalize hAe : va_A ([((r 0), .inr (0, mf_M r (nI n) nw pb lc)), ((r 1), .inr (1, [.ref (r 2), .ref (r 3)])), ((r 2), .inl (cI, 8, .inl fm)), ((r 3), .inl (cI, 8, .inl fi)), ((r 4), .inl (cR, 80, .inr (.inr (.inr (.inr fr))))), ((r 5), .inl (cI, 80, .inl fl)), ((r 6), .inl (cI, 80, .inl fc)), ((r 7), .inl (cI, 8, .inl fg))] ++ va_pl L f) s.heap.size = A at hD hA0 ⊢
  have hA : ∀ q : Nat, s.heap.size ≤ q → A q := fun q h => by rw [← hAe]; exact Or.inr h
  have hS : va_S A s.heap s.heap [] := va_S.rf
  have hP : va_P (dC, dI) mr_cl ([((r 0), .inr (0, mf_M r (nI n) nw pb lc)), ((r 1), .inr (1, [.ref (r 2), .ref (r 3)])), ((r 2), .inl (cI, 8, .inl fm)), ((r 3), .inl (cI, 8, .inl fi)), ((r 4), .inl (cR, 80, .inr (.inr (.inr (.inr fr))))), ((r 5), .inl (cI, 80, .inl fl)), ((r 6), .inl (cI, 80, .inl fc)), ((r 7), .inl (cI, 8, .inl fg))] ++ va_pl L f) s.heap := hP
  have hBH := hB.at hS hA0
  have hx := B.exec
  have hb := B.bytes
  have hr := B.returns
  have hlocks := B.notSynchronized
  have hts : ∀ w ∈ lw_tbl, w.before [.ref (r 0), .int (nI cc)].toArray s = true := hB.hts _
  have hown : s.vm.findClass "MeasureRows" = some m.cls := findClass_of_methodNamed B.named
  have hl := lv_entry ([.ref (r 0), .int (nI cc)]) (n := 4) (Nat.le_of_ble_eq_true rfl)
  rw [lg_entry_eq]
  generalize (lg_sl ([.ref (r 0), .int (nI cc)]) ++ List.replicate (4 - (lg_sl ([.ref (r 0), .int (nI cc)])).length) Slot.unset).toArray = ls at hl ⊢
  have hl : lv_has ls 4 [(0, .ref (r 0)), (1, .int (nI cc))] := hl
  refine lv_iconst (v := 0) hx hb d_M_weighKinds_0 (by decide) ?_
  refine lv_istore_n (lv' := [(2, .int 0), (0, .ref (r 0)), (1, .int (nI cc))]) hx hb d_M_weighKinds_1 rfl hl (by decide) rfl (fun ls hl => ?_)
  refine mr_loop (N := 8) (I := fun j H locs ls => ∃ fg9 : Nat → Int32, True ∧ va_P (dC, dI) mr_cl ([((r 0), .inr (0, mf_M r (nI n) nw pb lc)), ((r 1), .inr (1, [.ref (r 2), .ref (r 3)])), ((r 2), .inl (cI, 8, .inl fm)), ((r 3), .inl (cI, 8, .inl fi)), ((r 4), .inl (cR, 80, .inr (.inr (.inr (.inr fr))))), ((r 5), .inl (cI, 80, .inl fl)), ((r 6), .inl (cI, 80, .inl fc)), ((r 7), .inl (cI, 8, .inl fg9))] ++ va_pl L f) H ∧ va_D A ([((r 0), .inr (0, mf_M r (nI n) nw pb lc)), ((r 1), .inr (1, [.ref (r 2), .ref (r 3)])), ((r 2), .inl (cI, 8, .inl fm)), ((r 3), .inl (cI, 8, .inl fi)), ((r 4), .inl (cR, 80, .inr (.inr (.inr (.inr fr))))), ((r 5), .inl (cI, 80, .inl fl)), ((r 6), .inl (cI, 80, .inl fc)), ((r 7), .inl (cI, 8, .inl fg9))] ++ va_pl L f) ∧ va_S A s.heap H locs ∧ lv_has ls 4 [(2, .int (nI j)), (0, .ref (r 0)), (1, .int (nI cc))]) (fun j H locs ls hj hI9 ih => ?_) (fun H locs ls hI9 => ?_) 0 _ _ _ (Nat.zero_le _) ⟨fg, trivial, hP, hD, hS, (lv_sub hl [0, 1, 2] rfl)⟩
  · obtain ⟨fg9, hexj, hP, hD, hS, hl⟩ := hI9
    have hBH := hB.at hS hA0
    refine lv_iload_n hx hb d_M_weighKinds_2 rfl (lv_at hl 0 rfl) ?_
    refine lv_bipush (v := 8) hx hb d_M_weighKinds_3 (by decide) ?_
    refine lv_icmp_ge (tgt := 21) hx hb d_M_weighKinds_5 (by decide) (fun c_1 => absurd c_1 (nI_ge (b := 8) hj (by decide))) (fun _ => ?_)
    refine lv_aload_n hx hb d_M_weighKinds_8 rfl (lv_at hl 1 rfl) ?_
    refine va_get (D := (dC, dI)) (ci := 0) (v := .ref (r 7)) (C := R_M) (T := T_M) (N := 9) hx hb hts ti_M hown hK hP 0 rfl rfl 8 (by decide) (hts (Cond.fieldLink "MeasureRows" 42 "MeasureRows" "greatestWeight" "[I") mw_63) (fun _ h9 => h9) rfl d_M_weighKinds_9 ?_
    refine lv_iload_n hx hb d_M_weighKinds_12 rfl (lv_at hl 0 rfl) ?_
    refine lv_iconst (v := 0) hx hb d_M_weighKinds_13 (by decide) ?_
    refine va_iast (D := (dC, dI)) hx hb hK hP hD hS 7 0 rfl rfl (i := nI j) (nI_in (by omega) (by decide)) d_M_weighKinds_14 (fun H locs hP hD hS => ?_)
    have hP : va_P (dC, dI) mr_cl ([((r 0), .inr (0, mf_M r (nI n) nw pb lc)), ((r 1), .inr (1, [.ref (r 2), .ref (r 3)])), ((r 2), .inl (cI, 8, .inl fm)), ((r 3), .inl (cI, 8, .inl fi)), ((r 4), .inl (cR, 80, .inr (.inr (.inr (.inr fr))))), ((r 5), .inl (cI, 80, .inl fl)), ((r 6), .inl (cI, 80, .inl fc)), ((r 7), .inl (cI, 8, .inl (upd fg9 (nI j).toNatClampNeg 0)))] ++ va_pl L f) H := hP
    have hD : va_D A ([((r 0), .inr (0, mf_M r (nI n) nw pb lc)), ((r 1), .inr (1, [.ref (r 2), .ref (r 3)])), ((r 2), .inl (cI, 8, .inl fm)), ((r 3), .inl (cI, 8, .inl fi)), ((r 4), .inl (cR, 80, .inr (.inr (.inr (.inr fr))))), ((r 5), .inl (cI, 80, .inl fl)), ((r 6), .inl (cI, 80, .inl fc)), ((r 7), .inl (cI, 8, .inl (upd fg9 (nI j).toNatClampNeg 0)))] ++ va_pl L f) := hD
    have hBH := hB.at hS hA0
    refine lv_iinc (v := nI (j + 1)) (lv' := [(2, .int (nI (j + 1))), (0, .ref (r 0)), (1, .int (nI cc))]) hx hb d_M_weighKinds_15 hl (k := 0) rfl ((nI_succ j).symm) (by decide) rfl (fun ls hl => ?_)
    refine lv_goto (tgt := 2) hx hb d_M_weighKinds_18 (by decide) ?_
    exact ih _ _ _ ⟨(upd fg9 (nI j).toNatClampNeg 0), trivial, hP, hD, hS, lv_sub hl [0, 1, 2] rfl⟩
  · obtain ⟨fg9, hexj, hP, hD, hS, hl⟩ := hI9
    have hBH := hB.at hS hA0
    refine lv_iload_n hx hb d_M_weighKinds_2 rfl (lv_at hl 0 rfl) ?_
    refine lv_bipush (v := 8) hx hb d_M_weighKinds_3 (by decide) ?_
    refine lv_icmp_ge (tgt := 21) hx hb d_M_weighKinds_5 (by decide) (fun _ => ?_) (fun c_2 => absurd c_2 (by decide))
    refine lv_iconst (v := 0) hx hb d_M_weighKinds_21 (by decide) ?_
    refine lv_istore_n (lv' := [(2, .int 0), (0, .ref (r 0)), (1, .int (nI cc))]) hx hb d_M_weighKinds_22 rfl hl (by decide) rfl (fun ls hl => ?_)
    refine mr_loop (N := cc) (I := fun i H locs ls => ∃ fgb : Nat → Int32, True ∧ va_P (dC, dI) mr_cl ([((r 0), .inr (0, mf_M r (nI n) nw pb lc)), ((r 1), .inr (1, [.ref (r 2), .ref (r 3)])), ((r 2), .inl (cI, 8, .inl fm)), ((r 3), .inl (cI, 8, .inl fi)), ((r 4), .inl (cR, 80, .inr (.inr (.inr (.inr fr))))), ((r 5), .inl (cI, 80, .inl fl)), ((r 6), .inl (cI, 80, .inl fc)), ((r 7), .inl (cI, 8, .inl fgb))] ++ va_pl L f) H ∧ va_D A ([((r 0), .inr (0, mf_M r (nI n) nw pb lc)), ((r 1), .inr (1, [.ref (r 2), .ref (r 3)])), ((r 2), .inl (cI, 8, .inl fm)), ((r 3), .inl (cI, 8, .inl fi)), ((r 4), .inl (cR, 80, .inr (.inr (.inr (.inr fr))))), ((r 5), .inl (cI, 80, .inl fl)), ((r 6), .inl (cI, 80, .inl fc)), ((r 7), .inl (cI, 8, .inl fgb))] ++ va_pl L f) ∧ va_S A s.heap H locs ∧ lv_has ls 4 [(2, .int (nI i)), (0, .ref (r 0)), (1, .int (nI cc))]) (fun i H locs ls hi9 hI9 ih2 => ?_) (fun H locs ls hI9 => ?_) 0 _ _ _ (Nat.zero_le _) ⟨fg9, trivial, hP, hD, hS, (lv_sub hl [0, 1, 2] rfl)⟩
    · obtain ⟨fgb, hexi, hP, hD, hS, hl⟩ := hI9
      have hBH := hB.at hS hA0
      refine lv_iload_n hx hb d_M_weighKinds_23 rfl (lv_at hl 0 rfl) ?_
      refine lv_iload_n hx hb d_M_weighKinds_24 rfl (lv_at hl 2 rfl) ?_
      refine lv_icmp_ge (tgt := 74) hx hb d_M_weighKinds_25 (by decide) (fun c_3 => absurd c_3 (nI_ge hi9 (by omega))) (fun _ => ?_)
      refine lv_aload_n hx hb d_M_weighKinds_28 rfl (lv_at hl 1 rfl) ?_
      refine lv_aload_n hx hb d_M_weighKinds_29 rfl (lv_at hl 1 rfl) ?_
      refine va_get (D := (dC, dI)) (ci := 0) (v := .ref (r 6)) (C := R_M) (T := T_M) (N := 9) hx hb hts ti_M hown hK hP 0 rfl rfl 7 (by decide) (hts (Cond.fieldLink "MeasureRows" 39 "MeasureRows" "candidates" "[I") mw_62) (fun _ h9 => h9) rfl d_M_weighKinds_30 ?_
      refine lv_iload_n hx hb d_M_weighKinds_33 rfl (lv_at hl 0 rfl) ?_
      refine va_iald (D := (dC, dI)) hx hb hK hP 6 0 rfl rfl (i := nI i) (nI_in (by omega) (by decide)) d_M_weighKinds_34 ?_
      refine mr_top (show fc (nI i).toNatClampNeg = fc i by rw [nI_clamp (by omega)]) ?_
      refine va_csq (va_Run.run (va_runV (As := [.int (fc i)]) (rest := []) (C := R_M) ⟨hx, hb, hml, hown, hts⟩ (mc_M_find l s0 dC dI cI cR cL cZ r n nw pb lc fr (fc i) hR.1) ⟨(mr_cB 1 (hts (Cond.code y_M_find b_M_find 2 (some (.object "MeasureRows$Row"))) mw_117) (hts (Cond.initialized y_M_find.cls) mw_118) (hts (Cond.methodLink "MeasureRows" 111 y_M_find) mw_119) rfl rfl (by decide +kernel) ⟨Nat.le_of_ble_eq_true rfl, Nat.le_of_ble_eq_true rfl⟩), (hts (Cond.instanceMethod y_M_find) mw_120), (hts (Cond.selects "MeasureRows" y_M_find y_M_find) mw_121)⟩ (mr_preV hBH hK (hP.sub (ws' := [((r 0), .inr (0, mf_M r (nI n) nw pb lc)), ((r 4), .inl (cR, 80, .inr (.inr (.inr (.inr fr)))))]) [0, 4] rfl) (ci := 0) (q0 := 0) rfl rfl) rfl rfl hl.1 rfl (lv_room (Nat.le_of_ble_eq_true rfl)) d_M_weighKinds_35 ⟨Nat.le_of_ble_eq_true rfl, Nat.le_of_ble_eq_true rfl⟩)) (fun r_4 h_5 => ?_)
      subst h_5
      rcases mr_fc hR (fc i) with hf_10 | ⟨i_10, hi_10, hxe_10, a_10, ql_10, qk_10, v0_10, v1_10, v2_10, v4_10, v5_10, v6_10, v7_10, k_10, t_10, ld_10, kd_10, hf_10, hfi_10, m1_10, m2_10, m3_10, e1_10, e2_10, e3_10, hk_10, ht_10, ho_10, hne_10⟩
      · refine mr_topv (show va_rf (mv_M_find n fr (fc i)) = .null by rw [hf_10]; rfl) ?_
        refine lv_astore_nN (lv' := [(3, .null), (2, .int (nI i)), (0, .ref (r 0)), (1, .int (nI cc))]) hx hb d_M_weighKinds_38 rfl hl (by decide) rfl (fun ls hl => ?_)
        refine lv_aload_nN hx hb d_M_weighKinds_39 rfl (lv_at hl 0 rfl) ?_
        refine lv_ifnullN (tgt := 68) hx hb d_M_weighKinds_40 (by decide) ?_
        refine lv_iinc (v := nI (i + 1)) (lv' := [(2, .int (nI (i + 1))), (3, .null), (0, .ref (r 0)), (1, .int (nI cc))]) hx hb d_M_weighKinds_68 hl (k := 1) rfl ((nI_succ i).symm) (by decide) rfl (fun ls hl => ?_)
        refine lv_goto (tgt := 23) hx hb d_M_weighKinds_71 (by decide) ?_
        exact ih2 _ _ _ ⟨fgb, trivial, hP, hD, hS, lv_sub hl [0, 2, 3] rfl⟩
      · refine mr_topv (show va_rf (mv_M_find n fr (fc i)) = .ref a_10 by rw [hf_10]; rfl) ?_
        have hPr_10 := mr_row3 (X := [((r 0), .inr (0, mf_M r (nI n) nw pb lc)), ((r 1), .inr (1, [.ref (r 2), .ref (r 3)])), ((r 2), .inl (cI, 8, .inl fm)), ((r 3), .inl (cI, 8, .inl fi)), ((r 4), .inl (cR, 80, .inr (.inr (.inr (.inr fr))))), ((r 5), .inl (cI, 80, .inl fl)), ((r 6), .inl (cI, 80, .inl fc)), ((r 7), .inl (cI, 8, .inl fgb))]) hP m1_10 m2_10 m3_10 e1_10 e2_10 e3_10
        refine lv_astore_n (lv' := [(3, .ref a_10), (2, .int (nI i)), (0, .ref (r 0)), (1, .int (nI cc))]) hx hb d_M_weighKinds_38 rfl hl (by decide) rfl (fun ls hl => ?_)
        refine lv_aload_n hx hb d_M_weighKinds_39 rfl (lv_at hl 0 rfl) ?_
        refine lv_ifnull hx hb d_M_weighKinds_40 ?_
        refine lv_aload_n hx hb d_M_weighKinds_43 rfl (lv_at hl 2 rfl) ?_
        refine va_get (D := (dC, dI)) (ci := 0) (v := .ref (r 7)) (C := R_M) (T := T_M) (N := 9) hx hb hts ti_M hown hK hP 0 rfl rfl 8 (by decide) (hts (Cond.fieldLink "MeasureRows" 42 "MeasureRows" "greatestWeight" "[I") mw_63) (fun _ h9 => h9) rfl d_M_weighKinds_44 ?_
        refine lv_aload_n hx hb d_M_weighKinds_47 rfl (lv_at hl 0 rfl) ?_
        refine va_get (D := (dC, dI)) (ci := 2) (v := .int (nI k_10)) (C := R_R) (T := T_R) (N := 11) hx hb hts ti_R hown hK hPr_10 0 rfl rfl 3 (by decide) (hts (Cond.fieldLink "MeasureRows" 164 "MeasureRows$Row" "kind" "I") mw_151) (fun _ h9 => h9) rfl d_M_weighKinds_48 ?_
        refine lv_aload_n hx hb d_M_weighKinds_51 rfl (lv_at hl 2 rfl) ?_
        refine va_get (D := (dC, dI)) (ci := 0) (v := .ref (r 7)) (C := R_M) (T := T_M) (N := 9) hx hb hts ti_M hown hK hP 0 rfl rfl 8 (by decide) (hts (Cond.fieldLink "MeasureRows" 42 "MeasureRows" "greatestWeight" "[I") mw_63) (fun _ h9 => h9) rfl d_M_weighKinds_52 ?_
        refine lv_aload_n hx hb d_M_weighKinds_55 rfl (lv_at hl 0 rfl) ?_
        refine va_get (D := (dC, dI)) (ci := 2) (v := .int (nI k_10)) (C := R_R) (T := T_R) (N := 11) hx hb hts ti_R hown hK hPr_10 0 rfl rfl 3 (by decide) (hts (Cond.fieldLink "MeasureRows" 164 "MeasureRows$Row" "kind" "I") mw_151) (fun _ h9 => h9) rfl d_M_weighKinds_56 ?_
        refine va_iald (D := (dC, dI)) hx hb hK hP 7 0 rfl rfl (i := nI k_10) (nI_in hk_10 (by decide)) d_M_weighKinds_59 ?_
        refine lv_aload_n hx hb d_M_weighKinds_60 rfl (lv_at hl 0 rfl) ?_
        refine vp_callSi (va_Run.run (va_runV (As := []) (rest := [.int (fgb (nI k_10).toNatClampNeg), .int (nI k_10), .ref (r 7)]) (C := R_R) ⟨hx, hb, hml, hown, hts⟩ (mc_R_weight l s0 dC dI cI cR cL cZ a_10 ql_10 qk_10 v0_10 v1_10 v2_10 (nI k_10) v4_10 v5_10 v6_10 v7_10 (nI t_10)) ⟨(mr_cB 0 (hts (Cond.code y_R_weight b_R_weight 1 (some .int)) mw_164) (hts (Cond.initialized y_R_weight.cls) mw_165) (hts (Cond.methodLink "MeasureRows" 210 y_R_weight) mw_166) rfl rfl (by decide +kernel) ⟨Nat.le_of_ble_eq_true rfl, Nat.le_of_ble_eq_true rfl⟩), (hts (Cond.instanceMethod y_R_weight) mw_167), (hts (Cond.selects "MeasureRows$Row" y_R_weight y_R_weight) mw_168)⟩ (mr_preV hBH hK (hPr_10.sub (ws' := [(a_10, .inr (2, [.int v0_10, .int v1_10, .int v2_10, .int (nI k_10), .int v4_10, .int v5_10, .int v6_10, .int v7_10, .int (nI t_10), .ref ql_10, .ref qk_10]))]) [0] rfl) (ci := 2) (q0 := 0) rfl rfl) rfl rfl hl.1 rfl (lv_room (Nat.le_of_ble_eq_true rfl)) d_M_weighKinds_61 ⟨Nat.le_of_ble_eq_true rfl, Nat.le_of_ble_eq_true rfl⟩)) (fun r_6 h_7 => ?_)
        subst h_7
        refine va_mmax hx hb (hml.trans hl.1.symm) hown (hts (Cond.methodLink "MeasureRows" 105 Lib.Math.max.name) mw_193) (hts (Cond.static Lib.Math.max.name) mw_194) (hts (Cond.initialized "java/lang/Math") mw_195) (hts (Cond.code Lib.Math.max.name Lib.Math.max.code 2 (some .int)) mw_196) (Nat.le_of_ble_eq_true rfl) (Nat.le_of_ble_eq_true rfl) (Nat.le_of_ble_eq_true rfl) (Nat.le_of_ble_eq_true rfl) d_M_weighKinds_64 ?_
        refine va_iast (D := (dC, dI)) hx hb hK hP hD hS 7 0 rfl rfl (i := nI k_10) (nI_in hk_10 (by decide)) d_M_weighKinds_67 (fun H locs hP hD hS => ?_)
        have hP : va_P (dC, dI) mr_cl ([((r 0), .inr (0, mf_M r (nI n) nw pb lc)), ((r 1), .inr (1, [.ref (r 2), .ref (r 3)])), ((r 2), .inl (cI, 8, .inl fm)), ((r 3), .inl (cI, 8, .inl fi)), ((r 4), .inl (cR, 80, .inr (.inr (.inr (.inr fr))))), ((r 5), .inl (cI, 80, .inl fl)), ((r 6), .inl (cI, 80, .inl fc)), ((r 7), .inl (cI, 8, .inl (upd fgb (nI k_10).toNatClampNeg (if (fgb (nI k_10).toNatClampNeg) < (mv_R_weight v0_10 v4_10) then (mv_R_weight v0_10 v4_10) else (fgb (nI k_10).toNatClampNeg)))))] ++ va_pl L f) H := hP
        have hD : va_D A ([((r 0), .inr (0, mf_M r (nI n) nw pb lc)), ((r 1), .inr (1, [.ref (r 2), .ref (r 3)])), ((r 2), .inl (cI, 8, .inl fm)), ((r 3), .inl (cI, 8, .inl fi)), ((r 4), .inl (cR, 80, .inr (.inr (.inr (.inr fr))))), ((r 5), .inl (cI, 80, .inl fl)), ((r 6), .inl (cI, 80, .inl fc)), ((r 7), .inl (cI, 8, .inl (upd fgb (nI k_10).toNatClampNeg (if (fgb (nI k_10).toNatClampNeg) < (mv_R_weight v0_10 v4_10) then (mv_R_weight v0_10 v4_10) else (fgb (nI k_10).toNatClampNeg)))))] ++ va_pl L f) := hD
        have hBH := hB.at hS hA0
        have hPr_10 := mr_row3 (X := [((r 0), .inr (0, mf_M r (nI n) nw pb lc)), ((r 1), .inr (1, [.ref (r 2), .ref (r 3)])), ((r 2), .inl (cI, 8, .inl fm)), ((r 3), .inl (cI, 8, .inl fi)), ((r 4), .inl (cR, 80, .inr (.inr (.inr (.inr fr))))), ((r 5), .inl (cI, 80, .inl fl)), ((r 6), .inl (cI, 80, .inl fc)), ((r 7), .inl (cI, 8, .inl (upd fgb (nI k_10).toNatClampNeg (if (fgb (nI k_10).toNatClampNeg) < (mv_R_weight v0_10 v4_10) then (mv_R_weight v0_10 v4_10) else (fgb (nI k_10).toNatClampNeg)))))]) hP m1_10 m2_10 m3_10 e1_10 e2_10 e3_10
        refine lv_iinc (v := nI (i + 1)) (lv' := [(2, .int (nI (i + 1))), (3, .ref a_10), (0, .ref (r 0)), (1, .int (nI cc))]) hx hb d_M_weighKinds_68 hl (k := 1) rfl ((nI_succ i).symm) (by decide) rfl (fun ls hl => ?_)
        refine lv_goto (tgt := 23) hx hb d_M_weighKinds_71 (by decide) ?_
        exact ih2 _ _ _ ⟨(upd fgb (nI k_10).toNatClampNeg (if (fgb (nI k_10).toNatClampNeg) < (mv_R_weight v0_10 v4_10) then (mv_R_weight v0_10 v4_10) else (fgb (nI k_10).toNatClampNeg))), trivial, hP, hD, hS, lv_sub hl [0, 2, 3] rfl⟩
    · obtain ⟨fgb, hexi, hP, hD, hS, hl⟩ := hI9
      have hBH := hB.at hS hA0
      refine lv_iload_n hx hb d_M_weighKinds_23 rfl (lv_at hl 0 rfl) ?_
      refine lv_iload_n hx hb d_M_weighKinds_24 rfl (lv_at hl 2 rfl) ?_
      refine lv_icmp_ge (tgt := 74) hx hb d_M_weighKinds_25 (by decide) (fun _ => ?_) (fun c_8 => absurd (Int32.le_refl _) c_8)
      have hP9 := hP
      have hD9 := hD
      exact W.vret hx hb hr (fun t ht hW => ⟨⟨fgb, rfl, trivial, by rw [ht]; exact hP9, va_K.moved hW.alike hK, hD9⟩, hS.F ht⟩) hS.2.2 d_M_weighKinds_74
end
section
/-- the kind of the x-th candidate (99: none) -/
def mr_K (n : Nat) (fr : Nat → Option Nat) (f : Nat → va_E) (fc : Nat → Int32) (x : Nat) : Nat := match mv_M_find n fr (fc x) with
  | none => 99
  | some a => match f a with
    | .inr o => match (o.2[3]? : Option Value) with
      | some (Value.int v) => v.toNatClampNeg
      | _ => 99
    | _ => 99
theorem mr_K_eq {n : Nat} {fr : Nat → Option Nat} {f : Nat → va_E} {fc : Nat → Int32} {x a k : Nat} {v0 v1 v2 : Int32} {w : List Value} (h : mv_M_find n fr (fc x) = some a) (e : f a = .inr (2, .int v0 :: .int v1 :: .int v2 :: .int (nI k) :: w)) (hk : k < 8) : mr_K n fr f fc x = k := by
  unfold mr_K
  rw [h]
  show (match f a with
    | .inr o => match (o.2[3]? : Option Value) with
      | some (Value.int v) => v.toNatClampNeg
      | _ => 99
    | _ => 99) = k
  rw [e]
  exact nI_clamp (n := k) (by omega)
def mr_c1 (K : Nat → Nat) (d : Nat) : Nat → Nat
  | 0 => 0
  | m + 1 => mr_c1 K d m + if K m < d then 1 else 0
def mr_c2 (K : Nat → Nat) (d : Nat) : Nat → Nat
  | 0 => 0
  | m + 1 => mr_c2 K d m + if K m = d then 1 else 0
theorem mr_c_le (K : Nat → Nat) (d m : Nat) : mr_c1 K d m + mr_c2 K d m ≤ m := by
  induction m with
  | zero => exact Nat.le_refl 0
  | succ m ih =>
    show mr_c1 K d m + (if K m < d then 1 else 0) + (mr_c2 K d m + if K m = d then 1 else 0) ≤ m + 1
    by_cases h1 : K m < d
    · rw [if_pos h1, if_neg (by omega)]; omega
    · rw [if_neg h1]
      by_cases h2 : K m = d
      · rw [if_pos h2]; omega
      · rw [if_neg h2]; omega
theorem mr_c_next (K : Nat → Nat) (d m : Nat) : mr_c1 K (d + 1) m = mr_c1 K d m + mr_c2 K d m := by
  induction m with
  | zero => rfl
  | succ m ih =>
    show mr_c1 K (d + 1) m + (if K m < d + 1 then 1 else 0) = mr_c1 K d m + (if K m < d then 1 else 0) + (mr_c2 K d m + if K m = d then 1 else 0)
    rw [ih]
    by_cases h1 : K m < d
    · rw [if_pos h1, if_pos (show K m < d + 1 by omega), if_neg (show ¬ K m = d by omega)]; omega
    · rw [if_neg h1]
      by_cases h2 : K m = d
      · rw [if_pos h2, if_pos (show K m < d + 1 by omega)]; omega
      · rw [if_neg h2, if_neg (show ¬ K m < d + 1 by omega)]; omega
theorem mr_c2_mono (K : Nat → Nat) (d i : Nat) : ∀ m, mr_c2 K d i ≤ mr_c2 K d (i + m) := by
  intro m
  induction m with
  | zero => exact Nat.le_refl _
  | succ m ih => exact Nat.le_trans ih (Nat.le_add_right _ _)
theorem mr_c2_y {K : Nat → Nat} {d i : Nat} (h : K i = d) : mr_c2 K d (i + 1) = mr_c2 K d i + 1 := by
  show mr_c2 K d i + (if K i = d then 1 else 0) = _
  rw [if_pos h]
theorem mr_c_lt {K : Nat → Nat} {d i m q : Nat} (hi : i < m) (h : K i = d) (hq : q ≤ mr_c1 K d m + mr_c2 K d i) : q < m := by
  have h1 := mr_c_le K d m
  have h2 := mr_c2_mono K d (i + 1) (m - (i + 1))
  rw [show i + 1 + (m - (i + 1)) = m by omega, mr_c2_y h] at h2
  omega
theorem mr_kk {k j : Nat} (h : nI k = nI j) (hk : k < 8) (hj : j < 8) : k = j := (nI_eq (by omega) (by omega)).mp h
theorem mw_214 : Cond.code y_M_isBeaten b_M_isBeaten 2 (some .boolean) ∈ lw_tbl := by decide +kernel
theorem mw_215 : Cond.initialized y_M_isBeaten.cls ∈ lw_tbl := by decide +kernel
theorem mw_216 : Cond.methodLink "MeasureRows" 214 y_M_isBeaten ∈ lw_tbl := by decide +kernel
theorem mw_217 : Cond.instanceMethod y_M_isBeaten ∈ lw_tbl := by decide +kernel
theorem mw_218 : Cond.selects "MeasureRows" y_M_isBeaten y_M_isBeaten ∈ lw_tbl := by decide +kernel
set_option maxHeartbeats 4000000 in
set_option maxRecDepth 100000 in
theorem mc_M_listUnbeaten (l : Launch) (s0 : State) (dC : Nat → ClassId) (dI : Nat → Nat → Nat) (cI cR cL cZ : ClassId) (r : Nat → Nat) (n : Nat) (nw pb lc : Int32) (fm fi : Nat → Int32) (fr : Nat → Option Nat) (fl fc fg : Nat → Int32) (L : List Nat) (f : Nat → va_E) (cc : Nat) (sz : Nat)  (hc : cc ≤ 80) (hR : mr_RI cI n L f fr) : Met l y_M_listUnbeaten [Cond.code y_M_listUnbeaten b_M_listUnbeaten 5 none] ({ frames := 3, cells := 0, slots := 0, locals := 61 }) (mr_PC s0 (dC, dI) [(cI, .int), (cR, .object "MeasureRows$Row"), (cL, .long), (cZ, .boolean)] [.ref (r 0), .int (nI cc)] ([((r 0), .inr (0, mf_M r (nI n) nw pb lc)), ((r 1), .inr (1, [.ref (r 2), .ref (r 3)])), ((r 2), .inl (cI, 8, .inl fm)), ((r 3), .inl (cI, 8, .inl fi)), ((r 4), .inl (cR, 80, .inr (.inr (.inr (.inr fr))))), ((r 5), .inl (cI, 80, .inl fl)), ((r 6), .inl (cI, 80, .inl fc)), ((r 7), .inl (cI, 8, .inl fg))] ++ va_pl L f) sz) (va_Qv (fun u => u.1 ≤ 80) (fun (u : Nat × (Nat → Int32)) t => mr_W (dC, dI) [(cI, .int), (cR, .object "MeasureRows$Row"), (cL, .long), (cZ, .boolean)] (va_A ([((r 0), .inr (0, mf_M r (nI n) nw pb lc)), ((r 1), .inr (1, [.ref (r 2), .ref (r 3)])), ((r 2), .inl (cI, 8, .inl fm)), ((r 3), .inl (cI, 8, .inl fi)), ((r 4), .inl (cR, 80, .inr (.inr (.inr (.inr fr))))), ((r 5), .inl (cI, 80, .inl fl)), ((r 6), .inl (cI, 80, .inl fc)), ((r 7), .inl (cI, 8, .inl fg))] ++ va_pl L f) sz) ([((r 0), .inr (0, mf_M r (nI n) nw pb (nI u.1))), ((r 1), .inr (1, [.ref (r 2), .ref (r 3)])), ((r 2), .inl (cI, 8, .inl fm)), ((r 3), .inl (cI, 8, .inl fi)), ((r 4), .inl (cR, 80, .inr (.inr (.inr (.inr fr))))), ((r 5), .inl (cI, 80, .inl u.2)), ((r 6), .inl (cI, 80, .inl fc)), ((r 7), .inl (cI, 8, .inl fg))] ++ va_pl L f) t) (va_A ([((r 0), .inr (0, mf_M r (nI n) nw pb lc)), ((r 1), .inr (1, [.ref (r 2), .ref (r 3)])), ((r 2), .inl (cI, 8, .inl fm)), ((r 3), .inl (cI, 8, .inl fi)), ((r 4), .inl (cR, 80, .inr (.inr (.inr (.inr fr))))), ((r 5), .inl (cI, 80, .inl fl)), ((r 6), .inl (cI, 80, .inl fc)), ((r 7), .inl (cI, 8, .inl fg))] ++ va_pl L f) sz)) 0 0 (va_A ([((r 0), .inr (0, mf_M r (nI n) nw pb lc)), ((r 1), .inr (1, [.ref (r 2), .ref (r 3)])), ((r 2), .inl (cI, 8, .inl fm)), ((r 3), .inl (cI, 8, .inl fi)), ((r 4), .inl (cR, 80, .inr (.inr (.inr (.inr fr))))), ((r 5), .inl (cI, 80, .inl fl)), ((r 6), .inl (cI, 80, .inl fc)), ((r 7), .inl (cI, 8, .inl fg))] ++ va_pl L f) sz) := by
  refine Met.ofW (cc := b_M_listUnbeaten) (maxL := 5) (ret := none) (by decide) rfl ?_
  intro p e s m args below meth c s₁ B hml hv
  obtain ⟨rfl, hsz, hB, hK, hP, hD0⟩ := hv
  subst hsz
  have hA0 := mr_A hB hD0
  have hD := hD0.self (sz := s.heap.size)
  generalize hAe : va_A ([((r 0), .inr (0, mf_M r (nI n) nw pb lc)), ((r 1), .inr (1, [.ref (r 2), .ref (r 3)])), ((r 2), .inl (cI, 8, .inl fm)), ((r 3), .inl (cI, 8, .inl fi)), ((r 4), .inl (cR, 80, .inr (.inr (.inr (.inr fr))))), ((r 5), .inl (cI, 80, .inl fl)), ((r 6), .inl (cI, 80, .inl fc)), ((r 7), .inl (cI, 8, .inl fg))] ++ va_pl L f) s.heap.size = A at hD hA0 ⊢
  have hA : ∀ q : Nat, s.heap.size ≤ q → A q := fun q h => by rw [← hAe]; exact Or.inr h
  have hS : va_S A s.heap s.heap [] := va_S.rf
  have hP : va_P (dC, dI) mr_cl ([((r 0), .inr (0, mf_M r (nI n) nw pb lc)), ((r 1), .inr (1, [.ref (r 2), .ref (r 3)])), ((r 2), .inl (cI, 8, .inl fm)), ((r 3), .inl (cI, 8, .inl fi)), ((r 4), .inl (cR, 80, .inr (.inr (.inr (.inr fr))))), ((r 5), .inl (cI, 80, .inl fl)), ((r 6), .inl (cI, 80, .inl fc)), ((r 7), .inl (cI, 8, .inl fg))] ++ va_pl L f) s.heap := hP
  have hBH := hB.at hS hA0
  have hx := B.exec
  have hb := B.bytes
  have hr := B.returns
  have hlocks := B.notSynchronized
  have hts : ∀ w ∈ lw_tbl, w.before [.ref (r 0), .int (nI cc)].toArray s = true := hB.hts _
  have hown : s.vm.findClass "MeasureRows" = some m.cls := findClass_of_methodNamed B.named
  have hl := lv_entry ([.ref (r 0), .int (nI cc)]) (n := 5) (Nat.le_of_ble_eq_true rfl)
  rw [lg_entry_eq]
  generalize (lg_sl ([.ref (r 0), .int (nI cc)]) ++ List.replicate (5 - (lg_sl ([.ref (r 0), .int (nI cc)])).length) Slot.unset).toArray = ls at hl ⊢
  have hl : lv_has ls 5 [(0, .ref (r 0)), (1, .int (nI cc))] := hl
  refine lv_aload_n hx hb d_M_listUnbeaten_0 rfl (lv_at hl 0 rfl) ?_
  refine lv_iconst (v := 0) hx hb d_M_listUnbeaten_1 (by decide) ?_
  refine va_put (D := (dC, dI)) (ci := 0) (v := .int 0) (ty := .int) (C := R_M) (T := T_M) (N := 9) hx hb hts ti_M t_M to_M tn_M hown hK hP hD hS 0 rfl rfl 6 (by decide) (hts (Cond.fieldLink "MeasureRows" 36 "MeasureRows" "listedCount" "I") mw_61) (fun _ h9 => h9) rfl (by decide +kernel) rfl rfl (Nat.le_of_ble_eq_true rfl) d_M_listUnbeaten_2 (fun H locs hP hD hS => ?_)
  have hP : va_P (dC, dI) mr_cl ([((r 0), .inr (0, mf_M r (nI n) nw pb 0)), ((r 1), .inr (1, [.ref (r 2), .ref (r 3)])), ((r 2), .inl (cI, 8, .inl fm)), ((r 3), .inl (cI, 8, .inl fi)), ((r 4), .inl (cR, 80, .inr (.inr (.inr (.inr fr))))), ((r 5), .inl (cI, 80, .inl fl)), ((r 6), .inl (cI, 80, .inl fc)), ((r 7), .inl (cI, 8, .inl fg))] ++ va_pl L f) H := hP
  have hD : va_D A ([((r 0), .inr (0, mf_M r (nI n) nw pb 0)), ((r 1), .inr (1, [.ref (r 2), .ref (r 3)])), ((r 2), .inl (cI, 8, .inl fm)), ((r 3), .inl (cI, 8, .inl fi)), ((r 4), .inl (cR, 80, .inr (.inr (.inr (.inr fr))))), ((r 5), .inl (cI, 80, .inl fl)), ((r 6), .inl (cI, 80, .inl fc)), ((r 7), .inl (cI, 8, .inl fg))] ++ va_pl L f) := hD
  have hBH := hB.at hS hA0
  refine lv_iconst (v := 0) hx hb d_M_listUnbeaten_5 (by decide) ?_
  refine lv_istore_n (lv' := [(2, .int 0), (0, .ref (r 0)), (1, .int (nI cc))]) hx hb d_M_listUnbeaten_6 rfl hl (by decide) rfl (fun ls hl => ?_)
  refine mr_loop (N := 8) (I := fun j H locs ls => ∃ q8 : Nat, ∃ ft8 : Nat → Int32, q8 ≤ mr_c1 (mr_K n fr f fc) j cc ∧ va_P (dC, dI) mr_cl ([((r 0), .inr (0, mf_M r (nI n) nw pb (nI q8))), ((r 1), .inr (1, [.ref (r 2), .ref (r 3)])), ((r 2), .inl (cI, 8, .inl fm)), ((r 3), .inl (cI, 8, .inl fi)), ((r 4), .inl (cR, 80, .inr (.inr (.inr (.inr fr))))), ((r 5), .inl (cI, 80, .inl ft8)), ((r 6), .inl (cI, 80, .inl fc)), ((r 7), .inl (cI, 8, .inl fg))] ++ va_pl L f) H ∧ va_D A ([((r 0), .inr (0, mf_M r (nI n) nw pb (nI q8))), ((r 1), .inr (1, [.ref (r 2), .ref (r 3)])), ((r 2), .inl (cI, 8, .inl fm)), ((r 3), .inl (cI, 8, .inl fi)), ((r 4), .inl (cR, 80, .inr (.inr (.inr (.inr fr))))), ((r 5), .inl (cI, 80, .inl ft8)), ((r 6), .inl (cI, 80, .inl fc)), ((r 7), .inl (cI, 8, .inl fg))] ++ va_pl L f) ∧ va_S A s.heap H locs ∧ lv_has ls 5 [(2, .int (nI j)), (0, .ref (r 0)), (1, .int (nI cc))]) (fun j H locs ls hj hI9 ih => ?_) (fun H locs ls hI9 => ?_) 0 _ _ _ (Nat.zero_le _) ⟨0, fl, Nat.zero_le _, hP, hD, hS, (lv_sub hl [0, 1, 2] rfl)⟩
  · obtain ⟨q8, ft8, hexj, hP, hD, hS, hl⟩ := hI9
    have hBH := hB.at hS hA0
    refine lv_iload_n hx hb d_M_listUnbeaten_7 rfl (lv_at hl 0 rfl) ?_
    refine lv_bipush (v := 8) hx hb d_M_listUnbeaten_8 (by decide) ?_
    refine lv_icmp_ge (tgt := 92) hx hb d_M_listUnbeaten_10 (by decide) (fun c_1 => absurd c_1 (nI_ge (b := 8) hj (by decide))) (fun _ => ?_)
    refine lv_iconst (v := 0) hx hb d_M_listUnbeaten_13 (by decide) ?_
    refine lv_istore_n (lv' := [(3, .int 0), (2, .int (nI j)), (0, .ref (r 0)), (1, .int (nI cc))]) hx hb d_M_listUnbeaten_14 rfl hl (by decide) rfl (fun ls hl => ?_)
    refine mr_loop (N := cc) (I := fun i H locs ls => ∃ q9 : Nat, ∃ ft9 : Nat → Int32, q9 ≤ mr_c1 (mr_K n fr f fc) j cc + mr_c2 (mr_K n fr f fc) j i ∧ va_P (dC, dI) mr_cl ([((r 0), .inr (0, mf_M r (nI n) nw pb (nI q9))), ((r 1), .inr (1, [.ref (r 2), .ref (r 3)])), ((r 2), .inl (cI, 8, .inl fm)), ((r 3), .inl (cI, 8, .inl fi)), ((r 4), .inl (cR, 80, .inr (.inr (.inr (.inr fr))))), ((r 5), .inl (cI, 80, .inl ft9)), ((r 6), .inl (cI, 80, .inl fc)), ((r 7), .inl (cI, 8, .inl fg))] ++ va_pl L f) H ∧ va_D A ([((r 0), .inr (0, mf_M r (nI n) nw pb (nI q9))), ((r 1), .inr (1, [.ref (r 2), .ref (r 3)])), ((r 2), .inl (cI, 8, .inl fm)), ((r 3), .inl (cI, 8, .inl fi)), ((r 4), .inl (cR, 80, .inr (.inr (.inr (.inr fr))))), ((r 5), .inl (cI, 80, .inl ft9)), ((r 6), .inl (cI, 80, .inl fc)), ((r 7), .inl (cI, 8, .inl fg))] ++ va_pl L f) ∧ va_S A s.heap H locs ∧ lv_has ls 5 [(3, .int (nI i)), (2, .int (nI j)), (0, .ref (r 0)), (1, .int (nI cc))]) (fun i H locs ls hi9 hI9 ih2 => ?_) (fun H locs ls hI9 => ?_) 0 _ _ _ (Nat.zero_le _) ⟨q8, ft8, Nat.le_trans hexj (Nat.le_add_right _ _), hP, hD, hS, (lv_sub hl [0, 1, 2, 3] rfl)⟩
    · obtain ⟨q9, ft9, hexi, hP, hD, hS, hl⟩ := hI9
      have hBH := hB.at hS hA0
      refine lv_iload_n hx hb d_M_listUnbeaten_15 rfl (lv_at hl 0 rfl) ?_
      refine lv_iload_n hx hb d_M_listUnbeaten_16 rfl (lv_at hl 3 rfl) ?_
      refine lv_icmp_ge (tgt := 86) hx hb d_M_listUnbeaten_17 (by decide) (fun c_2 => absurd c_2 (nI_ge hi9 (by omega))) (fun _ => ?_)
      refine lv_aload_n hx hb d_M_listUnbeaten_20 rfl (lv_at hl 2 rfl) ?_
      refine lv_aload_n hx hb d_M_listUnbeaten_21 rfl (lv_at hl 2 rfl) ?_
      refine va_get (D := (dC, dI)) (ci := 0) (v := .ref (r 6)) (C := R_M) (T := T_M) (N := 9) hx hb hts ti_M hown hK hP 0 rfl rfl 7 (by decide) (hts (Cond.fieldLink "MeasureRows" 39 "MeasureRows" "candidates" "[I") mw_62) (fun _ h9 => h9) rfl d_M_listUnbeaten_22 ?_
      refine lv_iload_n hx hb d_M_listUnbeaten_25 rfl (lv_at hl 0 rfl) ?_
      refine va_iald (D := (dC, dI)) hx hb hK hP 6 0 rfl rfl (i := nI i) (nI_in (by omega) (by decide)) d_M_listUnbeaten_26 ?_
      refine mr_top (show fc (nI i).toNatClampNeg = fc i by rw [nI_clamp (by omega)]) ?_
      refine va_csq (va_Run.run (va_runV (As := [.int (fc i)]) (rest := []) (C := R_M) ⟨hx, hb, hml, hown, hts⟩ (mc_M_find l s0 dC dI cI cR cL cZ r n nw pb (nI q9) fr (fc i) hR.1) ⟨(mr_cB 1 (hts (Cond.code y_M_find b_M_find 2 (some (.object "MeasureRows$Row"))) mw_117) (hts (Cond.initialized y_M_find.cls) mw_118) (hts (Cond.methodLink "MeasureRows" 111 y_M_find) mw_119) rfl rfl (by decide +kernel) ⟨Nat.le_of_ble_eq_true rfl, Nat.le_of_ble_eq_true rfl⟩), (hts (Cond.instanceMethod y_M_find) mw_120), (hts (Cond.selects "MeasureRows" y_M_find y_M_find) mw_121)⟩ (mr_preV hBH hK (hP.sub (ws' := [((r 0), .inr (0, mf_M r (nI n) nw pb (nI q9))), ((r 4), .inl (cR, 80, .inr (.inr (.inr (.inr fr)))))]) [0, 4] rfl) (ci := 0) (q0 := 0) rfl rfl) rfl rfl hl.1 rfl (lv_room (Nat.le_of_ble_eq_true rfl)) d_M_listUnbeaten_27 ⟨Nat.le_of_ble_eq_true rfl, Nat.le_of_ble_eq_true rfl⟩)) (fun r_3 h_4 => ?_)
      subst h_4
      rcases mr_fc hR (fc i) with hf_11 | ⟨i_11, hi_11, hxe_11, a_11, ql_11, qk_11, v0_11, v1_11, v2_11, v4_11, v5_11, v6_11, v7_11, k_11, t_11, ld_11, kd_11, hf_11, hfi_11, m1_11, m2_11, m3_11, e1_11, e2_11, e3_11, hk_11, ht_11, ho_11, hne_11⟩
      · refine mr_topv (show va_rf (mv_M_find n fr (fc i)) = .null by rw [hf_11]; rfl) ?_
        refine lv_astoreN (lv' := [(4, .null), (3, .int (nI i)), (2, .int (nI j)), (0, .ref (r 0)), (1, .int (nI cc))]) hx hb d_M_listUnbeaten_30 hl (by decide) rfl (fun ls hl => ?_)
        refine lv_aloadN hx hb d_M_listUnbeaten_32 (lv_at hl 0 rfl) ?_
        refine lv_ifnullN (tgt := 80) hx hb d_M_listUnbeaten_34 (by decide) ?_
        refine lv_iinc (v := nI (i + 1)) (lv' := [(3, .int (nI (i + 1))), (4, .null), (2, .int (nI j)), (0, .ref (r 0)), (1, .int (nI cc))]) hx hb d_M_listUnbeaten_80 hl (k := 1) rfl ((nI_succ i).symm) (by decide) rfl (fun ls hl => ?_)
        refine lv_goto (tgt := 15) hx hb d_M_listUnbeaten_83 (by decide) ?_
        exact ih2 _ _ _ ⟨q9, ft9, Nat.le_trans hexi (Nat.add_le_add_left (mr_c2_mono _ _ _ 1) _), hP, hD, hS, lv_sub hl [0, 2, 3, 4] rfl⟩
      · refine mr_topv (show va_rf (mv_M_find n fr (fc i)) = .ref a_11 by rw [hf_11]; rfl) ?_
        have hPr_11 := mr_row3 (X := [((r 0), .inr (0, mf_M r (nI n) nw pb (nI q9))), ((r 1), .inr (1, [.ref (r 2), .ref (r 3)])), ((r 2), .inl (cI, 8, .inl fm)), ((r 3), .inl (cI, 8, .inl fi)), ((r 4), .inl (cR, 80, .inr (.inr (.inr (.inr fr))))), ((r 5), .inl (cI, 80, .inl ft9)), ((r 6), .inl (cI, 80, .inl fc)), ((r 7), .inl (cI, 8, .inl fg))]) hP m1_11 m2_11 m3_11 e1_11 e2_11 e3_11
        refine lv_astore (lv' := [(4, .ref a_11), (3, .int (nI i)), (2, .int (nI j)), (0, .ref (r 0)), (1, .int (nI cc))]) hx hb d_M_listUnbeaten_30 hl (by decide) rfl (fun ls hl => ?_)
        refine lv_aload hx hb d_M_listUnbeaten_32 (lv_at hl 0 rfl) ?_
        refine lv_ifnull hx hb d_M_listUnbeaten_34 ?_
        refine lv_aload hx hb d_M_listUnbeaten_37 (lv_at hl 0 rfl) ?_
        refine va_get (D := (dC, dI)) (ci := 2) (v := .int (nI k_11)) (C := R_R) (T := T_R) (N := 11) hx hb hts ti_R hown hK hPr_11 0 rfl rfl 3 (by decide) (hts (Cond.fieldLink "MeasureRows" 164 "MeasureRows$Row" "kind" "I") mw_151) (fun _ h9 => h9) rfl d_M_listUnbeaten_39 ?_
        refine lv_iload_n hx hb d_M_listUnbeaten_42 rfl (lv_at hl 2 rfl) ?_
        refine lv_icmp_ne (tgt := 80) hx hb d_M_listUnbeaten_43 (by decide) (fun c_5 => ?_) (fun c_5 => ?_)
        · refine lv_iinc (v := nI (i + 1)) (lv' := [(3, .int (nI (i + 1))), (4, .ref a_11), (2, .int (nI j)), (0, .ref (r 0)), (1, .int (nI cc))]) hx hb d_M_listUnbeaten_80 hl (k := 1) rfl ((nI_succ i).symm) (by decide) rfl (fun ls hl => ?_)
          refine lv_goto (tgt := 15) hx hb d_M_listUnbeaten_83 (by decide) ?_
          exact ih2 _ _ _ ⟨q9, ft9, Nat.le_trans hexi (Nat.add_le_add_left (mr_c2_mono _ _ _ 1) _), hP, hD, hS, lv_sub hl [0, 2, 3, 4] rfl⟩
        · refine lv_aload_n hx hb d_M_listUnbeaten_46 rfl (lv_at hl 3 rfl) ?_
          refine lv_aload hx hb d_M_listUnbeaten_47 (lv_at hl 0 rfl) ?_
          refine vp_callSi (va_Run.run (va_runV (As := [.ref a_11]) (rest := []) (C := R_M) ⟨hx, hb, hml, hown, hts⟩ (mc_M_isBeaten l s0 dC dI cI cR cL cZ r n nw pb (nI q9) fg a_11 ql_11 qk_11 v0_11 v1_11 v2_11 v4_11 v5_11 v6_11 v7_11 (nI t_11) k_11 hk_11) ⟨(mr_cB 1 (hts (Cond.code y_M_isBeaten b_M_isBeaten 2 (some .boolean)) mw_214) (hts (Cond.initialized y_M_isBeaten.cls) mw_215) (hts (Cond.methodLink "MeasureRows" 214 y_M_isBeaten) mw_216) rfl rfl (by decide +kernel) ⟨Nat.le_of_ble_eq_true rfl, Nat.le_of_ble_eq_true rfl⟩), (hts (Cond.instanceMethod y_M_isBeaten) mw_217), (hts (Cond.selects "MeasureRows" y_M_isBeaten y_M_isBeaten) mw_218)⟩ (mr_preV hBH hK ((hP.sub (ws' := [((r 0), .inr (0, mf_M r (nI n) nw pb (nI q9))), ((r 7), .inl (cI, 8, .inl fg))]) [0, 7] rfl).app (hPr_11.sub (ws' := [(a_11, .inr (2, [.int v0_11, .int v1_11, .int v2_11, .int (nI k_11), .int v4_11, .int v5_11, .int v6_11, .int v7_11, .int (nI t_11), .ref ql_11, .ref qk_11]))]) [0] rfl)) (ci := 0) (q0 := 0) rfl rfl) rfl rfl hl.1 rfl (lv_room (Nat.le_of_ble_eq_true rfl)) d_M_listUnbeaten_49 ⟨Nat.le_of_ble_eq_true rfl, Nat.le_of_ble_eq_true rfl⟩)) (fun r_6 h_7 => ?_)
          refine lv_if_ne (tgt := 80) hx hb d_M_listUnbeaten_52 (by decide) (fun c_8 => ?_) (fun c_8 => ?_)
          · refine lv_iinc (v := nI (i + 1)) (lv' := [(3, .int (nI (i + 1))), (4, .ref a_11), (2, .int (nI j)), (0, .ref (r 0)), (1, .int (nI cc))]) hx hb d_M_listUnbeaten_80 hl (k := 1) rfl ((nI_succ i).symm) (by decide) rfl (fun ls hl => ?_)
            refine lv_goto (tgt := 15) hx hb d_M_listUnbeaten_83 (by decide) ?_
            exact ih2 _ _ _ ⟨q9, ft9, Nat.le_trans hexi (Nat.add_le_add_left (mr_c2_mono _ _ _ 1) _), hP, hD, hS, lv_sub hl [0, 2, 3, 4] rfl⟩
          · have hKi := (mr_K_eq hf_11 e1_11 hk_11).trans (mr_kk c_5 hk_11 hj)
            refine lv_aload_n hx hb d_M_listUnbeaten_55 rfl (lv_at hl 3 rfl) ?_
            refine va_get (D := (dC, dI)) (ci := 0) (v := .ref (r 5)) (C := R_M) (T := T_M) (N := 9) hx hb hts ti_M hown hK hP 0 rfl rfl 5 (by decide) (hts (Cond.fieldLink "MeasureRows" 32 "MeasureRows" "listed" "[I") mw_60) (fun _ h9 => h9) rfl d_M_listUnbeaten_56 ?_
            refine lv_aload_n hx hb d_M_listUnbeaten_59 rfl (lv_at hl 3 rfl) ?_
            refine va_get (D := (dC, dI)) (ci := 0) (v := .int (nI q9)) (C := R_M) (T := T_M) (N := 9) hx hb hts ti_M hown hK hP 0 rfl rfl 6 (by decide) (hts (Cond.fieldLink "MeasureRows" 36 "MeasureRows" "listedCount" "I") mw_61) (fun _ h9 => h9) rfl d_M_listUnbeaten_60 ?_
            refine lv_aload_n hx hb d_M_listUnbeaten_63 rfl (lv_at hl 3 rfl) ?_
            refine va_get (D := (dC, dI)) (ci := 0) (v := .ref (r 6)) (C := R_M) (T := T_M) (N := 9) hx hb hts ti_M hown hK hP 0 rfl rfl 7 (by decide) (hts (Cond.fieldLink "MeasureRows" 39 "MeasureRows" "candidates" "[I") mw_62) (fun _ h9 => h9) rfl d_M_listUnbeaten_64 ?_
            refine lv_iload_n hx hb d_M_listUnbeaten_67 rfl (lv_at hl 1 rfl) ?_
            refine va_iald (D := (dC, dI)) hx hb hK hP 6 0 rfl rfl (i := nI i) (nI_in (by omega) (by decide)) d_M_listUnbeaten_68 ?_
            refine mr_top (show fc (nI i).toNatClampNeg = fc i by rw [nI_clamp (by omega)]) ?_
            refine va_iast (D := (dC, dI)) hx hb hK hP hD hS 5 0 rfl rfl (i := (nI q9)) (nI_in (Nat.lt_of_lt_of_le (mr_c_lt hi9 hKi hexi) hc) (by decide)) d_M_listUnbeaten_69 (fun H locs hP hD hS => ?_)
            have hP : va_P (dC, dI) mr_cl ([((r 0), .inr (0, mf_M r (nI n) nw pb (nI q9))), ((r 1), .inr (1, [.ref (r 2), .ref (r 3)])), ((r 2), .inl (cI, 8, .inl fm)), ((r 3), .inl (cI, 8, .inl fi)), ((r 4), .inl (cR, 80, .inr (.inr (.inr (.inr fr))))), ((r 5), .inl (cI, 80, .inl (upd ft9 (nI q9).toNatClampNeg (fc i)))), ((r 6), .inl (cI, 80, .inl fc)), ((r 7), .inl (cI, 8, .inl fg))] ++ va_pl L f) H := hP
            have hD : va_D A ([((r 0), .inr (0, mf_M r (nI n) nw pb (nI q9))), ((r 1), .inr (1, [.ref (r 2), .ref (r 3)])), ((r 2), .inl (cI, 8, .inl fm)), ((r 3), .inl (cI, 8, .inl fi)), ((r 4), .inl (cR, 80, .inr (.inr (.inr (.inr fr))))), ((r 5), .inl (cI, 80, .inl (upd ft9 (nI q9).toNatClampNeg (fc i)))), ((r 6), .inl (cI, 80, .inl fc)), ((r 7), .inl (cI, 8, .inl fg))] ++ va_pl L f) := hD
            have hBH := hB.at hS hA0
            have hPr_11 := mr_row3 (X := [((r 0), .inr (0, mf_M r (nI n) nw pb (nI q9))), ((r 1), .inr (1, [.ref (r 2), .ref (r 3)])), ((r 2), .inl (cI, 8, .inl fm)), ((r 3), .inl (cI, 8, .inl fi)), ((r 4), .inl (cR, 80, .inr (.inr (.inr (.inr fr))))), ((r 5), .inl (cI, 80, .inl (upd ft9 (nI q9).toNatClampNeg (fc i)))), ((r 6), .inl (cI, 80, .inl fc)), ((r 7), .inl (cI, 8, .inl fg))]) hP m1_11 m2_11 m3_11 e1_11 e2_11 e3_11
            refine lv_aload_n hx hb d_M_listUnbeaten_70 rfl (lv_at hl 3 rfl) ?_
            refine lv_dup hx hb d_M_listUnbeaten_71 rfl ?_
            refine va_get (D := (dC, dI)) (ci := 0) (v := .int (nI q9)) (C := R_M) (T := T_M) (N := 9) hx hb hts ti_M hown hK hP 0 rfl rfl 6 (by decide) (hts (Cond.fieldLink "MeasureRows" 36 "MeasureRows" "listedCount" "I") mw_61) (fun _ h9 => h9) rfl d_M_listUnbeaten_72 ?_
            refine lv_iconst (v := 1) hx hb d_M_listUnbeaten_75 (by decide) ?_
            refine lv_iadd hx hb d_M_listUnbeaten_76 ?_
            refine mr_top (nI_1 q9) ?_
            refine va_put (D := (dC, dI)) (ci := 0) (v := .int (nI (q9 + 1))) (ty := .int) (C := R_M) (T := T_M) (N := 9) hx hb hts ti_M t_M to_M tn_M hown hK hP hD hS 0 rfl rfl 6 (by decide) (hts (Cond.fieldLink "MeasureRows" 36 "MeasureRows" "listedCount" "I") mw_61) (fun _ h9 => h9) rfl (by decide +kernel) rfl rfl (Nat.le_of_ble_eq_true rfl) d_M_listUnbeaten_77 (fun H locs hP hD hS => ?_)
            have hP : va_P (dC, dI) mr_cl ([((r 0), .inr (0, mf_M r (nI n) nw pb (nI (q9 + 1)))), ((r 1), .inr (1, [.ref (r 2), .ref (r 3)])), ((r 2), .inl (cI, 8, .inl fm)), ((r 3), .inl (cI, 8, .inl fi)), ((r 4), .inl (cR, 80, .inr (.inr (.inr (.inr fr))))), ((r 5), .inl (cI, 80, .inl (upd ft9 (nI q9).toNatClampNeg (fc i)))), ((r 6), .inl (cI, 80, .inl fc)), ((r 7), .inl (cI, 8, .inl fg))] ++ va_pl L f) H := hP
            have hD : va_D A ([((r 0), .inr (0, mf_M r (nI n) nw pb (nI (q9 + 1)))), ((r 1), .inr (1, [.ref (r 2), .ref (r 3)])), ((r 2), .inl (cI, 8, .inl fm)), ((r 3), .inl (cI, 8, .inl fi)), ((r 4), .inl (cR, 80, .inr (.inr (.inr (.inr fr))))), ((r 5), .inl (cI, 80, .inl (upd ft9 (nI q9).toNatClampNeg (fc i)))), ((r 6), .inl (cI, 80, .inl fc)), ((r 7), .inl (cI, 8, .inl fg))] ++ va_pl L f) := hD
            have hBH := hB.at hS hA0
            have hPr_11 := mr_row3 (X := [((r 0), .inr (0, mf_M r (nI n) nw pb (nI (q9 + 1)))), ((r 1), .inr (1, [.ref (r 2), .ref (r 3)])), ((r 2), .inl (cI, 8, .inl fm)), ((r 3), .inl (cI, 8, .inl fi)), ((r 4), .inl (cR, 80, .inr (.inr (.inr (.inr fr))))), ((r 5), .inl (cI, 80, .inl (upd ft9 (nI q9).toNatClampNeg (fc i)))), ((r 6), .inl (cI, 80, .inl fc)), ((r 7), .inl (cI, 8, .inl fg))]) hP m1_11 m2_11 m3_11 e1_11 e2_11 e3_11
            refine lv_iinc (v := nI (i + 1)) (lv' := [(3, .int (nI (i + 1))), (4, .ref a_11), (2, .int (nI j)), (0, .ref (r 0)), (1, .int (nI cc))]) hx hb d_M_listUnbeaten_80 hl (k := 1) rfl ((nI_succ i).symm) (by decide) rfl (fun ls hl => ?_)
            refine lv_goto (tgt := 15) hx hb d_M_listUnbeaten_83 (by decide) ?_
            exact ih2 _ _ _ ⟨(q9 + 1), (upd ft9 (nI q9).toNatClampNeg (fc i)), by rw [mr_c2_y hKi]; omega, hP, hD, hS, lv_sub hl [0, 2, 3, 4] rfl⟩
    · obtain ⟨q9, ft9, hexi, hP, hD, hS, hl⟩ := hI9
      have hBH := hB.at hS hA0
      refine lv_iload_n hx hb d_M_listUnbeaten_15 rfl (lv_at hl 0 rfl) ?_
      refine lv_iload_n hx hb d_M_listUnbeaten_16 rfl (lv_at hl 3 rfl) ?_
      refine lv_icmp_ge (tgt := 86) hx hb d_M_listUnbeaten_17 (by decide) (fun _ => ?_) (fun c_10 => absurd (Int32.le_refl _) c_10)
      refine lv_iinc (v := nI (j + 1)) (lv' := [(2, .int (nI (j + 1))), (3, .int (nI cc)), (0, .ref (r 0)), (1, .int (nI cc))]) hx hb d_M_listUnbeaten_86 hl (k := 1) rfl ((nI_succ j).symm) (by decide) rfl (fun ls hl => ?_)
      refine lv_goto (tgt := 7) hx hb d_M_listUnbeaten_89 (by decide) ?_
      exact ih _ _ _ ⟨q9, ft9, by rw [mr_c_next]; exact hexi, hP, hD, hS, lv_sub hl [0, 2, 3] rfl⟩
  · obtain ⟨q8, ft8, hexj, hP, hD, hS, hl⟩ := hI9
    have hBH := hB.at hS hA0
    refine lv_iload_n hx hb d_M_listUnbeaten_7 rfl (lv_at hl 0 rfl) ?_
    refine lv_bipush (v := 8) hx hb d_M_listUnbeaten_8 (by decide) ?_
    refine lv_icmp_ge (tgt := 92) hx hb d_M_listUnbeaten_10 (by decide) (fun _ => ?_) (fun c_11 => absurd c_11 (by decide))
    have hP9 := hP
    have hD9 := hD
    exact W.vret hx hb hr (fun t ht hW => ⟨⟨(q8, ft8), rfl, Nat.le_trans hexj (Nat.le_trans (Nat.le_trans (Nat.le_add_right _ _) (mr_c_le _ _ _)) hc), by rw [ht]; exact hP9, va_K.moved hW.alike hK, hD9⟩, hS.F ht⟩) hS.2.2 d_M_listUnbeaten_92
end
section
theorem mw_219 : Cond.methodLink "MeasureRows" 71 y_M_levelOf ∈ lw_tbl := by decide +kernel
theorem mw_220 : Cond.stringRef "MeasureRows" 136 "no such code, land or day" ∈ lw_tbl := by decide +kernel
theorem mw_221 : Cond.code y_M_gather b_M_gather 9 (some .int) ∈ lw_tbl := by decide +kernel
theorem mw_222 : Cond.initialized y_M_gather.cls ∈ lw_tbl := by decide +kernel
theorem mw_223 : Cond.methodLink "MeasureRows" 138 y_M_gather ∈ lw_tbl := by decide +kernel
theorem mw_224 : Cond.instanceMethod y_M_gather ∈ lw_tbl := by decide +kernel
theorem mw_225 : Cond.selects "MeasureRows" y_M_gather y_M_gather ∈ lw_tbl := by decide +kernel
theorem mw_226 : Cond.code y_M_keepWithPapers b_M_keepWithPapers 5 (some .int) ∈ lw_tbl := by decide +kernel
theorem mw_227 : Cond.initialized y_M_keepWithPapers.cls ∈ lw_tbl := by decide +kernel
theorem mw_228 : Cond.methodLink "MeasureRows" 142 y_M_keepWithPapers ∈ lw_tbl := by decide +kernel
theorem mw_229 : Cond.instanceMethod y_M_keepWithPapers ∈ lw_tbl := by decide +kernel
theorem mw_230 : Cond.selects "MeasureRows" y_M_keepWithPapers y_M_keepWithPapers ∈ lw_tbl := by decide +kernel
theorem mw_231 : Cond.code y_M_weighKinds b_M_weighKinds 4 none ∈ lw_tbl := by decide +kernel
theorem mw_232 : Cond.initialized y_M_weighKinds.cls ∈ lw_tbl := by decide +kernel
theorem mw_233 : Cond.methodLink "MeasureRows" 145 y_M_weighKinds ∈ lw_tbl := by decide +kernel
theorem mw_234 : Cond.instanceMethod y_M_weighKinds ∈ lw_tbl := by decide +kernel
theorem mw_235 : Cond.selects "MeasureRows" y_M_weighKinds y_M_weighKinds ∈ lw_tbl := by decide +kernel
theorem mw_236 : Cond.code y_M_listUnbeaten b_M_listUnbeaten 5 none ∈ lw_tbl := by decide +kernel
theorem mw_237 : Cond.initialized y_M_listUnbeaten.cls ∈ lw_tbl := by decide +kernel
theorem mw_238 : Cond.methodLink "MeasureRows" 149 y_M_listUnbeaten ∈ lw_tbl := by decide +kernel
theorem mw_239 : Cond.instanceMethod y_M_listUnbeaten ∈ lw_tbl := by decide +kernel
theorem mw_240 : Cond.selects "MeasureRows" y_M_listUnbeaten y_M_listUnbeaten ∈ lw_tbl := by decide +kernel
set_option maxHeartbeats 4000000 in
set_option maxRecDepth 100000 in
theorem mc_M_apply (l : Launch) (hlt : l.stackTraces = false) (s0 : State) (dC : Nat → ClassId) (dI : Nat → Nat → Nat) (cI cR cL cZ : ClassId) (r : Nat → Nat) (n : Nat) (nw pb : Int32) (qc : Nat) (fm fi : Nat → Int32) (fr : Nat → Option Nat) (fl fc fg : Nat → Int32) (L : List Nat) (f : Nat → va_E) (sz : Nat) (a0 : Int32) (a1 : Int32) (a2 : Int32) (a3 : Int32) (hq : qc ≤ 80) (hR : mr_RI cI n L f fr) : mr_Met l y_M_apply [Cond.code y_M_apply b_M_apply 6 (some .int)] ({ frames := 6, cells := 1, slots := 6, locals := 113 }) (mr_PC s0 (dC, dI) [(cI, .int), (cR, .object "MeasureRows$Row"), (cL, .long), (cZ, .boolean)] [.ref (r 0), .int a0, .int a1, .int a2, .int a3] ([((r 0), .inr (0, mf_M r (nI n) nw pb (nI qc))), ((r 1), .inr (1, [.ref (r 2), .ref (r 3)])), ((r 2), .inl (cI, 8, .inl fm)), ((r 3), .inl (cI, 8, .inl fi)), ((r 4), .inl (cR, 80, .inr (.inr (.inr (.inr fr))))), ((r 5), .inl (cI, 80, .inl fl)), ((r 6), .inl (cI, 80, .inl fc)), ((r 7), .inl (cI, 8, .inl fg))] ++ va_pl L f) sz) (va_Qi (fun _ u => u.1 ≤ 80) (fun (u : Nat × (Nat → Int32) × (Nat → Int32) × (Nat → Int32)) t => mr_W (dC, dI) [(cI, .int), (cR, .object "MeasureRows$Row"), (cL, .long), (cZ, .boolean)] (va_A ([((r 0), .inr (0, mf_M r (nI n) nw pb (nI qc))), ((r 1), .inr (1, [.ref (r 2), .ref (r 3)])), ((r 2), .inl (cI, 8, .inl fm)), ((r 3), .inl (cI, 8, .inl fi)), ((r 4), .inl (cR, 80, .inr (.inr (.inr (.inr fr))))), ((r 5), .inl (cI, 80, .inl fl)), ((r 6), .inl (cI, 80, .inl fc)), ((r 7), .inl (cI, 8, .inl fg))] ++ va_pl L f) sz) ([((r 0), .inr (0, mf_M r (nI n) nw pb (nI u.1))), ((r 1), .inr (1, [.ref (r 2), .ref (r 3)])), ((r 2), .inl (cI, 8, .inl fm)), ((r 3), .inl (cI, 8, .inl fi)), ((r 4), .inl (cR, 80, .inr (.inr (.inr (.inr fr))))), ((r 5), .inl (cI, 80, .inl u.2.1)), ((r 6), .inl (cI, 80, .inl u.2.2.1)), ((r 7), .inl (cI, 8, .inl u.2.2.2))] ++ va_pl L f) t) (va_A ([((r 0), .inr (0, mf_M r (nI n) nw pb (nI qc))), ((r 1), .inr (1, [.ref (r 2), .ref (r 3)])), ((r 2), .inl (cI, 8, .inl fm)), ((r 3), .inl (cI, 8, .inl fi)), ((r 4), .inl (cR, 80, .inr (.inr (.inr (.inr fr))))), ((r 5), .inl (cI, 80, .inl fl)), ((r 6), .inl (cI, 80, .inl fc)), ((r 7), .inl (cI, 8, .inl fg))] ++ va_pl L f) sz)) (fun E => E = mr_iae) 1 6 (va_A ([((r 0), .inr (0, mf_M r (nI n) nw pb (nI qc))), ((r 1), .inr (1, [.ref (r 2), .ref (r 3)])), ((r 2), .inl (cI, 8, .inl fm)), ((r 3), .inl (cI, 8, .inl fi)), ((r 4), .inl (cR, 80, .inr (.inr (.inr (.inr fr))))), ((r 5), .inl (cI, 80, .inl fl)), ((r 6), .inl (cI, 80, .inl fc)), ((r 7), .inl (cI, 8, .inl fg))] ++ va_pl L f) sz) := by
  refine mr_of (cc := b_M_apply) (maxL := 6) (ret := (some .int)) (by decide) rfl ?_
  intro p e s m args below meth c s₁ B hml hno hv
  obtain ⟨rfl, hsz, hB, hK, hP, hD0⟩ := hv
  subst hsz
  have hA0 := mr_A hB hD0
  have hD := hD0.self (sz := s.heap.size)
  generalize hAe : va_A ([((r 0), .inr (0, mf_M r (nI n) nw pb (nI qc))), ((r 1), .inr (1, [.ref (r 2), .ref (r 3)])), ((r 2), .inl (cI, 8, .inl fm)), ((r 3), .inl (cI, 8, .inl fi)), ((r 4), .inl (cR, 80, .inr (.inr (.inr (.inr fr))))), ((r 5), .inl (cI, 80, .inl fl)), ((r 6), .inl (cI, 80, .inl fc)), ((r 7), .inl (cI, 8, .inl fg))] ++ va_pl L f) s.heap.size = A at hD hA0 ⊢
  have hA : ∀ q : Nat, s.heap.size ≤ q → A q := fun q h => by rw [← hAe]; exact Or.inr h
  have hS : va_S A s.heap s.heap [] := va_S.rf
  have hP : va_P (dC, dI) mr_cl ([((r 0), .inr (0, mf_M r (nI n) nw pb (nI qc))), ((r 1), .inr (1, [.ref (r 2), .ref (r 3)])), ((r 2), .inl (cI, 8, .inl fm)), ((r 3), .inl (cI, 8, .inl fi)), ((r 4), .inl (cR, 80, .inr (.inr (.inr (.inr fr))))), ((r 5), .inl (cI, 80, .inl fl)), ((r 6), .inl (cI, 80, .inl fc)), ((r 7), .inl (cI, 8, .inl fg))] ++ va_pl L f) s.heap := hP
  have hBH := hB.at hS hA0
  have hx := B.exec
  have hb := B.bytes
  have hr := B.returns
  have hlocks := B.notSynchronized
  have hts : ∀ w ∈ lw_tbl, w.before [.ref (r 0), .int a0, .int a1, .int a2, .int a3].toArray s = true := hB.hts _
  have hown : s.vm.findClass "MeasureRows" = some m.cls := findClass_of_methodNamed B.named
  have hl := lv_entry ([.ref (r 0), .int a0, .int a1, .int a2, .int a3]) (n := 6) (Nat.le_of_ble_eq_true rfl)
  rw [lg_entry_eq]
  generalize (lg_sl ([.ref (r 0), .int a0, .int a1, .int a2, .int a3]) ++ List.replicate (6 - (lg_sl ([.ref (r 0), .int a0, .int a1, .int a2, .int a3])).length) Slot.unset).toArray = ls at hl ⊢
  have hl : lv_has ls 6 [(0, .ref (r 0)), (1, .int a0), (2, .int a1), (3, .int a2), (4, .int a3)] := hl
  refine lv_iload_n hx hb d_M_apply_0 rfl (lv_at hl 1 rfl) ?_
  refine vp_callSi (va_Run.run (va_runS (As := [.int a0]) (rest := []) ⟨hx, hb, hml, hown, hts⟩ (mc_M_levelOf l s0 a0) ⟨(mr_cB 1 (hts (Cond.code y_M_levelOf b_M_levelOf 1 (some .int)) mw_99) (hts (Cond.initialized y_M_levelOf.cls) mw_100) (hts (Cond.methodLink "MeasureRows" 71 y_M_levelOf) mw_219) rfl rfl (by decide +kernel) ⟨Nat.le_of_ble_eq_true rfl, Nat.le_of_ble_eq_true rfl⟩), (hts (Cond.static y_M_levelOf) mw_102)⟩ (mr_pre0 hBH) rfl rfl hl.1 rfl (lv_room (Nat.le_of_ble_eq_true rfl)) d_M_apply_1 ⟨Nat.le_of_ble_eq_true rfl, Nat.le_of_ble_eq_true rfl⟩)) (fun r_1 h_2 => ?_)
  subst h_2
  refine lv_iconst (v := 3) hx hb d_M_apply_4 (by decide) ?_
  refine lv_icmp_ne (tgt := 30) hx hb d_M_apply_5 (by decide) (fun c_3 => ?_) (fun c_3 => ?_)
  · obtain ⟨sa, hstr⟩ := mr_str (hts (Cond.stringRef "MeasureRows" 136 "no such code, land or day") mw_220) hown
    exact mr_throw (names := mr_up) hx hb hlt hown (by decide +kernel) (by decide +kernel) (hts (Cond.classLink "MeasureRows" 78 mr_iae) mw_139) (hts (Cond.initialized mr_iae) mw_140) hstr (hB.own _ mr_a_iae) (hl.1.trans hml.symm) d_M_apply_30 d_M_apply_33 d_M_apply_34 d_M_apply_36 d_M_apply_39 hno (Nat.le_of_ble_eq_true rfl) (Nat.le_of_ble_eq_true rfl) (Nat.le_of_ble_eq_true rfl) (Nat.le_of_ble_eq_true rfl) hlocks rfl (Nat.le_of_ble_eq_true rfl) (Nat.le_of_ble_eq_true rfl)
  · refine lv_iload_n hx hb d_M_apply_8 rfl (lv_at hl 2 rfl) ?_
    refine vp_callSi (va_Run.run (va_runS (As := [.int a1]) (rest := []) ⟨hx, hb, hml, hown, hts⟩ (mc_M_isLand l s0 a1) ⟨(mr_cB 1 (hts (Cond.code y_M_isLand b_M_isLand 1 (some .boolean)) mw_1) (hts (Cond.initialized y_M_isLand.cls) mw_2) (hts (Cond.methodLink "MeasureRows" 49 y_M_isLand) mw_3) rfl rfl (by decide +kernel) ⟨Nat.le_of_ble_eq_true rfl, Nat.le_of_ble_eq_true rfl⟩), (hts (Cond.static y_M_isLand) mw_4)⟩ (mr_pre0 hBH) rfl rfl hl.1 rfl (lv_room (Nat.le_of_ble_eq_true rfl)) d_M_apply_9 ⟨Nat.le_of_ble_eq_true rfl, Nat.le_of_ble_eq_true rfl⟩)) (fun r_4 h_5 => ?_)
    subst h_5
    refine lv_if_eq (tgt := 30) hx hb d_M_apply_12 (by decide) (fun c_6 => ?_) (fun c_6 => ?_)
    · obtain ⟨sa, hstr⟩ := mr_str (hts (Cond.stringRef "MeasureRows" 136 "no such code, land or day") mw_220) hown
      exact mr_throw (names := mr_up) hx hb hlt hown (by decide +kernel) (by decide +kernel) (hts (Cond.classLink "MeasureRows" 78 mr_iae) mw_139) (hts (Cond.initialized mr_iae) mw_140) hstr (hB.own _ mr_a_iae) (hl.1.trans hml.symm) d_M_apply_30 d_M_apply_33 d_M_apply_34 d_M_apply_36 d_M_apply_39 hno (Nat.le_of_ble_eq_true rfl) (Nat.le_of_ble_eq_true rfl) (Nat.le_of_ble_eq_true rfl) (Nat.le_of_ble_eq_true rfl) hlocks rfl (Nat.le_of_ble_eq_true rfl) (Nat.le_of_ble_eq_true rfl)
    · refine lv_iload_n hx hb d_M_apply_15 rfl (lv_at hl 3 rfl) ?_
      refine vp_callSi (va_Run.run (va_runS (As := [.int a2]) (rest := []) ⟨hx, hb, hml, hown, hts⟩ (mc_M_isDay l s0 a2) ⟨(mr_cB 1 (hts (Cond.code y_M_isDay b_M_isDay 1 (some .boolean)) mw_9) (hts (Cond.initialized y_M_isDay.cls) mw_10) (hts (Cond.methodLink "MeasureRows" 83 y_M_isDay) mw_11) rfl rfl (by decide +kernel) ⟨Nat.le_of_ble_eq_true rfl, Nat.le_of_ble_eq_true rfl⟩), (hts (Cond.static y_M_isDay) mw_12)⟩ (mr_pre0 hBH) rfl rfl hl.1 rfl (lv_room (Nat.le_of_ble_eq_true rfl)) d_M_apply_16 ⟨Nat.le_of_ble_eq_true rfl, Nat.le_of_ble_eq_true rfl⟩)) (fun r_7 h_8 => ?_)
      subst h_8
      refine lv_if_eq (tgt := 30) hx hb d_M_apply_19 (by decide) (fun c_9 => ?_) (fun c_9 => ?_)
      · obtain ⟨sa, hstr⟩ := mr_str (hts (Cond.stringRef "MeasureRows" 136 "no such code, land or day") mw_220) hown
        exact mr_throw (names := mr_up) hx hb hlt hown (by decide +kernel) (by decide +kernel) (hts (Cond.classLink "MeasureRows" 78 mr_iae) mw_139) (hts (Cond.initialized mr_iae) mw_140) hstr (hB.own _ mr_a_iae) (hl.1.trans hml.symm) d_M_apply_30 d_M_apply_33 d_M_apply_34 d_M_apply_36 d_M_apply_39 hno (Nat.le_of_ble_eq_true rfl) (Nat.le_of_ble_eq_true rfl) (Nat.le_of_ble_eq_true rfl) (Nat.le_of_ble_eq_true rfl) hlocks rfl (Nat.le_of_ble_eq_true rfl) (Nat.le_of_ble_eq_true rfl)
      · refine lv_iload hx hb d_M_apply_22 (lv_at hl 4 rfl) ?_
        refine vp_callSi (va_Run.run (va_runS (As := [.int a3]) (rest := []) ⟨hx, hb, hml, hown, hts⟩ (mc_M_isDay l s0 a3) ⟨(mr_cB 1 (hts (Cond.code y_M_isDay b_M_isDay 1 (some .boolean)) mw_9) (hts (Cond.initialized y_M_isDay.cls) mw_10) (hts (Cond.methodLink "MeasureRows" 83 y_M_isDay) mw_11) rfl rfl (by decide +kernel) ⟨Nat.le_of_ble_eq_true rfl, Nat.le_of_ble_eq_true rfl⟩), (hts (Cond.static y_M_isDay) mw_12)⟩ (mr_pre0 hBH) rfl rfl hl.1 rfl (lv_room (Nat.le_of_ble_eq_true rfl)) d_M_apply_24 ⟨Nat.le_of_ble_eq_true rfl, Nat.le_of_ble_eq_true rfl⟩)) (fun r_10 h_11 => ?_)
        subst h_11
        refine lv_if_ne (tgt := 40) hx hb d_M_apply_27 (by decide) (fun c_12 => ?_) (fun c_12 => ?_)
        · refine lv_aload_n hx hb d_M_apply_40 rfl (lv_at hl 0 rfl) ?_
          refine lv_aload_n hx hb d_M_apply_41 rfl (lv_at hl 0 rfl) ?_
          refine va_get (D := (dC, dI)) (ci := 0) (v := .ref (r 6)) (C := R_M) (T := T_M) (N := 9) hx hb hts ti_M hown hK hP 0 rfl rfl 7 (by decide) (hts (Cond.fieldLink "MeasureRows" 39 "MeasureRows" "candidates" "[I") mw_62) (fun _ h9 => h9) rfl d_M_apply_42 ?_
          refine lv_iload_n hx hb d_M_apply_45 rfl (lv_at hl 1 rfl) ?_
          refine lv_iload_n hx hb d_M_apply_46 rfl (lv_at hl 2 rfl) ?_
          refine lv_iload_n hx hb d_M_apply_47 rfl (lv_at hl 3 rfl) ?_
          refine lv_iload hx hb d_M_apply_48 (lv_at hl 4 rfl) ?_
          have hFc := mr_Afree hD hS hA
          refine va_calli (va_runV (As := [.ref (r 6), .int a0, .int a1, .int a2, .int a3]) (rest := []) (C := R_M) ⟨hx, hb, hml, hown, hts⟩ (mc_M_gather6 l s0 dC dI cI cR cL cZ r n nw pb (nI qc) fm fi fr fl fc fg L f _ a0 a1 a2 a3 hR) ⟨(mr_cB 5 (hts (Cond.code y_M_gather b_M_gather 9 (some .int)) mw_221) (hts (Cond.initialized y_M_gather.cls) mw_222) (hts (Cond.methodLink "MeasureRows" 138 y_M_gather) mw_223) rfl rfl (by decide +kernel) ⟨Nat.le_of_ble_eq_true rfl, Nat.le_of_ble_eq_true rfl⟩), (hts (Cond.instanceMethod y_M_gather) mw_224), (hts (Cond.selects "MeasureRows" y_M_gather y_M_gather) mw_225)⟩ (mr_preCV hBH hK hP (hD.weaken (fun _ _ _ h => hA0 _ h)) (ci := 0) (q0 := 0) rfl rfl) rfl rfl hl.1 rfl (lv_room (Nat.le_of_ble_eq_true rfl)) d_M_apply_50 ⟨Nat.le_of_ble_eq_true rfl, Nat.le_of_ble_eq_true rfl⟩) hS (fun q _ h => hFc q h) hFc (fun r_13 u_14 t9 H1 locs ht9 hvm hw hB1 hz1 hk1 hS => ?_)
          obtain ⟨q_15, ft_16⟩ := u_14
          obtain ⟨hP1, hK1, hD1⟩ := hB1
          rw [ht9] at hP1
          have hP := hP1
          have hD := hD1.weaken (fun _ _ _ h => hFc _ h)
          clear hP1 hD1 hK1 hk1 hFc
          generalize H1 = H at hP hS ⊢
          have hP : va_P (dC, dI) mr_cl ([((r 0), .inr (0, mf_M r (nI n) nw pb (nI qc))), ((r 1), .inr (1, [.ref (r 2), .ref (r 3)])), ((r 2), .inl (cI, 8, .inl fm)), ((r 3), .inl (cI, 8, .inl fi)), ((r 4), .inl (cR, 80, .inr (.inr (.inr (.inr fr))))), ((r 5), .inl (cI, 80, .inl fl)), ((r 6), .inl (cI, 80, .inl ft_16)), ((r 7), .inl (cI, 8, .inl fg))] ++ va_pl L f) H := hP
          have hD : va_D A ([((r 0), .inr (0, mf_M r (nI n) nw pb (nI qc))), ((r 1), .inr (1, [.ref (r 2), .ref (r 3)])), ((r 2), .inl (cI, 8, .inl fm)), ((r 3), .inl (cI, 8, .inl fi)), ((r 4), .inl (cR, 80, .inr (.inr (.inr (.inr fr))))), ((r 5), .inl (cI, 80, .inl fl)), ((r 6), .inl (cI, 80, .inl ft_16)), ((r 7), .inl (cI, 8, .inl fg))] ++ va_pl L f) := hD
          have hBH := hB.at hS hA0
          obtain ⟨rfl, hq_q_15⟩ : r_13 = nI q_15 ∧ q_15 ≤ n := hw
          refine lv_istore (lv' := [(5, .int (nI q_15)), (0, .ref (r 0)), (1, .int a0), (2, .int a1), (3, .int a2), (4, .int a3)]) hx hb d_M_apply_53 hl (by decide) rfl (fun ls hl => ?_)
          refine lv_aload_n hx hb d_M_apply_55 rfl (lv_at hl 1 rfl) ?_
          refine lv_iload hx hb d_M_apply_56 (lv_at hl 0 rfl) ?_
          have hFc := mr_Afree hD hS hA
          refine va_calli (va_runV (As := [.int (nI q_15)]) (rest := []) (C := R_M) ⟨hx, hb, hml, hown, hts⟩ (mc_M_keepWithPapers l s0 dC dI cI cR cL cZ r n nw pb (nI qc) fm fi fr fl ft_16 fg L f q_15 _ (by have := hR.1; omega) hR) ⟨(mr_cB 1 (hts (Cond.code y_M_keepWithPapers b_M_keepWithPapers 5 (some .int)) mw_226) (hts (Cond.initialized y_M_keepWithPapers.cls) mw_227) (hts (Cond.methodLink "MeasureRows" 142 y_M_keepWithPapers) mw_228) rfl rfl (by decide +kernel) ⟨Nat.le_of_ble_eq_true rfl, Nat.le_of_ble_eq_true rfl⟩), (hts (Cond.instanceMethod y_M_keepWithPapers) mw_229), (hts (Cond.selects "MeasureRows" y_M_keepWithPapers y_M_keepWithPapers) mw_230)⟩ (mr_preCV hBH hK hP (hD.weaken (fun _ _ _ h => hA0 _ h)) (ci := 0) (q0 := 0) rfl rfl) rfl rfl hl.1 rfl (lv_room (Nat.le_of_ble_eq_true rfl)) d_M_apply_58 ⟨Nat.le_of_ble_eq_true rfl, Nat.le_of_ble_eq_true rfl⟩) hS (fun q _ h => hFc q h) hFc (fun r_17 u_18 t9 H1 locs ht9 hvm hw hB1 hz1 hk1 hS => ?_)
          obtain ⟨q_19, ft_20⟩ := u_18
          obtain ⟨hP1, hK1, hD1⟩ := hB1
          rw [ht9] at hP1
          have hP := hP1
          have hD := hD1.weaken (fun _ _ _ h => hFc _ h)
          clear hP1 hD1 hK1 hk1 hFc
          generalize H1 = H at hP hS ⊢
          have hP : va_P (dC, dI) mr_cl ([((r 0), .inr (0, mf_M r (nI n) nw pb (nI qc))), ((r 1), .inr (1, [.ref (r 2), .ref (r 3)])), ((r 2), .inl (cI, 8, .inl fm)), ((r 3), .inl (cI, 8, .inl fi)), ((r 4), .inl (cR, 80, .inr (.inr (.inr (.inr fr))))), ((r 5), .inl (cI, 80, .inl fl)), ((r 6), .inl (cI, 80, .inl ft_20)), ((r 7), .inl (cI, 8, .inl fg))] ++ va_pl L f) H := hP
          have hD : va_D A ([((r 0), .inr (0, mf_M r (nI n) nw pb (nI qc))), ((r 1), .inr (1, [.ref (r 2), .ref (r 3)])), ((r 2), .inl (cI, 8, .inl fm)), ((r 3), .inl (cI, 8, .inl fi)), ((r 4), .inl (cR, 80, .inr (.inr (.inr (.inr fr))))), ((r 5), .inl (cI, 80, .inl fl)), ((r 6), .inl (cI, 80, .inl ft_20)), ((r 7), .inl (cI, 8, .inl fg))] ++ va_pl L f) := hD
          have hBH := hB.at hS hA0
          obtain ⟨rfl, hq_q_19⟩ : r_17 = nI q_19 ∧ q_19 ≤ q_15 := hw
          refine lv_istore (lv' := [(5, .int (nI q_19)), (0, .ref (r 0)), (1, .int a0), (2, .int a1), (3, .int a2), (4, .int a3)]) hx hb d_M_apply_61 hl (by decide) rfl (fun ls hl => ?_)
          refine lv_iload hx hb d_M_apply_63 (lv_at hl 0 rfl) ?_
          refine lv_if_ne (tgt := 70) hx hb d_M_apply_65 (by decide) (fun c_21 => ?_) (fun c_21 => ?_)
          · refine lv_aload_n hx hb d_M_apply_70 rfl (lv_at hl 1 rfl) ?_
            refine lv_iload hx hb d_M_apply_71 (lv_at hl 0 rfl) ?_
            have hFc := mr_Afree hD hS hA
            refine va_callv (va_runV (As := [.int (nI q_19)]) (rest := []) (C := R_M) ⟨hx, hb, hml, hown, hts⟩ (mc_M_weighKinds l s0 dC dI cI cR cL cZ r n nw pb (nI qc) fm fi fr fl ft_20 fg L f q_19 _ (by have := hR.1; omega) hR) ⟨(mr_cB 1 (hts (Cond.code y_M_weighKinds b_M_weighKinds 4 none) mw_231) (hts (Cond.initialized y_M_weighKinds.cls) mw_232) (hts (Cond.methodLink "MeasureRows" 145 y_M_weighKinds) mw_233) rfl rfl (by decide +kernel) ⟨Nat.le_of_ble_eq_true rfl, Nat.le_of_ble_eq_true rfl⟩), (hts (Cond.instanceMethod y_M_weighKinds) mw_234), (hts (Cond.selects "MeasureRows" y_M_weighKinds y_M_weighKinds) mw_235)⟩ (mr_preCV hBH hK hP (hD.weaken (fun _ _ _ h => hA0 _ h)) (ci := 0) (q0 := 0) rfl rfl) rfl rfl hl.1 rfl (lv_room (Nat.le_of_ble_eq_true rfl)) d_M_apply_73 ⟨Nat.le_of_ble_eq_true rfl, Nat.le_of_ble_eq_true rfl⟩) hS (fun q _ h => hFc q h) hFc (fun u_23 t9 H1 locs ht9 hvm hw hB1 hz1 hk1 hS => ?_)
            obtain ⟨hP1, hK1, hD1⟩ := hB1
            rw [ht9] at hP1
            have hP := hP1
            have hD := hD1.weaken (fun _ _ _ h => hFc _ h)
            clear hP1 hD1 hK1 hk1 hFc
            generalize H1 = H at hP hS ⊢
            have hP : va_P (dC, dI) mr_cl ([((r 0), .inr (0, mf_M r (nI n) nw pb (nI qc))), ((r 1), .inr (1, [.ref (r 2), .ref (r 3)])), ((r 2), .inl (cI, 8, .inl fm)), ((r 3), .inl (cI, 8, .inl fi)), ((r 4), .inl (cR, 80, .inr (.inr (.inr (.inr fr))))), ((r 5), .inl (cI, 80, .inl fl)), ((r 6), .inl (cI, 80, .inl ft_20)), ((r 7), .inl (cI, 8, .inl u_23))] ++ va_pl L f) H := hP
            have hD : va_D A ([((r 0), .inr (0, mf_M r (nI n) nw pb (nI qc))), ((r 1), .inr (1, [.ref (r 2), .ref (r 3)])), ((r 2), .inl (cI, 8, .inl fm)), ((r 3), .inl (cI, 8, .inl fi)), ((r 4), .inl (cR, 80, .inr (.inr (.inr (.inr fr))))), ((r 5), .inl (cI, 80, .inl fl)), ((r 6), .inl (cI, 80, .inl ft_20)), ((r 7), .inl (cI, 8, .inl u_23))] ++ va_pl L f) := hD
            have hBH := hB.at hS hA0
            refine lv_aload_n hx hb d_M_apply_76 rfl (lv_at hl 1 rfl) ?_
            refine lv_iload hx hb d_M_apply_77 (lv_at hl 0 rfl) ?_
            have hFc := mr_Afree hD hS hA
            refine va_callv (va_runV (As := [.int (nI q_19)]) (rest := []) (C := R_M) ⟨hx, hb, hml, hown, hts⟩ (mc_M_listUnbeaten l s0 dC dI cI cR cL cZ r n nw pb (nI qc) fm fi fr fl ft_20 u_23 L f q_19 _ (by have := hR.1; omega) hR) ⟨(mr_cB 1 (hts (Cond.code y_M_listUnbeaten b_M_listUnbeaten 5 none) mw_236) (hts (Cond.initialized y_M_listUnbeaten.cls) mw_237) (hts (Cond.methodLink "MeasureRows" 149 y_M_listUnbeaten) mw_238) rfl rfl (by decide +kernel) ⟨Nat.le_of_ble_eq_true rfl, Nat.le_of_ble_eq_true rfl⟩), (hts (Cond.instanceMethod y_M_listUnbeaten) mw_239), (hts (Cond.selects "MeasureRows" y_M_listUnbeaten y_M_listUnbeaten) mw_240)⟩ (mr_preCV hBH hK hP (hD.weaken (fun _ _ _ h => hA0 _ h)) (ci := 0) (q0 := 0) rfl rfl) rfl rfl hl.1 rfl (lv_room (Nat.le_of_ble_eq_true rfl)) d_M_apply_79 ⟨Nat.le_of_ble_eq_true rfl, Nat.le_of_ble_eq_true rfl⟩) hS (fun q _ h => hFc q h) hFc (fun u_25 t9 H1 locs ht9 hvm hw hB1 hz1 hk1 hS => ?_)
            obtain ⟨q_26, ft_27⟩ := u_25
            obtain ⟨hP1, hK1, hD1⟩ := hB1
            have hq_q_26 : q_26 ≤ 80 := hw
            rw [ht9] at hP1
            have hP := hP1
            have hD := hD1.weaken (fun _ _ _ h => hFc _ h)
            clear hP1 hD1 hK1 hk1 hFc
            generalize H1 = H at hP hS ⊢
            have hP : va_P (dC, dI) mr_cl ([((r 0), .inr (0, mf_M r (nI n) nw pb (nI q_26))), ((r 1), .inr (1, [.ref (r 2), .ref (r 3)])), ((r 2), .inl (cI, 8, .inl fm)), ((r 3), .inl (cI, 8, .inl fi)), ((r 4), .inl (cR, 80, .inr (.inr (.inr (.inr fr))))), ((r 5), .inl (cI, 80, .inl ft_27)), ((r 6), .inl (cI, 80, .inl ft_20)), ((r 7), .inl (cI, 8, .inl u_23))] ++ va_pl L f) H := hP
            have hD : va_D A ([((r 0), .inr (0, mf_M r (nI n) nw pb (nI q_26))), ((r 1), .inr (1, [.ref (r 2), .ref (r 3)])), ((r 2), .inl (cI, 8, .inl fm)), ((r 3), .inl (cI, 8, .inl fi)), ((r 4), .inl (cR, 80, .inr (.inr (.inr (.inr fr))))), ((r 5), .inl (cI, 80, .inl ft_27)), ((r 6), .inl (cI, 80, .inl ft_20)), ((r 7), .inl (cI, 8, .inl u_23))] ++ va_pl L f) := hD
            have hBH := hB.at hS hA0
            refine lv_aload_n hx hb d_M_apply_82 rfl (lv_at hl 1 rfl) ?_
            refine va_get (D := (dC, dI)) (ci := 0) (v := .int (nI q_26)) (C := R_M) (T := T_M) (N := 9) hx hb hts ti_M hown hK hP 0 rfl rfl 6 (by decide) (hts (Cond.fieldLink "MeasureRows" 36 "MeasureRows" "listedCount" "I") mw_61) (fun _ h9 => h9) rfl d_M_apply_83 ?_
            have hP9 := hP
            have hD9 := hD
            refine mr_ret ?_
            refine W.widen (k := 1) (n := 6) (by omega) (by omega) ?_
            exact W.iret (v := nI q_26) hx hb hr (fun t ht hW => ⟨⟨_, (q_26, ft_27, ft_20, u_23), rfl, hq_q_26, by rw [ht]; exact hP9, va_K.moved hW.alike hK, hD9⟩, hS.F ht⟩) hS.2.2 d_M_apply_86
          · refine lv_iconst (v := 0) hx hb d_M_apply_68 (by decide) ?_
            have hP9 := hP
            have hD9 := hD
            refine mr_ret ?_
            refine W.widen (k := 1) (n := 6) (by omega) (by omega) ?_
            exact W.iret (v := 0) hx hb hr (fun t ht hW => ⟨⟨_, (qc, fl, ft_20, fg), rfl, hq, by rw [ht]; exact hP9, va_K.moved hW.alike hK, hD9⟩, hS.F ht⟩) hS.2.2 d_M_apply_69
        · obtain ⟨sa, hstr⟩ := mr_str (hts (Cond.stringRef "MeasureRows" 136 "no such code, land or day") mw_220) hown
          exact mr_throw (names := mr_up) hx hb hlt hown (by decide +kernel) (by decide +kernel) (hts (Cond.classLink "MeasureRows" 78 mr_iae) mw_139) (hts (Cond.initialized mr_iae) mw_140) hstr (hB.own _ mr_a_iae) (hl.1.trans hml.symm) d_M_apply_30 d_M_apply_33 d_M_apply_34 d_M_apply_36 d_M_apply_39 hno (Nat.le_of_ble_eq_true rfl) (Nat.le_of_ble_eq_true rfl) (Nat.le_of_ble_eq_true rfl) (Nat.le_of_ble_eq_true rfl) hlocks rfl (Nat.le_of_ble_eq_true rfl) (Nat.le_of_ble_eq_true rfl)
set_option maxHeartbeats 4000000 in
set_option maxRecDepth 100000 in
theorem mc_M_scan (l : Launch) (hlt : l.stackTraces = false) (s0 : State) (dC : Nat → ClassId) (dI : Nat → Nat → Nat) (cI cR cL cZ : ClassId) (r : Nat → Nat) (n : Nat) (nw pb : Int32) (qc : Nat) (fm fi : Nat → Int32) (fr : Nat → Option Nat) (fl fc fg : Nat → Int32) (L : List Nat) (f : Nat → va_E) (sz : Nat) (a0 : Int32) (a1 : Int32) (a2 : Int32) (hq : qc ≤ 80) (hR : mr_RI cI n L f fr) : mr_Met l y_M_scan [Cond.code y_M_scan b_M_scan 5 (some .int)] ({ frames := 6, cells := 1, slots := 6, locals := 113 }) (mr_PC s0 (dC, dI) [(cI, .int), (cR, .object "MeasureRows$Row"), (cL, .long), (cZ, .boolean)] [.ref (r 0), .int a0, .int a1, .int a2] ([((r 0), .inr (0, mf_M r (nI n) nw pb (nI qc))), ((r 1), .inr (1, [.ref (r 2), .ref (r 3)])), ((r 2), .inl (cI, 8, .inl fm)), ((r 3), .inl (cI, 8, .inl fi)), ((r 4), .inl (cR, 80, .inr (.inr (.inr (.inr fr))))), ((r 5), .inl (cI, 80, .inl fl)), ((r 6), .inl (cI, 80, .inl fc)), ((r 7), .inl (cI, 8, .inl fg))] ++ va_pl L f) sz) (va_Qi (fun _ u => u.1 ≤ 80) (fun (u : Nat × (Nat → Int32) × (Nat → Int32) × (Nat → Int32)) t => mr_W (dC, dI) [(cI, .int), (cR, .object "MeasureRows$Row"), (cL, .long), (cZ, .boolean)] (va_A ([((r 0), .inr (0, mf_M r (nI n) nw pb (nI qc))), ((r 1), .inr (1, [.ref (r 2), .ref (r 3)])), ((r 2), .inl (cI, 8, .inl fm)), ((r 3), .inl (cI, 8, .inl fi)), ((r 4), .inl (cR, 80, .inr (.inr (.inr (.inr fr))))), ((r 5), .inl (cI, 80, .inl fl)), ((r 6), .inl (cI, 80, .inl fc)), ((r 7), .inl (cI, 8, .inl fg))] ++ va_pl L f) sz) ([((r 0), .inr (0, mf_M r (nI n) nw pb (nI u.1))), ((r 1), .inr (1, [.ref (r 2), .ref (r 3)])), ((r 2), .inl (cI, 8, .inl fm)), ((r 3), .inl (cI, 8, .inl fi)), ((r 4), .inl (cR, 80, .inr (.inr (.inr (.inr fr))))), ((r 5), .inl (cI, 80, .inl u.2.1)), ((r 6), .inl (cI, 80, .inl u.2.2.1)), ((r 7), .inl (cI, 8, .inl u.2.2.2))] ++ va_pl L f) t) (va_A ([((r 0), .inr (0, mf_M r (nI n) nw pb (nI qc))), ((r 1), .inr (1, [.ref (r 2), .ref (r 3)])), ((r 2), .inl (cI, 8, .inl fm)), ((r 3), .inl (cI, 8, .inl fi)), ((r 4), .inl (cR, 80, .inr (.inr (.inr (.inr fr))))), ((r 5), .inl (cI, 80, .inl fl)), ((r 6), .inl (cI, 80, .inl fc)), ((r 7), .inl (cI, 8, .inl fg))] ++ va_pl L f) sz)) (fun E => E = mr_iae) 1 6 (va_A ([((r 0), .inr (0, mf_M r (nI n) nw pb (nI qc))), ((r 1), .inr (1, [.ref (r 2), .ref (r 3)])), ((r 2), .inl (cI, 8, .inl fm)), ((r 3), .inl (cI, 8, .inl fi)), ((r 4), .inl (cR, 80, .inr (.inr (.inr (.inr fr))))), ((r 5), .inl (cI, 80, .inl fl)), ((r 6), .inl (cI, 80, .inl fc)), ((r 7), .inl (cI, 8, .inl fg))] ++ va_pl L f) sz) := by
  refine mr_of (cc := b_M_scan) (maxL := 5) (ret := (some .int)) (by decide) rfl ?_
  intro p e s m args below meth c s₁ B hml hno hv
  obtain ⟨rfl, hsz, hB, hK, hP, hD0⟩ := hv
  subst hsz
  have hA0 := mr_A hB hD0
  have hD := hD0.self (sz := s.heap.size)
  generalize hAe : va_A ([((r 0), .inr (0, mf_M r (nI n) nw pb (nI qc))), ((r 1), .inr (1, [.ref (r 2), .ref (r 3)])), ((r 2), .inl (cI, 8, .inl fm)), ((r 3), .inl (cI, 8, .inl fi)), ((r 4), .inl (cR, 80, .inr (.inr (.inr (.inr fr))))), ((r 5), .inl (cI, 80, .inl fl)), ((r 6), .inl (cI, 80, .inl fc)), ((r 7), .inl (cI, 8, .inl fg))] ++ va_pl L f) s.heap.size = A at hD hA0 ⊢
  have hA : ∀ q : Nat, s.heap.size ≤ q → A q := fun q h => by rw [← hAe]; exact Or.inr h
  have hS : va_S A s.heap s.heap [] := va_S.rf
  have hP : va_P (dC, dI) mr_cl ([((r 0), .inr (0, mf_M r (nI n) nw pb (nI qc))), ((r 1), .inr (1, [.ref (r 2), .ref (r 3)])), ((r 2), .inl (cI, 8, .inl fm)), ((r 3), .inl (cI, 8, .inl fi)), ((r 4), .inl (cR, 80, .inr (.inr (.inr (.inr fr))))), ((r 5), .inl (cI, 80, .inl fl)), ((r 6), .inl (cI, 80, .inl fc)), ((r 7), .inl (cI, 8, .inl fg))] ++ va_pl L f) s.heap := hP
  have hBH := hB.at hS hA0
  have hx := B.exec
  have hb := B.bytes
  have hr := B.returns
  have hlocks := B.notSynchronized
  have hts : ∀ w ∈ lw_tbl, w.before [.ref (r 0), .int a0, .int a1, .int a2].toArray s = true := hB.hts _
  have hown : s.vm.findClass "MeasureRows" = some m.cls := findClass_of_methodNamed B.named
  have hl := lv_entry ([.ref (r 0), .int a0, .int a1, .int a2]) (n := 5) (Nat.le_of_ble_eq_true rfl)
  rw [lg_entry_eq]
  generalize (lg_sl ([.ref (r 0), .int a0, .int a1, .int a2]) ++ List.replicate (5 - (lg_sl ([.ref (r 0), .int a0, .int a1, .int a2])).length) Slot.unset).toArray = ls at hl ⊢
  have hl : lv_has ls 5 [(0, .ref (r 0)), (1, .int a0), (2, .int a1), (3, .int a2)] := hl
  refine lv_iload_n hx hb d_M_scan_0 rfl (lv_at hl 1 rfl) ?_
  refine vp_callSi (va_Run.run (va_runS (As := [.int a0]) (rest := []) ⟨hx, hb, hml, hown, hts⟩ (mc_M_levelOf l s0 a0) ⟨(mr_cB 1 (hts (Cond.code y_M_levelOf b_M_levelOf 1 (some .int)) mw_99) (hts (Cond.initialized y_M_levelOf.cls) mw_100) (hts (Cond.methodLink "MeasureRows" 71 y_M_levelOf) mw_219) rfl rfl (by decide +kernel) ⟨Nat.le_of_ble_eq_true rfl, Nat.le_of_ble_eq_true rfl⟩), (hts (Cond.static y_M_levelOf) mw_102)⟩ (mr_pre0 hBH) rfl rfl hl.1 rfl (lv_room (Nat.le_of_ble_eq_true rfl)) d_M_scan_1 ⟨Nat.le_of_ble_eq_true rfl, Nat.le_of_ble_eq_true rfl⟩)) (fun r_1 h_2 => ?_)
  subst h_2
  refine lv_if_eq (tgt := 21) hx hb d_M_scan_4 (by decide) (fun c_3 => ?_) (fun c_3 => ?_)
  · obtain ⟨sa, hstr⟩ := mr_str (hts (Cond.stringRef "MeasureRows" 136 "no such code, land or day") mw_220) hown
    exact mr_throw (names := mr_up) hx hb hlt hown (by decide +kernel) (by decide +kernel) (hts (Cond.classLink "MeasureRows" 78 mr_iae) mw_139) (hts (Cond.initialized mr_iae) mw_140) hstr (hB.own _ mr_a_iae) (hl.1.trans hml.symm) d_M_scan_21 d_M_scan_24 d_M_scan_25 d_M_scan_27 d_M_scan_30 hno (Nat.le_of_ble_eq_true rfl) (Nat.le_of_ble_eq_true rfl) (Nat.le_of_ble_eq_true rfl) (Nat.le_of_ble_eq_true rfl) hlocks rfl (Nat.le_of_ble_eq_true rfl) (Nat.le_of_ble_eq_true rfl)
  · refine lv_iload_n hx hb d_M_scan_7 rfl (lv_at hl 2 rfl) ?_
    refine vp_callSi (va_Run.run (va_runS (As := [.int a1]) (rest := []) ⟨hx, hb, hml, hown, hts⟩ (mc_M_isLand l s0 a1) ⟨(mr_cB 1 (hts (Cond.code y_M_isLand b_M_isLand 1 (some .boolean)) mw_1) (hts (Cond.initialized y_M_isLand.cls) mw_2) (hts (Cond.methodLink "MeasureRows" 49 y_M_isLand) mw_3) rfl rfl (by decide +kernel) ⟨Nat.le_of_ble_eq_true rfl, Nat.le_of_ble_eq_true rfl⟩), (hts (Cond.static y_M_isLand) mw_4)⟩ (mr_pre0 hBH) rfl rfl hl.1 rfl (lv_room (Nat.le_of_ble_eq_true rfl)) d_M_scan_8 ⟨Nat.le_of_ble_eq_true rfl, Nat.le_of_ble_eq_true rfl⟩)) (fun r_4 h_5 => ?_)
    subst h_5
    refine lv_if_eq (tgt := 21) hx hb d_M_scan_11 (by decide) (fun c_6 => ?_) (fun c_6 => ?_)
    · obtain ⟨sa, hstr⟩ := mr_str (hts (Cond.stringRef "MeasureRows" 136 "no such code, land or day") mw_220) hown
      exact mr_throw (names := mr_up) hx hb hlt hown (by decide +kernel) (by decide +kernel) (hts (Cond.classLink "MeasureRows" 78 mr_iae) mw_139) (hts (Cond.initialized mr_iae) mw_140) hstr (hB.own _ mr_a_iae) (hl.1.trans hml.symm) d_M_scan_21 d_M_scan_24 d_M_scan_25 d_M_scan_27 d_M_scan_30 hno (Nat.le_of_ble_eq_true rfl) (Nat.le_of_ble_eq_true rfl) (Nat.le_of_ble_eq_true rfl) (Nat.le_of_ble_eq_true rfl) hlocks rfl (Nat.le_of_ble_eq_true rfl) (Nat.le_of_ble_eq_true rfl)
    · refine lv_iload_n hx hb d_M_scan_14 rfl (lv_at hl 3 rfl) ?_
      refine vp_callSi (va_Run.run (va_runS (As := [.int a2]) (rest := []) ⟨hx, hb, hml, hown, hts⟩ (mc_M_isDay l s0 a2) ⟨(mr_cB 1 (hts (Cond.code y_M_isDay b_M_isDay 1 (some .boolean)) mw_9) (hts (Cond.initialized y_M_isDay.cls) mw_10) (hts (Cond.methodLink "MeasureRows" 83 y_M_isDay) mw_11) rfl rfl (by decide +kernel) ⟨Nat.le_of_ble_eq_true rfl, Nat.le_of_ble_eq_true rfl⟩), (hts (Cond.static y_M_isDay) mw_12)⟩ (mr_pre0 hBH) rfl rfl hl.1 rfl (lv_room (Nat.le_of_ble_eq_true rfl)) d_M_scan_15 ⟨Nat.le_of_ble_eq_true rfl, Nat.le_of_ble_eq_true rfl⟩)) (fun r_7 h_8 => ?_)
      subst h_8
      refine lv_if_ne (tgt := 31) hx hb d_M_scan_18 (by decide) (fun c_9 => ?_) (fun c_9 => ?_)
      · refine lv_aload_n hx hb d_M_scan_31 rfl (lv_at hl 0 rfl) ?_
        refine lv_aload_n hx hb d_M_scan_32 rfl (lv_at hl 0 rfl) ?_
        refine va_get (D := (dC, dI)) (ci := 0) (v := .ref (r 5)) (C := R_M) (T := T_M) (N := 9) hx hb hts ti_M hown hK hP 0 rfl rfl 5 (by decide) (hts (Cond.fieldLink "MeasureRows" 32 "MeasureRows" "listed" "[I") mw_60) (fun _ h9 => h9) rfl d_M_scan_33 ?_
        refine lv_iload_n hx hb d_M_scan_36 rfl (lv_at hl 1 rfl) ?_
        refine lv_iload_n hx hb d_M_scan_37 rfl (lv_at hl 2 rfl) ?_
        refine lv_iload_n hx hb d_M_scan_38 rfl (lv_at hl 3 rfl) ?_
        refine lv_aload_n hx hb d_M_scan_39 rfl (lv_at hl 0 rfl) ?_
        refine va_get (D := (dC, dI)) (ci := 0) (v := .int nw) (C := R_M) (T := T_M) (N := 9) hx hb hts ti_M hown hK hP 0 rfl rfl 3 (by decide) (hts (Cond.fieldLink "MeasureRows" 26 "MeasureRows" "now" "I") mw_58) (fun _ h9 => h9) rfl d_M_scan_40 ?_
        have hFc := mr_Afree hD hS hA
        refine va_calli (va_runV (As := [.ref (r 5), .int a0, .int a1, .int a2, .int nw]) (rest := []) (C := R_M) ⟨hx, hb, hml, hown, hts⟩ (mc_M_gather5 l s0 dC dI cI cR cL cZ r n nw pb (nI qc) fm fi fr fl fc fg L f _ a0 a1 a2 nw hR) ⟨(mr_cB 5 (hts (Cond.code y_M_gather b_M_gather 9 (some .int)) mw_221) (hts (Cond.initialized y_M_gather.cls) mw_222) (hts (Cond.methodLink "MeasureRows" 138 y_M_gather) mw_223) rfl rfl (by decide +kernel) ⟨Nat.le_of_ble_eq_true rfl, Nat.le_of_ble_eq_true rfl⟩), (hts (Cond.instanceMethod y_M_gather) mw_224), (hts (Cond.selects "MeasureRows" y_M_gather y_M_gather) mw_225)⟩ (mr_preCV hBH hK hP (hD.weaken (fun _ _ _ h => hA0 _ h)) (ci := 0) (q0 := 0) rfl rfl) rfl rfl hl.1 rfl (lv_room (Nat.le_of_ble_eq_true rfl)) d_M_scan_43 ⟨Nat.le_of_ble_eq_true rfl, Nat.le_of_ble_eq_true rfl⟩) hS (fun q _ h => hFc q h) hFc (fun r_10 u_11 t9 H1 locs ht9 hvm hw hB1 hz1 hk1 hS => ?_)
        obtain ⟨q_12, ft_13⟩ := u_11
        obtain ⟨hP1, hK1, hD1⟩ := hB1
        rw [ht9] at hP1
        have hP := hP1
        have hD := hD1.weaken (fun _ _ _ h => hFc _ h)
        clear hP1 hD1 hK1 hk1 hFc
        generalize H1 = H at hP hS ⊢
        have hP : va_P (dC, dI) mr_cl ([((r 0), .inr (0, mf_M r (nI n) nw pb (nI qc))), ((r 1), .inr (1, [.ref (r 2), .ref (r 3)])), ((r 2), .inl (cI, 8, .inl fm)), ((r 3), .inl (cI, 8, .inl fi)), ((r 4), .inl (cR, 80, .inr (.inr (.inr (.inr fr))))), ((r 5), .inl (cI, 80, .inl ft_13)), ((r 6), .inl (cI, 80, .inl fc)), ((r 7), .inl (cI, 8, .inl fg))] ++ va_pl L f) H := hP
        have hD : va_D A ([((r 0), .inr (0, mf_M r (nI n) nw pb (nI qc))), ((r 1), .inr (1, [.ref (r 2), .ref (r 3)])), ((r 2), .inl (cI, 8, .inl fm)), ((r 3), .inl (cI, 8, .inl fi)), ((r 4), .inl (cR, 80, .inr (.inr (.inr (.inr fr))))), ((r 5), .inl (cI, 80, .inl ft_13)), ((r 6), .inl (cI, 80, .inl fc)), ((r 7), .inl (cI, 8, .inl fg))] ++ va_pl L f) := hD
        have hBH := hB.at hS hA0
        obtain ⟨rfl, hq_q_12⟩ : r_10 = nI q_12 ∧ q_12 ≤ n := hw
        refine lv_istore (lv' := [(4, .int (nI q_12)), (0, .ref (r 0)), (1, .int a0), (2, .int a1), (3, .int a2)]) hx hb d_M_scan_46 hl (by decide) rfl (fun ls hl => ?_)
        refine lv_iload hx hb d_M_scan_48 (lv_at hl 0 rfl) ?_
        refine lv_if_le (tgt := 59) hx hb d_M_scan_50 (by decide) (fun c_14 => ?_) (fun c_14 => ?_)
        · refine lv_iload hx hb d_M_scan_59 (lv_at hl 0 rfl) ?_
          have hP9 := hP
          have hD9 := hD
          refine mr_ret ?_
          refine W.widen (k := 1) (n := 6) (by omega) (by omega) ?_
          exact W.iret (v := nI q_12) hx hb hr (fun t ht hW => ⟨⟨_, (qc, ft_13, fc, fg), rfl, hq, by rw [ht]; exact hP9, va_K.moved hW.alike hK, hD9⟩, hS.F ht⟩) hS.2.2 d_M_scan_61
        · refine lv_aload_n hx hb d_M_scan_53 rfl (lv_at hl 1 rfl) ?_
          refine lv_iload hx hb d_M_scan_54 (lv_at hl 0 rfl) ?_
          refine va_put (D := (dC, dI)) (ci := 0) (v := .int (nI q_12)) (ty := .int) (C := R_M) (T := T_M) (N := 9) hx hb hts ti_M t_M to_M tn_M hown hK hP hD hS 0 rfl rfl 6 (by decide) (hts (Cond.fieldLink "MeasureRows" 36 "MeasureRows" "listedCount" "I") mw_61) (fun _ h9 => h9) rfl (by decide +kernel) rfl rfl (Nat.le_of_ble_eq_true rfl) d_M_scan_56 (fun H locs hP hD hS => ?_)
          have hP : va_P (dC, dI) mr_cl ([((r 0), .inr (0, mf_M r (nI n) nw pb (nI q_12))), ((r 1), .inr (1, [.ref (r 2), .ref (r 3)])), ((r 2), .inl (cI, 8, .inl fm)), ((r 3), .inl (cI, 8, .inl fi)), ((r 4), .inl (cR, 80, .inr (.inr (.inr (.inr fr))))), ((r 5), .inl (cI, 80, .inl ft_13)), ((r 6), .inl (cI, 80, .inl fc)), ((r 7), .inl (cI, 8, .inl fg))] ++ va_pl L f) H := hP
          have hD : va_D A ([((r 0), .inr (0, mf_M r (nI n) nw pb (nI q_12))), ((r 1), .inr (1, [.ref (r 2), .ref (r 3)])), ((r 2), .inl (cI, 8, .inl fm)), ((r 3), .inl (cI, 8, .inl fi)), ((r 4), .inl (cR, 80, .inr (.inr (.inr (.inr fr))))), ((r 5), .inl (cI, 80, .inl ft_13)), ((r 6), .inl (cI, 80, .inl fc)), ((r 7), .inl (cI, 8, .inl fg))] ++ va_pl L f) := hD
          have hBH := hB.at hS hA0
          refine lv_iload hx hb d_M_scan_59 (lv_at hl 0 rfl) ?_
          have hP9 := hP
          have hD9 := hD
          refine mr_ret ?_
          refine W.widen (k := 1) (n := 6) (by omega) (by omega) ?_
          exact W.iret (v := nI q_12) hx hb hr (fun t ht hW => ⟨⟨_, (q_12, ft_13, fc, fg), rfl, (by have := hR.1; omega), by rw [ht]; exact hP9, va_K.moved hW.alike hK, hD9⟩, hS.F ht⟩) hS.2.2 d_M_scan_61
      · obtain ⟨sa, hstr⟩ := mr_str (hts (Cond.stringRef "MeasureRows" 136 "no such code, land or day") mw_220) hown
        exact mr_throw (names := mr_up) hx hb hlt hown (by decide +kernel) (by decide +kernel) (hts (Cond.classLink "MeasureRows" 78 mr_iae) mw_139) (hts (Cond.initialized mr_iae) mw_140) hstr (hB.own _ mr_a_iae) (hl.1.trans hml.symm) d_M_scan_21 d_M_scan_24 d_M_scan_25 d_M_scan_27 d_M_scan_30 hno (Nat.le_of_ble_eq_true rfl) (Nat.le_of_ble_eq_true rfl) (Nat.le_of_ble_eq_true rfl) (Nat.le_of_ble_eq_true rfl) hlocks rfl (Nat.le_of_ble_eq_true rfl) (Nat.le_of_ble_eq_true rfl)
end
section
theorem mr_Dby {A : Nat → Prop} {ws ws' : va_W} (hD : va_D A ws) (g : Nat → Nat) (hg : ∀ (k : Nat) (q : Nat × va_E), ws'[k]? = some q → ws[g k]? = some q) (hi : ∀ i j : Nat, i < ws'.length → j < ws'.length → g i = g j → i = j) : va_D A ws' :=
  ⟨fun i j p q h1 h2 h => hi i j (List.getElem?_eq_some_iff.mp h1).1 (List.getElem?_eq_some_iff.mp h2).1 (hD.1 _ _ _ _ (hg i p h1) (hg j q h2) h), fun k q hk => hD.2 _ _ (hg k q hk)⟩
theorem mr_swap {X P : va_W} {c : Nat × va_E} (k : Nat) (q : Nat × va_E) (hk : ((X ++ [c]) ++ P)[k]? = some q) : ((X ++ P) ++ [c])[if k < X.length then k else if k = X.length then X.length + P.length else k - 1]? = some q := by
  by_cases h1 : k < X.length
  · rw [if_pos h1]
    rw [List.append_assoc, List.getElem?_append_left h1] at hk
    rw [List.append_assoc, List.getElem?_append_left h1]; exact hk
  · rw [if_neg h1]
    rw [List.append_assoc, List.getElem?_append_right (by omega)] at hk
    by_cases h2 : k = X.length
    · rw [if_pos h2]
      subst h2
      rw [Nat.sub_self] at hk
      rw [List.getElem?_append_right (by simp), List.length_append, Nat.sub_self]
      simpa using hk
    · rw [if_neg h2]
      have e : k - X.length = (k - 1 - X.length) + 1 := by omega
      rw [e] at hk
      have hk : P[k - 1 - X.length]? = some q := by simpa using hk
      have hlt : k - 1 - X.length < P.length := (List.getElem?_eq_some_iff.mp hk).1
      rw [List.getElem?_append_left (by rw [List.length_append]; omega), List.getElem?_append_right (by omega)]
      exact hk
theorem mr_swapP {D : va_G} {cl : List vw_C} {X P : va_W} {c : Nat × va_E} {H : Heap} (h : va_P D cl ((X ++ P) ++ [c]) H) : va_P D cl ((X ++ [c]) ++ P) H := h.by _ mr_swap
theorem mr_swapD {A : Nat → Prop} {X P : va_W} {c : Nat × va_E} (h : va_D A ((X ++ P) ++ [c])) : va_D A ((X ++ [c]) ++ P) := mr_Dby h _ mr_swap (fun i j hi hj h => by
  simp only [List.length_append, List.length_cons, List.length_nil] at hi hj
  split at h <;> split at h <;> (try split at h) <;> (try split at h) <;> omega)
theorem mr_notin {A : Nat → Prop} {X : va_W} {L : List Nat} {f : Nat → va_E} {k a : Nat} {e : va_E} (hD : va_D A (X ++ va_pl L f)) (hk : X[k]? = some (a, e)) : a ∉ L := fun ha => by
  have hx : k < X.length := (List.getElem?_eq_some_iff.mp hk).1
  obtain ⟨i, hi⟩ := List.mem_iff_getElem?.mp ha
  have h1 : (X ++ va_pl L f)[k]? = some (a, e) := by rw [List.getElem?_append_left hx]; exact hk
  have h2 : (X ++ va_pl L f)[X.length + i]? = some (a, f a) := by
    rw [List.getElem?_append_right (by omega), show X.length + i - X.length = i by omega]
    unfold va_pl; rw [List.getElem?_map, hi]; rfl
  have := hD.1 _ _ _ _ h1 h2 rfl
  omega
theorem mr_pool3 {L : List Nat} {f : Nat → va_E} {a b d : Nat} {e1 e2 e3 : va_E} (ha : a ∉ L) (hb : b ∉ L) (hd : d ∉ L) (hne : a ≠ b ∧ a ≠ d ∧ b ≠ d) : (a, e1) :: (b, e2) :: (d, e3) :: va_pl L f = va_pl (a :: b :: d :: L) (va_up (va_up (va_up f a e1) b e2) d e3) := by
  obtain ⟨h1, h2, h3⟩ := hne
  unfold va_pl
  rw [List.map_cons, List.map_cons, List.map_cons]
  have e : L.map (fun x => (x, f x)) = L.map (fun x => (x, va_up (va_up (va_up f a e1) b e2) d e3 x)) := List.map_congr_left fun x hx => by
    have q1 : x ≠ a := fun e => ha (e ▸ hx)
    have q2 : x ≠ b := fun e => hb (e ▸ hx)
    have q3 : x ≠ d := fun e => hd (e ▸ hx)
    simp [va_up, q1, q2, q3]
  rw [← e]
  simp [va_up, h1, h2, h3]
theorem mr_RIpush {cI : ClassId} {n : Nat} {L : List Nat} {f : Nat → va_E} {fr : Nat → Option Nat} {a b d k : Nat} {v0 v1 v2 v4 v5 v6 v7 : Int32} {ld kd : Nat → Int32} (hR : mr_RI cI n L f fr) (hn : n < 80) (ha : a ∉ L) (hb : b ∉ L) (hd : d ∉ L) (hne : a ≠ b ∧ a ≠ d ∧ b ≠ d) (hk : k < 8) :
    mr_RI cI (n + 1) (a :: b :: d :: L) (va_up (va_up (va_up f a (.inr (2, [.int v0, .int v1, .int v2, .int (nI k), .int v4, .int v5, .int v6, .int v7, .int (nI 1), .ref b, .ref d]))) b (.inl (cI, 8, .inl ld))) d (.inl (cI, 8, .inl kd))) (va_up fr n (some a)) := by
  obtain ⟨h1, h2, h3⟩ := hne
  refine ⟨by omega, fun i hi => ?_⟩
  by_cases h : i = n
  · subst h
    exact ⟨a, b, d, v0, v1, v2, v4, v5, v6, v7, k, 1, ld, kd, by simp [va_up], by simp, by simp, by simp, by simp [va_up, h1, h2], by simp [va_up, h3], by simp [va_up], hk, by omega, by omega, h3⟩
  · obtain ⟨a', ql', qk', w0, w1, w2, w4, w5, w6, w7, k', t', ld', kd', e, m1, m2, m3, e1, e2, e3, rest⟩ := hR.2 i (by omega)
    have ne : ∀ {x : Nat}, x ∈ L → x ≠ a ∧ x ≠ b ∧ x ≠ d := fun hx => ⟨fun e => ha (e ▸ hx), fun e => hb (e ▸ hx), fun e => hd (e ▸ hx)⟩
    exact ⟨a', ql', qk', w0, w1, w2, w4, w5, w6, w7, k', t', ld', kd', by simp [va_up, h, e], by simp [m1], by simp [m2], by simp [m3], by simp [va_up, ne m1, e1], by simp [va_up, ne m2, e2], by simp [va_up, ne m3, e3], rest⟩
theorem mr_k8 {x : Int32} (h1 : ¬ x < 0) (h2 : ¬ 8 ≤ x) : ∃ k : Nat, k < 8 ∧ x = nI k := by
  obtain ⟨j, hj, rfl⟩ := nI_of h1
  refine ⟨j, ?_, rfl⟩
  rcases Nat.lt_or_ge j 8 with q | q
  · exact q
  · exact absurd (nI_le (a := 8) q hj) h2
theorem mr_n80 {n : Nat} (h : nI n < 80) (hn : n ≤ 80) : n < 80 := by
  rcases Nat.lt_or_ge n 80 with q | q
  · exact q
  · exact absurd h (nI_nlt (b := 80) q (by omega))
theorem mr_ordinj {n : Nat} (is : List Nat) (h1 : is.Nodup) (h2 : ∀ i ∈ is, i < is.length) (h3 : True) : ∀ i j : Nat, i < n → j < n → (if i < is.length then (is[i]?).getD 0 else is.length + (i - is.length)) = (if j < is.length then (is[j]?).getD 0 else is.length + (j - is.length)) → i = j := by
  intro i j _ _ h
  have hb : ∀ i, i < is.length → ∃ x, is[i]? = some x ∧ x < is.length := fun i hi => ⟨is[i], List.getElem?_eq_getElem hi, h2 _ (List.getElem_mem hi)⟩
  by_cases hi : i < is.length
  · by_cases hj : j < is.length
    · rw [if_pos hi, if_pos hj] at h
      obtain ⟨x, hx, _⟩ := hb i hi
      obtain ⟨y, hy, _⟩ := hb j hj
      rw [hx, hy] at h
      have h : x = y := h
      exact (List.getElem?_inj hi h1).mp (by rw [hx, hy, h])
    · rw [if_pos hi, if_neg hj] at h
      obtain ⟨x, hx, hlt⟩ := hb i hi
      rw [hx] at h
      have h : x = is.length + (j - is.length) := h
      omega
  · by_cases hj : j < is.length
    · rw [if_neg hi, if_pos hj] at h
      obtain ⟨x, hx, hlt⟩ := hb j hj
      rw [hx] at h
      have h : is.length + (i - is.length) = x := h
      omega
    · rw [if_neg hi, if_neg hj] at h
      omega
theorem mw_241 : Cond.stringRef "MeasureRows" 80 "no such code or land" ∈ lw_tbl := by decide +kernel
theorem mw_242 : Cond.code y_M_isPlace b_M_isPlace 1 (some .boolean) ∈ lw_tbl := by decide +kernel
theorem mw_243 : Cond.initialized y_M_isPlace.cls ∈ lw_tbl := by decide +kernel
theorem mw_244 : Cond.methodLink "MeasureRows" 75 y_M_isPlace ∈ lw_tbl := by decide +kernel
theorem mw_245 : Cond.static y_M_isPlace ∈ lw_tbl := by decide +kernel
theorem mw_246 : Cond.stringRef "MeasureRows" 91 "no such kind or rank" ∈ lw_tbl := by decide +kernel
theorem mw_247 : Cond.code y_M_leastClash b_M_leastClash 9 (some .int) ∈ lw_tbl := by decide +kernel
theorem mw_248 : Cond.initialized y_M_leastClash.cls ∈ lw_tbl := by decide +kernel
theorem mw_249 : Cond.methodLink "MeasureRows" 98 y_M_leastClash ∈ lw_tbl := by decide +kernel
theorem mw_250 : Cond.instanceMethod y_M_leastClash ∈ lw_tbl := by decide +kernel
theorem mw_251 : Cond.selects "MeasureRows" y_M_leastClash y_M_leastClash ∈ lw_tbl := by decide +kernel
theorem mw_252 : Cond.classLink "MeasureRows" 16 R_R ∈ lw_tbl := by decide +kernel
theorem mw_253 : Cond.instantiable R_R 11 ∈ lw_tbl := by decide +kernel
theorem mw_254 : Cond.initialized R_R ∈ lw_tbl := by decide +kernel
theorem mw_255 : Cond.code y_R_init b_R_init 8 none ∈ lw_tbl := by decide +kernel
theorem mw_256 : Cond.initialized y_R_init.cls ∈ lw_tbl := by decide +kernel
theorem mw_257 : Cond.methodLink "MeasureRows" 102 y_R_init ∈ lw_tbl := by decide +kernel
theorem mw_258 : Cond.instanceMethod y_R_init ∈ lw_tbl := by decide +kernel
theorem mw_259 : Cond.stringRef "MeasureRows" 95 "no room for another row" ∈ lw_tbl := by decide +kernel
set_option maxHeartbeats 4000000 in
set_option maxRecDepth 100000 in
theorem mc_M_row (l : Launch) (hlt : l.stackTraces = false) (s0 : State) (dC : Nat → ClassId) (dI : Nat → Nat → Nat) (cI cR cL cZ : ClassId) (r : Nat → Nat) (n : Nat) (nw pb lc : Int32) (fm fi : Nat → Int32) (fr : Nat → Option Nat) (fl fc fg : Nat → Int32) (L : List Nat) (f : Nat → va_E) (sz : Nat) (a0 : Int32) (a1 : Int32) (a2 : Int32) (a3 : Int32) (a4 : Int32) (a5 : Int32) (a6 : Int32) (hR : mr_RI cI n L f fr) : mr_Met l y_M_row [Cond.code y_M_row b_M_row 9 (some .int)] ({ frames := 6, cells := 3, slots := 27, locals := 92 }) (mr_PC s0 (dC, dI) [(cI, .int), (cR, .object "MeasureRows$Row"), (cL, .long), (cZ, .boolean)] [.ref (r 0), .int a0, .int a1, .int a2, .int a3, .int a4, .int a5, .int a6] ([((r 0), .inr (0, mf_M r (nI n) nw pb lc)), ((r 1), .inr (1, [.ref (r 2), .ref (r 3)])), ((r 2), .inl (cI, 8, .inl fm)), ((r 3), .inl (cI, 8, .inl fi)), ((r 4), .inl (cR, 80, .inr (.inr (.inr (.inr fr))))), ((r 5), .inl (cI, 80, .inl fl)), ((r 6), .inl (cI, 80, .inl fc)), ((r 7), .inl (cI, 8, .inl fg))] ++ va_pl L f) sz) (va_Qi (fun _ _ => True) (fun (u : Unit) t => ∃ (n9 : Nat) (nw9 : Int32) (fr9 : Nat → Option Nat) (L9 : List Nat) (f9 : Nat → va_E), mr_RI cI n9 L9 f9 fr9 ∧ mr_W (dC, dI) [(cI, .int), (cR, .object "MeasureRows$Row"), (cL, .long), (cZ, .boolean)] (va_A ([((r 0), .inr (0, mf_M r (nI n) nw pb lc)), ((r 1), .inr (1, [.ref (r 2), .ref (r 3)])), ((r 2), .inl (cI, 8, .inl fm)), ((r 3), .inl (cI, 8, .inl fi)), ((r 4), .inl (cR, 80, .inr (.inr (.inr (.inr fr))))), ((r 5), .inl (cI, 80, .inl fl)), ((r 6), .inl (cI, 80, .inl fc)), ((r 7), .inl (cI, 8, .inl fg))] ++ va_pl L f) sz) ([((r 0), .inr (0, mf_M r (nI n9) nw9 pb lc)), ((r 1), .inr (1, [.ref (r 2), .ref (r 3)])), ((r 2), .inl (cI, 8, .inl fm)), ((r 3), .inl (cI, 8, .inl fi)), ((r 4), .inl (cR, 80, .inr (.inr (.inr (.inr fr9))))), ((r 5), .inl (cI, 80, .inl fl)), ((r 6), .inl (cI, 80, .inl fc)), ((r 7), .inl (cI, 8, .inl fg))] ++ va_pl L9 f9) t) (va_A ([((r 0), .inr (0, mf_M r (nI n) nw pb lc)), ((r 1), .inr (1, [.ref (r 2), .ref (r 3)])), ((r 2), .inl (cI, 8, .inl fm)), ((r 3), .inl (cI, 8, .inl fi)), ((r 4), .inl (cR, 80, .inr (.inr (.inr (.inr fr))))), ((r 5), .inl (cI, 80, .inl fl)), ((r 6), .inl (cI, 80, .inl fc)), ((r 7), .inl (cI, 8, .inl fg))] ++ va_pl L f) sz)) (fun E => E = mr_iae ∨ E = mr_ise) 3 27 (va_A ([((r 0), .inr (0, mf_M r (nI n) nw pb lc)), ((r 1), .inr (1, [.ref (r 2), .ref (r 3)])), ((r 2), .inl (cI, 8, .inl fm)), ((r 3), .inl (cI, 8, .inl fi)), ((r 4), .inl (cR, 80, .inr (.inr (.inr (.inr fr))))), ((r 5), .inl (cI, 80, .inl fl)), ((r 6), .inl (cI, 80, .inl fc)), ((r 7), .inl (cI, 8, .inl fg))] ++ va_pl L f) sz) := by
  refine mr_of (cc := b_M_row) (maxL := 9) (ret := (some .int)) (by decide) rfl ?_
  intro p e s m args below meth c s₁ B hml hno hv
  obtain ⟨rfl, hsz, hB, hK, hP, hD0⟩ := hv
  subst hsz
  have hA0 := mr_A hB hD0
  have hD := hD0.self (sz := s.heap.size)
  generalize hAe : va_A ([((r 0), .inr (0, mf_M r (nI n) nw pb lc)), ((r 1), .inr (1, [.ref (r 2), .ref (r 3)])), ((r 2), .inl (cI, 8, .inl fm)), ((r 3), .inl (cI, 8, .inl fi)), ((r 4), .inl (cR, 80, .inr (.inr (.inr (.inr fr))))), ((r 5), .inl (cI, 80, .inl fl)), ((r 6), .inl (cI, 80, .inl fc)), ((r 7), .inl (cI, 8, .inl fg))] ++ va_pl L f) s.heap.size = A at hD hA0 ⊢
  have hA : ∀ q : Nat, s.heap.size ≤ q → A q := fun q h => by rw [← hAe]; exact Or.inr h
  have hS : va_S A s.heap s.heap [] := va_S.rf
  have hP : va_P (dC, dI) mr_cl ([((r 0), .inr (0, mf_M r (nI n) nw pb lc)), ((r 1), .inr (1, [.ref (r 2), .ref (r 3)])), ((r 2), .inl (cI, 8, .inl fm)), ((r 3), .inl (cI, 8, .inl fi)), ((r 4), .inl (cR, 80, .inr (.inr (.inr (.inr fr))))), ((r 5), .inl (cI, 80, .inl fl)), ((r 6), .inl (cI, 80, .inl fc)), ((r 7), .inl (cI, 8, .inl fg))] ++ va_pl L f) s.heap := hP
  have hBH := hB.at hS hA0
  have hx := B.exec
  have hb := B.bytes
  have hr := B.returns
  have hlocks := B.notSynchronized
  have hts : ∀ w ∈ lw_tbl, w.before [.ref (r 0), .int a0, .int a1, .int a2, .int a3, .int a4, .int a5, .int a6].toArray s = true := hB.hts _
  have hown : s.vm.findClass "MeasureRows" = some m.cls := findClass_of_methodNamed B.named
  have hl := lv_entry ([.ref (r 0), .int a0, .int a1, .int a2, .int a3, .int a4, .int a5, .int a6]) (n := 9) (Nat.le_of_ble_eq_true rfl)
  rw [lg_entry_eq]
  generalize (lg_sl ([.ref (r 0), .int a0, .int a1, .int a2, .int a3, .int a4, .int a5, .int a6]) ++ List.replicate (9 - (lg_sl ([.ref (r 0), .int a0, .int a1, .int a2, .int a3, .int a4, .int a5, .int a6])).length) Slot.unset).toArray = ls at hl ⊢
  have hl : lv_has ls 9 [(0, .ref (r 0)), (1, .int a0), (2, .int a1), (3, .int a2), (4, .int a3), (5, .int a4), (6, .int a5), (7, .int a6)] := hl
  refine lv_iload_n hx hb d_M_row_0 rfl (lv_at hl 1 rfl) ?_
  refine vp_callSi (va_Run.run (va_runS (As := [.int a0]) (rest := []) ⟨hx, hb, hml, hown, hts⟩ (mc_M_levelOf l s0 a0) ⟨(mr_cB 1 (hts (Cond.code y_M_levelOf b_M_levelOf 1 (some .int)) mw_99) (hts (Cond.initialized y_M_levelOf.cls) mw_100) (hts (Cond.methodLink "MeasureRows" 71 y_M_levelOf) mw_219) rfl rfl (by decide +kernel) ⟨Nat.le_of_ble_eq_true rfl, Nat.le_of_ble_eq_true rfl⟩), (hts (Cond.static y_M_levelOf) mw_102)⟩ (mr_pre0 hBH) rfl rfl hl.1 rfl (lv_room (Nat.le_of_ble_eq_true rfl)) d_M_row_1 ⟨Nat.le_of_ble_eq_true rfl, Nat.le_of_ble_eq_true rfl⟩)) (fun r_1 h_2 => ?_)
  subst h_2
  refine lv_if_eq (tgt := 14) hx hb d_M_row_4 (by decide) (fun c_3 => ?_) (fun c_3 => ?_)
  · obtain ⟨sa, hstr⟩ := mr_str (hts (Cond.stringRef "MeasureRows" 80 "no such code or land") mw_241) hown
    exact mr_throw (names := mr_up) hx hb hlt hown (by decide +kernel) (by decide +kernel) (hts (Cond.classLink "MeasureRows" 78 mr_iae) mw_139) (hts (Cond.initialized mr_iae) mw_140) hstr (hB.own _ mr_a_iae) (hl.1.trans hml.symm) d_M_row_14 d_M_row_17 d_M_row_18 d_M_row_20 d_M_row_23 hno (Nat.le_of_ble_eq_true rfl) (Nat.le_of_ble_eq_true rfl) (Nat.le_of_ble_eq_true rfl) (Nat.le_of_ble_eq_true rfl) hlocks (Or.inl rfl) (Nat.le_of_ble_eq_true rfl) (Nat.le_of_ble_eq_true rfl)
  · refine lv_iload_n hx hb d_M_row_7 rfl (lv_at hl 2 rfl) ?_
    refine vp_callSi (va_Run.run (va_runS (As := [.int a1]) (rest := []) ⟨hx, hb, hml, hown, hts⟩ (mc_M_isPlace l s0 a1) ⟨(mr_cB 1 (hts (Cond.code y_M_isPlace b_M_isPlace 1 (some .boolean)) mw_242) (hts (Cond.initialized y_M_isPlace.cls) mw_243) (hts (Cond.methodLink "MeasureRows" 75 y_M_isPlace) mw_244) rfl rfl (by decide +kernel) ⟨Nat.le_of_ble_eq_true rfl, Nat.le_of_ble_eq_true rfl⟩), (hts (Cond.static y_M_isPlace) mw_245)⟩ (mr_pre0 hBH) rfl rfl hl.1 rfl (lv_room (Nat.le_of_ble_eq_true rfl)) d_M_row_8 ⟨Nat.le_of_ble_eq_true rfl, Nat.le_of_ble_eq_true rfl⟩)) (fun r_4 h_5 => ?_)
    subst h_5
    refine lv_if_ne (tgt := 24) hx hb d_M_row_11 (by decide) (fun c_6 => ?_) (fun c_6 => ?_)
    · refine lv_iload_n hx hb d_M_row_24 rfl (lv_at hl 3 rfl) ?_
      refine vp_callSi (va_Run.run (va_runS (As := [.int a2]) (rest := []) ⟨hx, hb, hml, hown, hts⟩ (mc_M_isDay l s0 a2) ⟨(mr_cB 1 (hts (Cond.code y_M_isDay b_M_isDay 1 (some .boolean)) mw_9) (hts (Cond.initialized y_M_isDay.cls) mw_10) (hts (Cond.methodLink "MeasureRows" 83 y_M_isDay) mw_11) rfl rfl (by decide +kernel) ⟨Nat.le_of_ble_eq_true rfl, Nat.le_of_ble_eq_true rfl⟩), (hts (Cond.static y_M_isDay) mw_12)⟩ (mr_pre0 hBH) rfl rfl hl.1 rfl (lv_room (Nat.le_of_ble_eq_true rfl)) d_M_row_25 ⟨Nat.le_of_ble_eq_true rfl, Nat.le_of_ble_eq_true rfl⟩)) (fun r_7 h_8 => ?_)
      subst h_8
      refine lv_if_eq (tgt := 53) hx hb d_M_row_28 (by decide) (fun c_9 => ?_) (fun c_9 => ?_)
      · obtain ⟨sa, hstr⟩ := mr_str (hts (Cond.stringRef "MeasureRows" 89 "no such days") mw_138) hown
        exact mr_throw (names := mr_up) hx hb hlt hown (by decide +kernel) (by decide +kernel) (hts (Cond.classLink "MeasureRows" 78 mr_iae) mw_139) (hts (Cond.initialized mr_iae) mw_140) hstr (hB.own _ mr_a_iae) (hl.1.trans hml.symm) d_M_row_53 d_M_row_56 d_M_row_57 d_M_row_59 d_M_row_62 hno (Nat.le_of_ble_eq_true rfl) (Nat.le_of_ble_eq_true rfl) (Nat.le_of_ble_eq_true rfl) (Nat.le_of_ble_eq_true rfl) hlocks (Or.inl rfl) (Nat.le_of_ble_eq_true rfl) (Nat.le_of_ble_eq_true rfl)
      · refine lv_iload hx hb d_M_row_31 (lv_at hl 4 rfl) ?_
        refine vp_callSi (va_Run.run (va_runS (As := [.int a3]) (rest := []) ⟨hx, hb, hml, hown, hts⟩ (mc_M_isLastDay l s0 a3) ⟨(mr_cB 1 (hts (Cond.code y_M_isLastDay b_M_isLastDay 1 (some .boolean)) mw_184) (hts (Cond.initialized y_M_isLastDay.cls) mw_185) (hts (Cond.methodLink "MeasureRows" 86 y_M_isLastDay) mw_186) rfl rfl (by decide +kernel) ⟨Nat.le_of_ble_eq_true rfl, Nat.le_of_ble_eq_true rfl⟩), (hts (Cond.static y_M_isLastDay) mw_187)⟩ (mr_pre0 hBH) rfl rfl hl.1 rfl (lv_room (Nat.le_of_ble_eq_true rfl)) d_M_row_33 ⟨Nat.le_of_ble_eq_true rfl, Nat.le_of_ble_eq_true rfl⟩)) (fun r_10 h_11 => ?_)
        subst h_11
        refine lv_if_eq (tgt := 53) hx hb d_M_row_36 (by decide) (fun c_12 => ?_) (fun c_12 => ?_)
        · obtain ⟨sa, hstr⟩ := mr_str (hts (Cond.stringRef "MeasureRows" 89 "no such days") mw_138) hown
          exact mr_throw (names := mr_up) hx hb hlt hown (by decide +kernel) (by decide +kernel) (hts (Cond.classLink "MeasureRows" 78 mr_iae) mw_139) (hts (Cond.initialized mr_iae) mw_140) hstr (hB.own _ mr_a_iae) (hl.1.trans hml.symm) d_M_row_53 d_M_row_56 d_M_row_57 d_M_row_59 d_M_row_62 hno (Nat.le_of_ble_eq_true rfl) (Nat.le_of_ble_eq_true rfl) (Nat.le_of_ble_eq_true rfl) (Nat.le_of_ble_eq_true rfl) hlocks (Or.inl rfl) (Nat.le_of_ble_eq_true rfl) (Nat.le_of_ble_eq_true rfl)
        · refine lv_iload hx hb d_M_row_39 (lv_at hl 7 rfl) ?_
          refine vp_callSi (va_Run.run (va_runS (As := [.int a6]) (rest := []) ⟨hx, hb, hml, hown, hts⟩ (mc_M_isDay l s0 a6) ⟨(mr_cB 1 (hts (Cond.code y_M_isDay b_M_isDay 1 (some .boolean)) mw_9) (hts (Cond.initialized y_M_isDay.cls) mw_10) (hts (Cond.methodLink "MeasureRows" 83 y_M_isDay) mw_11) rfl rfl (by decide +kernel) ⟨Nat.le_of_ble_eq_true rfl, Nat.le_of_ble_eq_true rfl⟩), (hts (Cond.static y_M_isDay) mw_12)⟩ (mr_pre0 hBH) rfl rfl hl.1 rfl (lv_room (Nat.le_of_ble_eq_true rfl)) d_M_row_41 ⟨Nat.le_of_ble_eq_true rfl, Nat.le_of_ble_eq_true rfl⟩)) (fun r_13 h_14 => ?_)
          subst h_14
          refine lv_if_eq (tgt := 53) hx hb d_M_row_44 (by decide) (fun c_15 => ?_) (fun c_15 => ?_)
          · obtain ⟨sa, hstr⟩ := mr_str (hts (Cond.stringRef "MeasureRows" 89 "no such days") mw_138) hown
            exact mr_throw (names := mr_up) hx hb hlt hown (by decide +kernel) (by decide +kernel) (hts (Cond.classLink "MeasureRows" 78 mr_iae) mw_139) (hts (Cond.initialized mr_iae) mw_140) hstr (hB.own _ mr_a_iae) (hl.1.trans hml.symm) d_M_row_53 d_M_row_56 d_M_row_57 d_M_row_59 d_M_row_62 hno (Nat.le_of_ble_eq_true rfl) (Nat.le_of_ble_eq_true rfl) (Nat.le_of_ble_eq_true rfl) (Nat.le_of_ble_eq_true rfl) hlocks (Or.inl rfl) (Nat.le_of_ble_eq_true rfl) (Nat.le_of_ble_eq_true rfl)
          · refine lv_iload hx hb d_M_row_47 (lv_at hl 4 rfl) ?_
            refine lv_iload_n hx hb d_M_row_49 rfl (lv_at hl 3 rfl) ?_
            refine lv_icmp_ge (tgt := 63) hx hb d_M_row_50 (by decide) (fun c_16 => ?_) (fun c_16 => ?_)
            · refine lv_iload hx hb d_M_row_63 (lv_at hl 5 rfl) ?_
              refine lv_if_lt (tgt := 87) hx hb d_M_row_65 (by decide) (fun c_17 => ?_) (fun c_17 => ?_)
              · obtain ⟨sa, hstr⟩ := mr_str (hts (Cond.stringRef "MeasureRows" 91 "no such kind or rank") mw_246) hown
                exact mr_throw (names := mr_up) hx hb hlt hown (by decide +kernel) (by decide +kernel) (hts (Cond.classLink "MeasureRows" 78 mr_iae) mw_139) (hts (Cond.initialized mr_iae) mw_140) hstr (hB.own _ mr_a_iae) (hl.1.trans hml.symm) d_M_row_87 d_M_row_90 d_M_row_91 d_M_row_93 d_M_row_96 hno (Nat.le_of_ble_eq_true rfl) (Nat.le_of_ble_eq_true rfl) (Nat.le_of_ble_eq_true rfl) (Nat.le_of_ble_eq_true rfl) hlocks (Or.inl rfl) (Nat.le_of_ble_eq_true rfl) (Nat.le_of_ble_eq_true rfl)
              · refine lv_iload hx hb d_M_row_68 (lv_at hl 5 rfl) ?_
                refine lv_bipush (v := 8) hx hb d_M_row_70 (by decide) ?_
                refine lv_icmp_ge (tgt := 87) hx hb d_M_row_72 (by decide) (fun c_18 => ?_) (fun c_18 => ?_)
                · obtain ⟨sa, hstr⟩ := mr_str (hts (Cond.stringRef "MeasureRows" 91 "no such kind or rank") mw_246) hown
                  exact mr_throw (names := mr_up) hx hb hlt hown (by decide +kernel) (by decide +kernel) (hts (Cond.classLink "MeasureRows" 78 mr_iae) mw_139) (hts (Cond.initialized mr_iae) mw_140) hstr (hB.own _ mr_a_iae) (hl.1.trans hml.symm) d_M_row_87 d_M_row_90 d_M_row_91 d_M_row_93 d_M_row_96 hno (Nat.le_of_ble_eq_true rfl) (Nat.le_of_ble_eq_true rfl) (Nat.le_of_ble_eq_true rfl) (Nat.le_of_ble_eq_true rfl) hlocks (Or.inl rfl) (Nat.le_of_ble_eq_true rfl) (Nat.le_of_ble_eq_true rfl)
                · refine lv_iload hx hb d_M_row_75 (lv_at hl 6 rfl) ?_
                  refine lv_if_lt (tgt := 87) hx hb d_M_row_77 (by decide) (fun c_19 => ?_) (fun c_19 => ?_)
                  · obtain ⟨sa, hstr⟩ := mr_str (hts (Cond.stringRef "MeasureRows" 91 "no such kind or rank") mw_246) hown
                    exact mr_throw (names := mr_up) hx hb hlt hown (by decide +kernel) (by decide +kernel) (hts (Cond.classLink "MeasureRows" 78 mr_iae) mw_139) (hts (Cond.initialized mr_iae) mw_140) hstr (hB.own _ mr_a_iae) (hl.1.trans hml.symm) d_M_row_87 d_M_row_90 d_M_row_91 d_M_row_93 d_M_row_96 hno (Nat.le_of_ble_eq_true rfl) (Nat.le_of_ble_eq_true rfl) (Nat.le_of_ble_eq_true rfl) (Nat.le_of_ble_eq_true rfl) hlocks (Or.inl rfl) (Nat.le_of_ble_eq_true rfl) (Nat.le_of_ble_eq_true rfl)
                  · refine lv_iload hx hb d_M_row_80 (lv_at hl 6 rfl) ?_
                    refine lv_bipush (v := 10) hx hb d_M_row_82 (by decide) ?_
                    refine lv_icmp_lt (tgt := 97) hx hb d_M_row_84 (by decide) (fun c_20 => ?_) (fun c_20 => ?_)
                    · refine lv_aload_n hx hb d_M_row_97 rfl (lv_at hl 0 rfl) ?_
                      refine va_get (D := (dC, dI)) (ci := 0) (v := .int (nI n)) (C := R_M) (T := T_M) (N := 9) hx hb hts ti_M hown hK hP 0 rfl rfl 2 (by decide) (hts (Cond.fieldLink "MeasureRows" 22 "MeasureRows" "rowCount" "I") mw_57) (fun _ h9 => h9) rfl d_M_row_98 ?_
                      refine lv_bipush (v := 80) hx hb d_M_row_101 (by decide) ?_
                      refine lv_icmp_lt (tgt := 116) hx hb d_M_row_103 (by decide) (fun c_21 => ?_) (fun c_21 => ?_)
                      · refine lv_aload_n hx hb d_M_row_116 rfl (lv_at hl 0 rfl) ?_
                        refine lv_iload_n hx hb d_M_row_117 rfl (lv_at hl 1 rfl) ?_
                        refine lv_iload_n hx hb d_M_row_118 rfl (lv_at hl 2 rfl) ?_
                        refine lv_iload_n hx hb d_M_row_119 rfl (lv_at hl 3 rfl) ?_
                        refine lv_iload hx hb d_M_row_120 (lv_at hl 4 rfl) ?_
                        refine lv_iload hx hb d_M_row_122 (lv_at hl 5 rfl) ?_
                        refine lv_iload hx hb d_M_row_124 (lv_at hl 6 rfl) ?_
                        refine vp_callSi (va_Run.run (va_runV (As := [.int a0, .int a1, .int a2, .int a3, .int a4, .int a5]) (rest := []) (C := R_M) ⟨hx, hb, hml, hown, hts⟩ (mc_M_leastClash l s0 dC dI cI cR cL cZ r n nw pb lc fm fi fr fl fc fg L f a0 a1 a2 a3 a4 a5 hR) ⟨(mr_cB 6 (hts (Cond.code y_M_leastClash b_M_leastClash 9 (some .int)) mw_247) (hts (Cond.initialized y_M_leastClash.cls) mw_248) (hts (Cond.methodLink "MeasureRows" 98 y_M_leastClash) mw_249) rfl rfl (by decide +kernel) ⟨Nat.le_of_ble_eq_true rfl, Nat.le_of_ble_eq_true rfl⟩), (hts (Cond.instanceMethod y_M_leastClash) mw_250), (hts (Cond.selects "MeasureRows" y_M_leastClash y_M_leastClash) mw_251)⟩ (mr_preV hBH hK hP (ci := 0) (q0 := 0) rfl rfl) rfl rfl hl.1 rfl (lv_room (Nat.le_of_ble_eq_true rfl)) d_M_row_126 ⟨Nat.le_of_ble_eq_true rfl, Nat.le_of_ble_eq_true rfl⟩)) (fun r_22 h_23 => ?_)
                        refine lv_istore (lv' := [(8, .int r_22), (0, .ref (r 0)), (1, .int a0), (2, .int a1), (3, .int a2), (4, .int a3), (5, .int a4), (6, .int a5), (7, .int a6)]) hx hb d_M_row_129 hl (by decide) rfl (fun ls hl => ?_)
                        refine lv_iload hx hb d_M_row_131 (lv_at hl 0 rfl) ?_
                        refine lv_iconst (v := (-1)) hx hb d_M_row_133 (by decide) ?_
                        refine lv_icmp_eq (tgt := 142) hx hb d_M_row_134 (by decide) (fun c_24 => ?_) (fun c_24 => ?_)
                        · refine lv_aload_n hx hb d_M_row_142 rfl (lv_at hl 1 rfl) ?_
                          refine va_get (D := (dC, dI)) (ci := 0) (v := .ref (r 4)) (C := R_M) (T := T_M) (N := 9) hx hb hts ti_M hown hK hP 0 rfl rfl 1 (by decide) (hts (Cond.fieldLink "MeasureRows" 18 "MeasureRows" "rows" "[LMeasureRows$Row;") mw_56) (fun _ h9 => h9) rfl d_M_row_143 ?_
                          refine lv_aload_n hx hb d_M_row_146 rfl (lv_at hl 1 rfl) ?_
                          refine va_get (D := (dC, dI)) (ci := 0) (v := .int (nI n)) (C := R_M) (T := T_M) (N := 9) hx hb hts ti_M hown hK hP 0 rfl rfl 2 (by decide) (hts (Cond.fieldLink "MeasureRows" 22 "MeasureRows" "rowCount" "I") mw_57) (fun _ h9 => h9) rfl d_M_row_147 ?_
                          refine va_new (ci := 2) (fs := [.int 0, .int 0, .int 0, .int 0, .int 0, .int 0, .int 0, .int 0, .int 0, .null, .null]) (C := R_R) (T := T_R) (N := 11) hx hb hts ti_R t_R to_R hown (hts (Cond.classLink "MeasureRows" 16 R_R) mw_252) (hts (Cond.instantiable R_R 11) mw_253) (hts (Cond.initialized R_R) mw_254) hK hP hD hS hA rfl (fun j hj => by rcases (show j = 0 ∨ j = 1 ∨ j = 2 ∨ j = 3 ∨ j = 4 ∨ j = 5 ∨ j = 6 ∨ j = 7 ∨ j = 8 ∨ j = 9 ∨ j = 10 by omega) with rfl | rfl | rfl | rfl | rfl | rfl | rfl | rfl | rfl | rfl | rfl <;> rfl) (Nat.le_of_ble_eq_true rfl) (Nat.le_of_ble_eq_true rfl) d_M_row_150 (fun q_25 H hP hD hS => ?_)
                          have hP := mr_swapP (X := [((r 0), .inr (0, mf_M r (nI n) nw pb lc)), ((r 1), .inr (1, [.ref (r 2), .ref (r 3)])), ((r 2), .inl (cI, 8, .inl fm)), ((r 3), .inl (cI, 8, .inl fi)), ((r 4), .inl (cR, 80, .inr (.inr (.inr (.inr fr))))), ((r 5), .inl (cI, 80, .inl fl)), ((r 6), .inl (cI, 80, .inl fc)), ((r 7), .inl (cI, 8, .inl fg))]) (P := va_pl L f) hP
                          have hD := mr_swapD (X := [((r 0), .inr (0, mf_M r (nI n) nw pb lc)), ((r 1), .inr (1, [.ref (r 2), .ref (r 3)])), ((r 2), .inl (cI, 8, .inl fm)), ((r 3), .inl (cI, 8, .inl fi)), ((r 4), .inl (cR, 80, .inr (.inr (.inr (.inr fr))))), ((r 5), .inl (cI, 80, .inl fl)), ((r 6), .inl (cI, 80, .inl fc)), ((r 7), .inl (cI, 8, .inl fg))]) (P := va_pl L f) hD
                          have hP : va_P (dC, dI) mr_cl ([((r 0), .inr (0, mf_M r (nI n) nw pb lc)), ((r 1), .inr (1, [.ref (r 2), .ref (r 3)])), ((r 2), .inl (cI, 8, .inl fm)), ((r 3), .inl (cI, 8, .inl fi)), ((r 4), .inl (cR, 80, .inr (.inr (.inr (.inr fr))))), ((r 5), .inl (cI, 80, .inl fl)), ((r 6), .inl (cI, 80, .inl fc)), ((r 7), .inl (cI, 8, .inl fg)), (q_25, .inr (2, [.int 0, .int 0, .int 0, .int 0, .int 0, .int 0, .int 0, .int 0, .int 0, .null, .null]))] ++ va_pl L f) H := hP
                          have hD : va_D A ([((r 0), .inr (0, mf_M r (nI n) nw pb lc)), ((r 1), .inr (1, [.ref (r 2), .ref (r 3)])), ((r 2), .inl (cI, 8, .inl fm)), ((r 3), .inl (cI, 8, .inl fi)), ((r 4), .inl (cR, 80, .inr (.inr (.inr (.inr fr))))), ((r 5), .inl (cI, 80, .inl fl)), ((r 6), .inl (cI, 80, .inl fc)), ((r 7), .inl (cI, 8, .inl fg)), (q_25, .inr (2, [.int 0, .int 0, .int 0, .int 0, .int 0, .int 0, .int 0, .int 0, .int 0, .null, .null]))] ++ va_pl L f) := hD
                          have hBH := hB.at hS hA0
                          refine W.widen (k := 1) (n := 11) (by omega) (by omega) ?_
                          refine lv_dup hx hb d_M_row_153 rfl ?_
                          refine lv_iload_n hx hb d_M_row_154 rfl (lv_at hl 2 rfl) ?_
                          refine lv_iload_n hx hb d_M_row_155 rfl (lv_at hl 3 rfl) ?_
                          refine lv_iload_n hx hb d_M_row_156 rfl (lv_at hl 4 rfl) ?_
                          refine lv_iload hx hb d_M_row_157 (lv_at hl 5 rfl) ?_
                          refine lv_iload hx hb d_M_row_159 (lv_at hl 6 rfl) ?_
                          refine lv_iload hx hb d_M_row_161 (lv_at hl 7 rfl) ?_
                          refine lv_iload hx hb d_M_row_163 (lv_at hl 8 rfl) ?_
                          have hPc := hP.sub (ws' := [(q_25, .inr (2, [.int 0, .int 0, .int 0, .int 0, .int 0, .int 0, .int 0, .int 0, .int 0, .null, .null]))]) [8] rfl
                          have hDc := hD.sub (ws' := [(q_25, .inr (2, [.int 0, .int 0, .int 0, .int 0, .int 0, .int 0, .int 0, .int 0, .int 0, .null, .null]))]) [8] (by decide) rfl
                          have hFc := va_free (wc := [(q_25, .inr (2, [.int 0, .int 0, .int 0, .int 0, .int 0, .int 0, .int 0, .int 0, .int 0, .null, .null]))]) hD hS hA [8] rfl
                          refine va_callv (va_runI (As := [.int a0, .int a1, .int a2, .int a3, .int a4, .int a5, .int a6]) (rest := [.ref q_25, .int (nI n), .ref (r 4)]) ⟨hx, hb, hml, hown, hts⟩ (mc_R_init l s0 dC dI cI cR cL cZ q_25 _ a0 a1 a2 a3 a4 a5 a6) ⟨(mr_cB 7 (hts (Cond.code y_R_init b_R_init 8 none) mw_255) (hts (Cond.initialized y_R_init.cls) mw_256) (hts (Cond.methodLink "MeasureRows" 102 y_R_init) mw_257) rfl rfl (by decide +kernel) ⟨Nat.le_of_ble_eq_true rfl, Nat.le_of_ble_eq_true rfl⟩), rfl, (hts (Cond.instanceMethod y_R_init) mw_258)⟩ (mr_preCS hBH hK hPc (hDc.weaken (fun _ _ _ h => hA0 _ h))) rfl rfl hl.1 rfl (lv_room (Nat.le_of_ble_eq_true rfl)) d_M_row_165 ⟨Nat.le_of_ble_eq_true rfl, Nat.le_of_ble_eq_true rfl⟩) hS (fun q _ h => hFc q h) hFc (fun u_27 t H1 locs ht hvm hw hB1 hz1 hk1 hS => ?_)
                          obtain ⟨rl_28, rk_29⟩ := u_27
                          obtain ⟨hP1, hK1, hD1⟩ := hB1
                          rw [ht] at hP1
                          obtain ⟨hP, hD⟩ := va_joinQ (X := [((r 0), .inr (0, mf_M r (nI n) nw pb lc)), ((r 1), .inr (1, [.ref (r 2), .ref (r 3)])), ((r 2), .inl (cI, 8, .inl fm)), ((r 3), .inl (cI, 8, .inl fi)), ((r 4), .inl (cR, 80, .inr (.inr (.inr (.inr fr))))), ((r 5), .inl (cI, 80, .inl fl)), ((r 6), .inl (cI, 80, .inl fc)), ((r 7), .inl (cI, 8, .inl fg)), (q_25, .inr (2, [.int 0, .int 0, .int 0, .int 0, .int 0, .int 0, .int 0, .int 0, .int 0, .null, .null]))]) (wr := [((r 0), .inr (0, mf_M r (nI n) nw pb lc)), ((r 1), .inr (1, [.ref (r 2), .ref (r 3)])), ((r 2), .inl (cI, 8, .inl fm)), ((r 3), .inl (cI, 8, .inl fi)), ((r 4), .inl (cR, 80, .inr (.inr (.inr (.inr fr))))), ((r 5), .inl (cI, 80, .inl fl)), ((r 6), .inl (cI, 80, .inl fc)), ((r 7), .inl (cI, 8, .inl fg))]) (w1 := [(q_25, .inr (2, [.int a0, .int a1, .int a2, .int a4, .int a5, .int a6, .int 0, .int 0, .int 1, .ref rl_28, .ref rk_29])), (rl_28, .inl (cI, 8, .inl (upd (fun _ => 0) (0 : Int32).toNatClampNeg a3))), (rk_29, .inl (cI, 8, .inl (upd (fun _ => 0) (0 : Int32).toNatClampNeg a6)))]) hP hD [8] [0, 1, 2, 3, 4, 5, 6, 7] rfl rfl (by decide) (by decide) hk1 hFc hP1 hD1
                          clear hK1 hk1 hPc hDc hFc
                          generalize H1 = H at hP hS ht ⊢
                          have hP : va_P (dC, dI) mr_cl ([((r 0), .inr (0, mf_M r (nI n) nw pb lc)), ((r 1), .inr (1, [.ref (r 2), .ref (r 3)])), ((r 2), .inl (cI, 8, .inl fm)), ((r 3), .inl (cI, 8, .inl fi)), ((r 4), .inl (cR, 80, .inr (.inr (.inr (.inr fr))))), ((r 5), .inl (cI, 80, .inl fl)), ((r 6), .inl (cI, 80, .inl fc)), ((r 7), .inl (cI, 8, .inl fg)), (q_25, .inr (2, [.int a0, .int a1, .int a2, .int a4, .int a5, .int a6, .int 0, .int 0, .int 1, .ref rl_28, .ref rk_29])), (rl_28, .inl (cI, 8, .inl (upd (fun _ => 0) (0 : Int32).toNatClampNeg a3))), (rk_29, .inl (cI, 8, .inl (upd (fun _ => 0) (0 : Int32).toNatClampNeg a6)))] ++ va_pl L f) H := hP
                          have hD : va_D A ([((r 0), .inr (0, mf_M r (nI n) nw pb lc)), ((r 1), .inr (1, [.ref (r 2), .ref (r 3)])), ((r 2), .inl (cI, 8, .inl fm)), ((r 3), .inl (cI, 8, .inl fi)), ((r 4), .inl (cR, 80, .inr (.inr (.inr (.inr fr))))), ((r 5), .inl (cI, 80, .inl fl)), ((r 6), .inl (cI, 80, .inl fc)), ((r 7), .inl (cI, 8, .inl fg)), (q_25, .inr (2, [.int a0, .int a1, .int a2, .int a4, .int a5, .int a6, .int 0, .int 0, .int 1, .ref rl_28, .ref rk_29])), (rl_28, .inl (cI, 8, .inl (upd (fun _ => 0) (0 : Int32).toNatClampNeg a3))), (rk_29, .inl (cI, 8, .inl (upd (fun _ => 0) (0 : Int32).toNatClampNeg a6)))] ++ va_pl L f) := hD
                          have hBH := hB.at hS hA0
                          refine W.widen (k := 3) (n := 27) (by omega) (by omega) ?_
                          refine va_astq (D := (dC, dI)) hx hb hK hP hD hS 4 1 8 2 rfl rfl rfl rfl (i := (nI n)) (nI_in (mr_n80 c_21 hR.1) (by decide)) d_M_row_168 (fun H locs hP hD hS => ?_)
                          have hP : va_P (dC, dI) mr_cl ([((r 0), .inr (0, mf_M r (nI n) nw pb lc)), ((r 1), .inr (1, [.ref (r 2), .ref (r 3)])), ((r 2), .inl (cI, 8, .inl fm)), ((r 3), .inl (cI, 8, .inl fi)), ((r 4), .inl (cR, 80, .inr (.inr (.inr (.inr (va_up fr (nI n).toNatClampNeg (some q_25))))))), ((r 5), .inl (cI, 80, .inl fl)), ((r 6), .inl (cI, 80, .inl fc)), ((r 7), .inl (cI, 8, .inl fg)), (q_25, .inr (2, [.int a0, .int a1, .int a2, .int a4, .int a5, .int a6, .int 0, .int 0, .int 1, .ref rl_28, .ref rk_29])), (rl_28, .inl (cI, 8, .inl (upd (fun _ => 0) (0 : Int32).toNatClampNeg a3))), (rk_29, .inl (cI, 8, .inl (upd (fun _ => 0) (0 : Int32).toNatClampNeg a6)))] ++ va_pl L f) H := hP
                          have hD : va_D A ([((r 0), .inr (0, mf_M r (nI n) nw pb lc)), ((r 1), .inr (1, [.ref (r 2), .ref (r 3)])), ((r 2), .inl (cI, 8, .inl fm)), ((r 3), .inl (cI, 8, .inl fi)), ((r 4), .inl (cR, 80, .inr (.inr (.inr (.inr (va_up fr (nI n).toNatClampNeg (some q_25))))))), ((r 5), .inl (cI, 80, .inl fl)), ((r 6), .inl (cI, 80, .inl fc)), ((r 7), .inl (cI, 8, .inl fg)), (q_25, .inr (2, [.int a0, .int a1, .int a2, .int a4, .int a5, .int a6, .int 0, .int 0, .int 1, .ref rl_28, .ref rk_29])), (rl_28, .inl (cI, 8, .inl (upd (fun _ => 0) (0 : Int32).toNatClampNeg a3))), (rk_29, .inl (cI, 8, .inl (upd (fun _ => 0) (0 : Int32).toNatClampNeg a6)))] ++ va_pl L f) := hD
                          have hBH := hB.at hS hA0
                          refine lv_aload_n hx hb d_M_row_169 rfl (lv_at hl 1 rfl) ?_
                          refine lv_dup hx hb d_M_row_170 rfl ?_
                          refine va_get (D := (dC, dI)) (ci := 0) (v := .int (nI n)) (C := R_M) (T := T_M) (N := 9) hx hb hts ti_M hown hK hP 0 rfl rfl 2 (by decide) (hts (Cond.fieldLink "MeasureRows" 22 "MeasureRows" "rowCount" "I") mw_57) (fun _ h9 => h9) rfl d_M_row_171 ?_
                          refine lv_iconst (v := 1) hx hb d_M_row_174 (by decide) ?_
                          refine lv_iadd hx hb d_M_row_175 ?_
                          refine mr_top (nI_1 n) ?_
                          refine va_put (D := (dC, dI)) (ci := 0) (v := .int (nI (n + 1))) (ty := .int) (C := R_M) (T := T_M) (N := 9) hx hb hts ti_M t_M to_M tn_M hown hK hP hD hS 0 rfl rfl 2 (by decide) (hts (Cond.fieldLink "MeasureRows" 22 "MeasureRows" "rowCount" "I") mw_57) (fun _ h9 => h9) rfl (by decide +kernel) rfl rfl (Nat.le_of_ble_eq_true rfl) d_M_row_176 (fun H locs hP hD hS => ?_)
                          have hP : va_P (dC, dI) mr_cl ([((r 0), .inr (0, mf_M r (nI (n + 1)) nw pb lc)), ((r 1), .inr (1, [.ref (r 2), .ref (r 3)])), ((r 2), .inl (cI, 8, .inl fm)), ((r 3), .inl (cI, 8, .inl fi)), ((r 4), .inl (cR, 80, .inr (.inr (.inr (.inr (va_up fr (nI n).toNatClampNeg (some q_25))))))), ((r 5), .inl (cI, 80, .inl fl)), ((r 6), .inl (cI, 80, .inl fc)), ((r 7), .inl (cI, 8, .inl fg)), (q_25, .inr (2, [.int a0, .int a1, .int a2, .int a4, .int a5, .int a6, .int 0, .int 0, .int 1, .ref rl_28, .ref rk_29])), (rl_28, .inl (cI, 8, .inl (upd (fun _ => 0) (0 : Int32).toNatClampNeg a3))), (rk_29, .inl (cI, 8, .inl (upd (fun _ => 0) (0 : Int32).toNatClampNeg a6)))] ++ va_pl L f) H := hP
                          have hD : va_D A ([((r 0), .inr (0, mf_M r (nI (n + 1)) nw pb lc)), ((r 1), .inr (1, [.ref (r 2), .ref (r 3)])), ((r 2), .inl (cI, 8, .inl fm)), ((r 3), .inl (cI, 8, .inl fi)), ((r 4), .inl (cR, 80, .inr (.inr (.inr (.inr (va_up fr (nI n).toNatClampNeg (some q_25))))))), ((r 5), .inl (cI, 80, .inl fl)), ((r 6), .inl (cI, 80, .inl fc)), ((r 7), .inl (cI, 8, .inl fg)), (q_25, .inr (2, [.int a0, .int a1, .int a2, .int a4, .int a5, .int a6, .int 0, .int 0, .int 1, .ref rl_28, .ref rk_29])), (rl_28, .inl (cI, 8, .inl (upd (fun _ => 0) (0 : Int32).toNatClampNeg a3))), (rk_29, .inl (cI, 8, .inl (upd (fun _ => 0) (0 : Int32).toNatClampNeg a6)))] ++ va_pl L f) := hD
                          have hBH := hB.at hS hA0
                          refine lv_aload_n hx hb d_M_row_179 rfl (lv_at hl 1 rfl) ?_
                          refine lv_aload_n hx hb d_M_row_180 rfl (lv_at hl 1 rfl) ?_
                          refine va_get (D := (dC, dI)) (ci := 0) (v := .int nw) (C := R_M) (T := T_M) (N := 9) hx hb hts ti_M hown hK hP 0 rfl rfl 3 (by decide) (hts (Cond.fieldLink "MeasureRows" 26 "MeasureRows" "now" "I") mw_58) (fun _ h9 => h9) rfl d_M_row_181 ?_
                          refine lv_iload hx hb d_M_row_184 (lv_at hl 8 rfl) ?_
                          refine va_mmax hx hb (hml.trans hl.1.symm) hown (hts (Cond.methodLink "MeasureRows" 105 Lib.Math.max.name) mw_193) (hts (Cond.static Lib.Math.max.name) mw_194) (hts (Cond.initialized "java/lang/Math") mw_195) (hts (Cond.code Lib.Math.max.name Lib.Math.max.code 2 (some .int)) mw_196) (Nat.le_of_ble_eq_true rfl) (Nat.le_of_ble_eq_true rfl) (Nat.le_of_ble_eq_true rfl) (Nat.le_of_ble_eq_true rfl) d_M_row_186 ?_
                          refine va_put (D := (dC, dI)) (ci := 0) (v := .int (if nw < a6 then a6 else nw)) (ty := .int) (C := R_M) (T := T_M) (N := 9) hx hb hts ti_M t_M to_M tn_M hown hK hP hD hS 0 rfl rfl 3 (by decide) (hts (Cond.fieldLink "MeasureRows" 26 "MeasureRows" "now" "I") mw_58) (fun _ h9 => h9) rfl (by decide +kernel) rfl rfl (Nat.le_of_ble_eq_true rfl) d_M_row_189 (fun H locs hP hD hS => ?_)
                          have hP : va_P (dC, dI) mr_cl ([((r 0), .inr (0, mf_M r (nI (n + 1)) (if nw < a6 then a6 else nw) pb lc)), ((r 1), .inr (1, [.ref (r 2), .ref (r 3)])), ((r 2), .inl (cI, 8, .inl fm)), ((r 3), .inl (cI, 8, .inl fi)), ((r 4), .inl (cR, 80, .inr (.inr (.inr (.inr (va_up fr (nI n).toNatClampNeg (some q_25))))))), ((r 5), .inl (cI, 80, .inl fl)), ((r 6), .inl (cI, 80, .inl fc)), ((r 7), .inl (cI, 8, .inl fg)), (q_25, .inr (2, [.int a0, .int a1, .int a2, .int a4, .int a5, .int a6, .int 0, .int 0, .int 1, .ref rl_28, .ref rk_29])), (rl_28, .inl (cI, 8, .inl (upd (fun _ => 0) (0 : Int32).toNatClampNeg a3))), (rk_29, .inl (cI, 8, .inl (upd (fun _ => 0) (0 : Int32).toNatClampNeg a6)))] ++ va_pl L f) H := hP
                          have hD : va_D A ([((r 0), .inr (0, mf_M r (nI (n + 1)) (if nw < a6 then a6 else nw) pb lc)), ((r 1), .inr (1, [.ref (r 2), .ref (r 3)])), ((r 2), .inl (cI, 8, .inl fm)), ((r 3), .inl (cI, 8, .inl fi)), ((r 4), .inl (cR, 80, .inr (.inr (.inr (.inr (va_up fr (nI n).toNatClampNeg (some q_25))))))), ((r 5), .inl (cI, 80, .inl fl)), ((r 6), .inl (cI, 80, .inl fc)), ((r 7), .inl (cI, 8, .inl fg)), (q_25, .inr (2, [.int a0, .int a1, .int a2, .int a4, .int a5, .int a6, .int 0, .int 0, .int 1, .ref rl_28, .ref rk_29])), (rl_28, .inl (cI, 8, .inl (upd (fun _ => 0) (0 : Int32).toNatClampNeg a3))), (rk_29, .inl (cI, 8, .inl (upd (fun _ => 0) (0 : Int32).toNatClampNeg a6)))] ++ va_pl L f) := hD
                          have hBH := hB.at hS hA0
                          refine lv_aload_n hx hb d_M_row_192 rfl (lv_at hl 1 rfl) ?_
                          refine va_get (D := (dC, dI)) (ci := 0) (v := .int (nI (n + 1))) (C := R_M) (T := T_M) (N := 9) hx hb hts ti_M hown hK hP 0 rfl rfl 2 (by decide) (hts (Cond.fieldLink "MeasureRows" 22 "MeasureRows" "rowCount" "I") mw_57) (fun _ h9 => h9) rfl d_M_row_193 ?_
                          have hP := hP.by _ (va_part (X := [((r 0), .inr (0, mf_M r (nI (n + 1)) (if nw < a6 then a6 else nw) pb lc)), ((r 1), .inr (1, [.ref (r 2), .ref (r 3)])), ((r 2), .inl (cI, 8, .inl fm)), ((r 3), .inl (cI, 8, .inl fi)), ((r 4), .inl (cR, 80, .inr (.inr (.inr (.inr (va_up fr (nI n).toNatClampNeg (some q_25))))))), ((r 5), .inl (cI, 80, .inl fl)), ((r 6), .inl (cI, 80, .inl fc)), ((r 7), .inl (cI, 8, .inl fg)), (q_25, .inr (2, [.int a0, .int a1, .int a2, .int a4, .int a5, .int a6, .int 0, .int 0, .int 1, .ref rl_28, .ref rk_29])), (rl_28, .inl (cI, 8, .inl (upd (fun _ => 0) (0 : Int32).toNatClampNeg a3))), (rk_29, .inl (cI, 8, .inl (upd (fun _ => 0) (0 : Int32).toNatClampNeg a6)))]) (cx := [((r 0), .inr (0, mf_M r (nI (n + 1)) (if nw < a6 then a6 else nw) pb lc)), ((r 1), .inr (1, [.ref (r 2), .ref (r 3)])), ((r 2), .inl (cI, 8, .inl fm)), ((r 3), .inl (cI, 8, .inl fi)), ((r 4), .inl (cR, 80, .inr (.inr (.inr (.inr (va_up fr (nI n).toNatClampNeg (some q_25))))))), ((r 5), .inl (cI, 80, .inl fl)), ((r 6), .inl (cI, 80, .inl fc)), ((r 7), .inl (cI, 8, .inl fg)), (q_25, .inr (2, [.int a0, .int a1, .int a2, .int a4, .int a5, .int a6, .int 0, .int 0, .int 1, .ref rl_28, .ref rk_29])), (rl_28, .inl (cI, 8, .inl (upd (fun _ => 0) (0 : Int32).toNatClampNeg a3))), (rk_29, .inl (cI, 8, .inl (upd (fun _ => 0) (0 : Int32).toNatClampNeg a6)))]) (pl := va_pl L f) [0, 1, 2, 3, 4, 5, 6, 7, 8, 9, 10] rfl)
                          have hD := mr_Dby hD _ (va_part (X := [((r 0), .inr (0, mf_M r (nI (n + 1)) (if nw < a6 then a6 else nw) pb lc)), ((r 1), .inr (1, [.ref (r 2), .ref (r 3)])), ((r 2), .inl (cI, 8, .inl fm)), ((r 3), .inl (cI, 8, .inl fi)), ((r 4), .inl (cR, 80, .inr (.inr (.inr (.inr (va_up fr (nI n).toNatClampNeg (some q_25))))))), ((r 5), .inl (cI, 80, .inl fl)), ((r 6), .inl (cI, 80, .inl fc)), ((r 7), .inl (cI, 8, .inl fg)), (q_25, .inr (2, [.int a0, .int a1, .int a2, .int a4, .int a5, .int a6, .int 0, .int 0, .int 1, .ref rl_28, .ref rk_29])), (rl_28, .inl (cI, 8, .inl (upd (fun _ => 0) (0 : Int32).toNatClampNeg a3))), (rk_29, .inl (cI, 8, .inl (upd (fun _ => 0) (0 : Int32).toNatClampNeg a6)))]) (cx := [((r 0), .inr (0, mf_M r (nI (n + 1)) (if nw < a6 then a6 else nw) pb lc)), ((r 1), .inr (1, [.ref (r 2), .ref (r 3)])), ((r 2), .inl (cI, 8, .inl fm)), ((r 3), .inl (cI, 8, .inl fi)), ((r 4), .inl (cR, 80, .inr (.inr (.inr (.inr (va_up fr (nI n).toNatClampNeg (some q_25))))))), ((r 5), .inl (cI, 80, .inl fl)), ((r 6), .inl (cI, 80, .inl fc)), ((r 7), .inl (cI, 8, .inl fg)), (q_25, .inr (2, [.int a0, .int a1, .int a2, .int a4, .int a5, .int a6, .int 0, .int 0, .int 1, .ref rl_28, .ref rk_29])), (rl_28, .inl (cI, 8, .inl (upd (fun _ => 0) (0 : Int32).toNatClampNeg a3))), (rk_29, .inl (cI, 8, .inl (upd (fun _ => 0) (0 : Int32).toNatClampNeg a6)))]) (pl := va_pl L f) [0, 1, 2, 3, 4, 5, 6, 7, 8, 9, 10] rfl) (mr_ordinj [0, 1, 2, 3, 4, 5, 6, 7, 8, 9, 10] (by decide) (by decide) trivial)
                          have n1 := mr_notin (X := [((r 0), .inr (0, mf_M r (nI (n + 1)) (if nw < a6 then a6 else nw) pb lc)), ((r 1), .inr (1, [.ref (r 2), .ref (r 3)])), ((r 2), .inl (cI, 8, .inl fm)), ((r 3), .inl (cI, 8, .inl fi)), ((r 4), .inl (cR, 80, .inr (.inr (.inr (.inr (va_up fr (nI n).toNatClampNeg (some q_25))))))), ((r 5), .inl (cI, 80, .inl fl)), ((r 6), .inl (cI, 80, .inl fc)), ((r 7), .inl (cI, 8, .inl fg)), (q_25, .inr (2, [.int a0, .int a1, .int a2, .int a4, .int a5, .int a6, .int 0, .int 0, .int 1, .ref rl_28, .ref rk_29])), (rl_28, .inl (cI, 8, .inl (upd (fun _ => 0) (0 : Int32).toNatClampNeg a3))), (rk_29, .inl (cI, 8, .inl (upd (fun _ => 0) (0 : Int32).toNatClampNeg a6)))]) (k := 8) hD rfl
                          have n2 := mr_notin (X := [((r 0), .inr (0, mf_M r (nI (n + 1)) (if nw < a6 then a6 else nw) pb lc)), ((r 1), .inr (1, [.ref (r 2), .ref (r 3)])), ((r 2), .inl (cI, 8, .inl fm)), ((r 3), .inl (cI, 8, .inl fi)), ((r 4), .inl (cR, 80, .inr (.inr (.inr (.inr (va_up fr (nI n).toNatClampNeg (some q_25))))))), ((r 5), .inl (cI, 80, .inl fl)), ((r 6), .inl (cI, 80, .inl fc)), ((r 7), .inl (cI, 8, .inl fg)), (q_25, .inr (2, [.int a0, .int a1, .int a2, .int a4, .int a5, .int a6, .int 0, .int 0, .int 1, .ref rl_28, .ref rk_29])), (rl_28, .inl (cI, 8, .inl (upd (fun _ => 0) (0 : Int32).toNatClampNeg a3))), (rk_29, .inl (cI, 8, .inl (upd (fun _ => 0) (0 : Int32).toNatClampNeg a6)))]) (k := 9) hD rfl
                          have n3 := mr_notin (X := [((r 0), .inr (0, mf_M r (nI (n + 1)) (if nw < a6 then a6 else nw) pb lc)), ((r 1), .inr (1, [.ref (r 2), .ref (r 3)])), ((r 2), .inl (cI, 8, .inl fm)), ((r 3), .inl (cI, 8, .inl fi)), ((r 4), .inl (cR, 80, .inr (.inr (.inr (.inr (va_up fr (nI n).toNatClampNeg (some q_25))))))), ((r 5), .inl (cI, 80, .inl fl)), ((r 6), .inl (cI, 80, .inl fc)), ((r 7), .inl (cI, 8, .inl fg)), (q_25, .inr (2, [.int a0, .int a1, .int a2, .int a4, .int a5, .int a6, .int 0, .int 0, .int 1, .ref rl_28, .ref rk_29])), (rl_28, .inl (cI, 8, .inl (upd (fun _ => 0) (0 : Int32).toNatClampNeg a3))), (rk_29, .inl (cI, 8, .inl (upd (fun _ => 0) (0 : Int32).toNatClampNeg a6)))]) (k := 10) hD rfl
                          have hne : q_25 ≠ rl_28 ∧ q_25 ≠ rk_29 ∧ rl_28 ≠ rk_29 := ⟨fun e => absurd (hD.1 8 9 _ _ rfl rfl e) (by decide), fun e => absurd (hD.1 8 10 _ _ rfl rfl e) (by decide), fun e => absurd (hD.1 9 10 _ _ rfl rfl e) (by decide)⟩
                          obtain ⟨kk9, hkk, hke⟩ := mr_k8 c_17 c_18
                          have hn80 := mr_n80 c_21 hR.1
                          have hR := mr_RIpush (v0 := a0) (v1 := a1) (v2 := a2) (v4 := a5) (v5 := a6) (v6 := 0) (v7 := 0) (ld := (upd (fun _ => 0) (0 : Int32).toNatClampNeg a3)) (kd := (upd (fun _ => 0) (0 : Int32).toNatClampNeg a6)) hR hn80 n1 n2 n3 hne hkk
                          have ep := mr_pool3 (f := f) (e1 := .inr (2, [.int a0, .int a1, .int a2, .int (nI kk9), .int a5, .int a6, .int 0, .int 0, .int (nI 1), .ref rl_28, .ref rk_29])) (e2 := .inl (cI, 8, .inl (upd (fun _ => 0) (0 : Int32).toNatClampNeg a3))) (e3 := .inl (cI, 8, .inl (upd (fun _ => 0) (0 : Int32).toNatClampNeg a6))) n1 n2 n3 hne
                          rw [hke] at hP hD
                          rw [nI_clamp (n := n) (by omega)] at hP hD
                          have hP : va_P (dC, dI) mr_cl ([((r 0), .inr (0, mf_M r (nI (n + 1)) (if nw < a6 then a6 else nw) pb lc)), ((r 1), .inr (1, [.ref (r 2), .ref (r 3)])), ((r 2), .inl (cI, 8, .inl fm)), ((r 3), .inl (cI, 8, .inl fi)), ((r 4), .inl (cR, 80, .inr (.inr (.inr (.inr (va_up fr n (some q_25))))))), ((r 5), .inl (cI, 80, .inl fl)), ((r 6), .inl (cI, 80, .inl fc)), ((r 7), .inl (cI, 8, .inl fg))] ++ va_pl (q_25 :: rl_28 :: rk_29 :: L) (va_up (va_up (va_up f q_25 (.inr (2, [.int a0, .int a1, .int a2, .int (nI kk9), .int a5, .int a6, .int 0, .int 0, .int (nI 1), .ref rl_28, .ref rk_29]))) rl_28 (.inl (cI, 8, .inl (upd (fun _ => 0) (0 : Int32).toNatClampNeg a3)))) rk_29 (.inl (cI, 8, .inl (upd (fun _ => 0) (0 : Int32).toNatClampNeg a6))))) H := by rw [← ep]; exact hP
                          have hD : va_D A ([((r 0), .inr (0, mf_M r (nI (n + 1)) (if nw < a6 then a6 else nw) pb lc)), ((r 1), .inr (1, [.ref (r 2), .ref (r 3)])), ((r 2), .inl (cI, 8, .inl fm)), ((r 3), .inl (cI, 8, .inl fi)), ((r 4), .inl (cR, 80, .inr (.inr (.inr (.inr (va_up fr n (some q_25))))))), ((r 5), .inl (cI, 80, .inl fl)), ((r 6), .inl (cI, 80, .inl fc)), ((r 7), .inl (cI, 8, .inl fg))] ++ va_pl (q_25 :: rl_28 :: rk_29 :: L) (va_up (va_up (va_up f q_25 (.inr (2, [.int a0, .int a1, .int a2, .int (nI kk9), .int a5, .int a6, .int 0, .int 0, .int (nI 1), .ref rl_28, .ref rk_29]))) rl_28 (.inl (cI, 8, .inl (upd (fun _ => 0) (0 : Int32).toNatClampNeg a3)))) rk_29 (.inl (cI, 8, .inl (upd (fun _ => 0) (0 : Int32).toNatClampNeg a6))))) := by rw [← ep]; exact hD
                          refine mr_ret ?_
                          exact W.iret (v := nI (n + 1)) hx hb hr (fun t ht hW => ⟨⟨_, (), rfl, trivial, (n + 1), (if nw < a6 then a6 else nw), (va_up fr n (some q_25)), (q_25 :: rl_28 :: rk_29 :: L), (va_up (va_up (va_up f q_25 (.inr (2, [.int a0, .int a1, .int a2, .int (nI kk9), .int a5, .int a6, .int 0, .int 0, .int (nI 1), .ref rl_28, .ref rk_29]))) rl_28 (.inl (cI, 8, .inl (upd (fun _ => 0) (0 : Int32).toNatClampNeg a3)))) rk_29 (.inl (cI, 8, .inl (upd (fun _ => 0) (0 : Int32).toNatClampNeg a6)))), hR, by rw [ht]; exact hP, va_K.moved hW.alike hK, hD⟩, hS.F ht⟩) hS.2.2 d_M_row_196
                        · refine lv_iconst (v := (-1)) hx hb d_M_row_137 (by decide) ?_
                          refine lv_iload hx hb d_M_row_138 (lv_at hl 0 rfl) ?_
                          refine lv_isub hx hb d_M_row_140 ?_
                          refine mr_ret ?_
                          refine W.widen (k := 3) (n := 27) (by omega) (by omega) ?_
                          exact W.iret (v := (-1) - r_22) hx hb hr (fun t ht hW => ⟨⟨_, (), rfl, trivial, n, nw, fr, L, f, hR, by rw [ht]; exact hP, va_K.moved hW.alike hK, hD⟩, hS.F ht⟩) hS.2.2 d_M_row_141
                      · obtain ⟨sa, hstr⟩ := mr_str (hts (Cond.stringRef "MeasureRows" 95 "no room for another row") mw_259) hown
                        exact mr_throw (names := mr_up) hx hb hlt hown (by decide +kernel) (by decide +kernel) (hts (Cond.classLink "MeasureRows" 93 mr_ise) mw_198) (hts (Cond.initialized mr_ise) mw_199) hstr (hB.own _ mr_a_ise) (hl.1.trans hml.symm) d_M_row_106 d_M_row_109 d_M_row_110 d_M_row_112 d_M_row_115 hno (Nat.le_of_ble_eq_true rfl) (Nat.le_of_ble_eq_true rfl) (Nat.le_of_ble_eq_true rfl) (Nat.le_of_ble_eq_true rfl) hlocks (Or.inr rfl) (Nat.le_of_ble_eq_true rfl) (Nat.le_of_ble_eq_true rfl)
                    · obtain ⟨sa, hstr⟩ := mr_str (hts (Cond.stringRef "MeasureRows" 91 "no such kind or rank") mw_246) hown
                      exact mr_throw (names := mr_up) hx hb hlt hown (by decide +kernel) (by decide +kernel) (hts (Cond.classLink "MeasureRows" 78 mr_iae) mw_139) (hts (Cond.initialized mr_iae) mw_140) hstr (hB.own _ mr_a_iae) (hl.1.trans hml.symm) d_M_row_87 d_M_row_90 d_M_row_91 d_M_row_93 d_M_row_96 hno (Nat.le_of_ble_eq_true rfl) (Nat.le_of_ble_eq_true rfl) (Nat.le_of_ble_eq_true rfl) (Nat.le_of_ble_eq_true rfl) hlocks (Or.inl rfl) (Nat.le_of_ble_eq_true rfl) (Nat.le_of_ble_eq_true rfl)
            · obtain ⟨sa, hstr⟩ := mr_str (hts (Cond.stringRef "MeasureRows" 89 "no such days") mw_138) hown
              exact mr_throw (names := mr_up) hx hb hlt hown (by decide +kernel) (by decide +kernel) (hts (Cond.classLink "MeasureRows" 78 mr_iae) mw_139) (hts (Cond.initialized mr_iae) mw_140) hstr (hB.own _ mr_a_iae) (hl.1.trans hml.symm) d_M_row_53 d_M_row_56 d_M_row_57 d_M_row_59 d_M_row_62 hno (Nat.le_of_ble_eq_true rfl) (Nat.le_of_ble_eq_true rfl) (Nat.le_of_ble_eq_true rfl) (Nat.le_of_ble_eq_true rfl) hlocks (Or.inl rfl) (Nat.le_of_ble_eq_true rfl) (Nat.le_of_ble_eq_true rfl)
    · obtain ⟨sa, hstr⟩ := mr_str (hts (Cond.stringRef "MeasureRows" 80 "no such code or land") mw_241) hown
      exact mr_throw (names := mr_up) hx hb hlt hown (by decide +kernel) (by decide +kernel) (hts (Cond.classLink "MeasureRows" 78 mr_iae) mw_139) (hts (Cond.initialized mr_iae) mw_140) hstr (hB.own _ mr_a_iae) (hl.1.trans hml.symm) d_M_row_14 d_M_row_17 d_M_row_18 d_M_row_20 d_M_row_23 hno (Nat.le_of_ble_eq_true rfl) (Nat.le_of_ble_eq_true rfl) (Nat.le_of_ble_eq_true rfl) (Nat.le_of_ble_eq_true rfl) hlocks (Or.inl rfl) (Nat.le_of_ble_eq_true rfl) (Nat.le_of_ble_eq_true rfl)
end
section
/-- the reference's rows: n of them; their ends and codes -/
def mr_MI (n : Nat) (fe fco : Nat → Int32) : Prop := n ≤ 80 ∧ ∀ i, 1 ≤ i → i ≤ n → (∃ t, fe i = nI t ∧ 1 ≤ t ∧ t ≤ 8) ∧ ¬ fco i < 0
theorem mr_mul8 (i : Nat) : (8 : Int32) * nI i = nI (8 * i) := by
  show Int32.ofNat 8 * Int32.ofNat i = Int32.ofNat (8 * i)
  rw [Int32.ofNat_mul]
theorem mr_nc {f : Nat → Int32} {i : Nat} (h : i ≤ 80) : f (nI i).toNatClampNeg = f i := by rw [nI_clamp (by omega)]
theorem mw_260 : Cond.fieldLink "MeasureRowsModel" 37 "MeasureRowsModel" "ends" "[I" ∈ lw_tbl := by decide +kernel
theorem mw_261 : Cond.fieldLink "MeasureRowsModel" 43 "MeasureRowsModel" "lastKnown" "[I" ∈ lw_tbl := by decide +kernel
theorem mw_262 : Cond.fieldLink "MeasureRowsModel" 40 "MeasureRowsModel" "last" "[I" ∈ lw_tbl := by decide +kernel
set_option maxHeartbeats 4000000 in
set_option maxRecDepth 100000 in
theorem mc_D_lastOf (l : Launch) (s0 : State) (dC : Nat → ClassId) (dI : Nat → Nat → Nat) (cI cR cL cZ : ClassId) (r : Nat → Nat) (th rw nw pb lc : Int32) (fe fa fk : Nat → Int32) (i t : Nat) (a1 : Int32) (hi : i ≤ 80) (het : fe i = nI t) (ht : t ≤ 8) : Met l y_D_lastOf [Cond.code y_D_lastOf b_D_lastOf 6 (some .int)] ({ frames := 0, cells := 0, slots := 0, locals := 0 }) (mr_PW s0 (dC, dI) [(cI, .int), (cR, .object "MeasureRows$Row"), (cL, .long), (cZ, .boolean)] [.ref (r 0), .int (nI i), .int a1] [((r 0), .inr (3, mf_D r th rw nw pb lc)), ((r 11), .inl (cI, 81, .inl fe)), ((r 12), .inl (cI, 648, .inl fa)), ((r 13), .inl (cI, 648, .inl fk))]) (vp_Si (fun _ => True)) 0 0 (fun _ => False) := by
  refine Met.ofW (cc := b_D_lastOf) (maxL := 6) (ret := (some .int)) (by decide) rfl ?_
  intro p e s m args below meth c s₁ B hml hv
  obtain ⟨rfl, hB, hK, hP⟩ := hv
  have hBH := hB.here
  have hx := B.exec
  have hb := B.bytes
  have hr := B.returns
  have hlocks := B.notSynchronized
  have hts : ∀ w ∈ lw_tbl, w.before [.ref (r 0), .int (nI i), .int a1].toArray s = true := hB.hts _
  have hown : s.vm.findClass "MeasureRowsModel" = some m.cls := findClass_of_methodNamed B.named
  have hl := lv_entry ([.ref (r 0), .int (nI i), .int a1]) (n := 6) (Nat.le_of_ble_eq_true rfl)
  rw [lg_entry_eq]
  generalize (lg_sl ([.ref (r 0), .int (nI i), .int a1]) ++ List.replicate (6 - (lg_sl ([.ref (r 0), .int (nI i), .int a1])).length) Slot.unset).toArray = ls at hl ⊢
  have hl : lv_has ls 6 [(0, .ref (r 0)), (1, .int (nI i)), (2, .int a1)] := hl
  refine lv_iconst (v := 0) hx hb d_D_lastOf_0 (by decide) ?_
  refine lv_istore_n (lv' := [(3, .int 0), (0, .ref (r 0)), (1, .int (nI i)), (2, .int a1)]) hx hb d_D_lastOf_1 rfl hl (by decide) rfl (fun ls hl => ?_)
  refine lv_iconst (v := 1) hx hb d_D_lastOf_2 (by decide) ?_
  refine lv_istore (lv' := [(4, .int 1), (3, .int 0), (0, .ref (r 0)), (1, .int (nI i)), (2, .int a1)]) hx hb d_D_lastOf_3 hl (by decide) rfl (fun ls hl => ?_)
  refine mr_loop (N := t - 1) (I := fun j H locs ls => H = s.heap ∧ locs = [] ∧ ∃ b9 : Nat, b9 ≤ j ∧ lv_has ls 6 [(4, .int (nI (j + 1))), (3, .int (nI b9)), (0, .ref (r 0)), (1, .int (nI i)), (2, .int a1)]) (fun j H locs ls hj hI ih => ?_) (fun H locs ls hI => ?_) 0 _ _ _ (Nat.zero_le _) ⟨rfl, rfl, 0, Nat.le_refl 0, (lv_sub hl [0, 1, 2, 3, 4] rfl)⟩
  · obtain ⟨rfl, rfl, b9, hb9, hl⟩ := hI
    refine lv_iload hx hb d_D_lastOf_5 (lv_at hl 0 rfl) ?_
    refine lv_aload_n hx hb d_D_lastOf_7 rfl (lv_at hl 2 rfl) ?_
    refine va_get (D := (dC, dI)) (ci := 3) (v := .ref (r 11)) (C := R_D) (T := T_D) (N := 19) hx hb hts ti_D hown hK hP 0 rfl rfl 11 (by decide) (hts (Cond.fieldLink "MeasureRowsModel" 37 "MeasureRowsModel" "ends" "[I") mw_260) (fun _ h9 => h9) rfl d_D_lastOf_8 ?_
    refine lv_iload_n hx hb d_D_lastOf_11 rfl (lv_at hl 3 rfl) ?_
    refine va_iald (D := (dC, dI)) hx hb hK hP 1 0 rfl rfl (i := nI i) (nI_in (by omega) (by decide)) d_D_lastOf_12 ?_
    refine mr_top ((mr_nc hi).trans het) ?_
    refine lv_icmp_ge (tgt := 85) hx hb d_D_lastOf_13 (by decide) (fun c_1 => absurd c_1 (nI_ge (by omega) (by omega))) (fun _ => ?_)
    refine lv_bipush (v := 8) hx hb d_D_lastOf_16 (by decide) ?_
    refine lv_iload_n hx hb d_D_lastOf_18 rfl (lv_at hl 3 rfl) ?_
    refine lv_imul hx hb d_D_lastOf_19 ?_
    refine mr_top (mr_mul8 i) ?_
    refine lv_iload hx hb d_D_lastOf_20 (lv_at hl 0 rfl) ?_
    refine lv_iadd hx hb d_D_lastOf_22 ?_
    refine mr_top (nI_add (8 * i) (j + 1)) ?_
    refine lv_istore (lv' := [(5, .int (nI (8 * i + (j + 1)))), (4, .int (nI (j + 1))), (3, .int (nI b9)), (0, .ref (r 0)), (1, .int (nI i)), (2, .int a1)]) hx hb d_D_lastOf_23 hl (by decide) rfl (fun ls hl => ?_)
    refine lv_aload_n hx hb d_D_lastOf_25 rfl (lv_at hl 3 rfl) ?_
    refine va_get (D := (dC, dI)) (ci := 3) (v := .ref (r 13)) (C := R_D) (T := T_D) (N := 19) hx hb hts ti_D hown hK hP 0 rfl rfl 13 (by decide) (hts (Cond.fieldLink "MeasureRowsModel" 43 "MeasureRowsModel" "lastKnown" "[I") mw_261) (fun _ h9 => h9) rfl d_D_lastOf_26 ?_
    refine lv_iload hx hb d_D_lastOf_29 (lv_at hl 0 rfl) ?_
    refine va_iald (D := (dC, dI)) hx hb hK hP 3 0 rfl rfl (i := nI (8 * i + (j + 1))) (nI_in (by omega) (by decide)) d_D_lastOf_31 ?_
    refine lv_iload_n hx hb d_D_lastOf_32 rfl (lv_at hl 5 rfl) ?_
    refine lv_icmp_gt (tgt := 77) hx hb d_D_lastOf_33 (by decide) (fun c_2 => ?_) (fun c_2 => ?_)
    · refine lv_iload_n hx hb d_D_lastOf_77 rfl (lv_at hl 2 rfl) ?_
      refine lv_istore_n (lv' := [(3, .int (nI b9)), (5, .int (nI (8 * i + (j + 1)))), (4, .int (nI (j + 1))), (0, .ref (r 0)), (1, .int (nI i)), (2, .int a1)]) hx hb d_D_lastOf_78 rfl hl (by decide) rfl (fun ls hl => ?_)
      refine lv_iinc (v := nI ((j + 1) + 1)) (lv' := [(4, .int (nI ((j + 1) + 1))), (3, .int (nI b9)), (5, .int (nI (8 * i + (j + 1)))), (0, .ref (r 0)), (1, .int (nI i)), (2, .int a1)]) hx hb d_D_lastOf_79 hl (k := 2) rfl ((nI_succ (j + 1)).symm) (by decide) rfl (fun ls hl => ?_)
      refine lv_goto (tgt := 5) hx hb d_D_lastOf_82 (by decide) ?_
      exact ih _ _ _ ⟨rfl, rfl, b9, by omega, lv_sub hl [0, 1, 3, 4, 5] rfl⟩
    · refine lv_aload_n hx hb d_D_lastOf_36 rfl (lv_at hl 3 rfl) ?_
      refine va_get (D := (dC, dI)) (ci := 3) (v := .ref (r 13)) (C := R_D) (T := T_D) (N := 19) hx hb hts ti_D hown hK hP 0 rfl rfl 13 (by decide) (hts (Cond.fieldLink "MeasureRowsModel" 43 "MeasureRowsModel" "lastKnown" "[I") mw_261) (fun _ h9 => h9) rfl d_D_lastOf_37 ?_
      refine lv_bipush (v := 8) hx hb d_D_lastOf_40 (by decide) ?_
      refine lv_iload_n hx hb d_D_lastOf_42 rfl (lv_at hl 4 rfl) ?_
      refine lv_imul hx hb d_D_lastOf_43 ?_
      refine mr_top (mr_mul8 i) ?_
      refine lv_iload_n hx hb d_D_lastOf_44 rfl (lv_at hl 2 rfl) ?_
      refine lv_iadd hx hb d_D_lastOf_45 ?_
      refine mr_top (nI_add (8 * i) b9) ?_
      refine va_iald (D := (dC, dI)) hx hb hK hP 3 0 rfl rfl (i := nI (8 * i + b9)) (nI_in (by omega) (by decide)) d_D_lastOf_46 ?_
      refine lv_iload_n hx hb d_D_lastOf_47 rfl (lv_at hl 5 rfl) ?_
      refine lv_icmp_gt (tgt := 72) hx hb d_D_lastOf_48 (by decide) (fun c_3 => ?_) (fun c_3 => ?_)
      · refine lv_iload hx hb d_D_lastOf_72 (lv_at hl 1 rfl) ?_
        refine lv_goto (tgt := 78) hx hb d_D_lastOf_74 (by decide) ?_
        refine lv_istore_n (lv' := [(3, .int (nI (j + 1))), (5, .int (nI (8 * i + (j + 1)))), (4, .int (nI (j + 1))), (0, .ref (r 0)), (1, .int (nI i)), (2, .int a1)]) hx hb d_D_lastOf_78 rfl hl (by decide) rfl (fun ls hl => ?_)
        refine lv_iinc (v := nI ((j + 1) + 1)) (lv' := [(4, .int (nI ((j + 1) + 1))), (3, .int (nI (j + 1))), (5, .int (nI (8 * i + (j + 1)))), (0, .ref (r 0)), (1, .int (nI i)), (2, .int a1)]) hx hb d_D_lastOf_79 hl (k := 2) rfl ((nI_succ (j + 1)).symm) (by decide) rfl (fun ls hl => ?_)
        refine lv_goto (tgt := 5) hx hb d_D_lastOf_82 (by decide) ?_
        exact ih _ _ _ ⟨rfl, rfl, (j + 1), by omega, lv_sub hl [0, 1, 3, 4, 5] rfl⟩
      · refine lv_aload_n hx hb d_D_lastOf_51 rfl (lv_at hl 3 rfl) ?_
        refine va_get (D := (dC, dI)) (ci := 3) (v := .ref (r 13)) (C := R_D) (T := T_D) (N := 19) hx hb hts ti_D hown hK hP 0 rfl rfl 13 (by decide) (hts (Cond.fieldLink "MeasureRowsModel" 43 "MeasureRowsModel" "lastKnown" "[I") mw_261) (fun _ h9 => h9) rfl d_D_lastOf_52 ?_
        refine lv_iload hx hb d_D_lastOf_55 (lv_at hl 0 rfl) ?_
        refine va_iald (D := (dC, dI)) hx hb hK hP 3 0 rfl rfl (i := nI (8 * i + (j + 1))) (nI_in (by omega) (by decide)) d_D_lastOf_57 ?_
        refine lv_aload_n hx hb d_D_lastOf_58 rfl (lv_at hl 3 rfl) ?_
        refine va_get (D := (dC, dI)) (ci := 3) (v := .ref (r 13)) (C := R_D) (T := T_D) (N := 19) hx hb hts ti_D hown hK hP 0 rfl rfl 13 (by decide) (hts (Cond.fieldLink "MeasureRowsModel" 43 "MeasureRowsModel" "lastKnown" "[I") mw_261) (fun _ h9 => h9) rfl d_D_lastOf_59 ?_
        refine lv_bipush (v := 8) hx hb d_D_lastOf_62 (by decide) ?_
        refine lv_iload_n hx hb d_D_lastOf_64 rfl (lv_at hl 4 rfl) ?_
        refine lv_imul hx hb d_D_lastOf_65 ?_
        refine mr_top (mr_mul8 i) ?_
        refine lv_iload_n hx hb d_D_lastOf_66 rfl (lv_at hl 2 rfl) ?_
        refine lv_iadd hx hb d_D_lastOf_67 ?_
        refine mr_top (nI_add (8 * i) b9) ?_
        refine va_iald (D := (dC, dI)) hx hb hK hP 3 0 rfl rfl (i := nI (8 * i + b9)) (nI_in (by omega) (by decide)) d_D_lastOf_68 ?_
        refine lv_icmp_lt (tgt := 77) hx hb d_D_lastOf_69 (by decide) (fun c_4 => ?_) (fun c_4 => ?_)
        · refine lv_iload_n hx hb d_D_lastOf_77 rfl (lv_at hl 2 rfl) ?_
          refine lv_istore_n (lv' := [(3, .int (nI b9)), (5, .int (nI (8 * i + (j + 1)))), (4, .int (nI (j + 1))), (0, .ref (r 0)), (1, .int (nI i)), (2, .int a1)]) hx hb d_D_lastOf_78 rfl hl (by decide) rfl (fun ls hl => ?_)
          refine lv_iinc (v := nI ((j + 1) + 1)) (lv' := [(4, .int (nI ((j + 1) + 1))), (3, .int (nI b9)), (5, .int (nI (8 * i + (j + 1)))), (0, .ref (r 0)), (1, .int (nI i)), (2, .int a1)]) hx hb d_D_lastOf_79 hl (k := 2) rfl ((nI_succ (j + 1)).symm) (by decide) rfl (fun ls hl => ?_)
          refine lv_goto (tgt := 5) hx hb d_D_lastOf_82 (by decide) ?_
          exact ih _ _ _ ⟨rfl, rfl, b9, by omega, lv_sub hl [0, 1, 3, 4, 5] rfl⟩
        · refine lv_iload hx hb d_D_lastOf_72 (lv_at hl 1 rfl) ?_
          refine lv_goto (tgt := 78) hx hb d_D_lastOf_74 (by decide) ?_
          refine lv_istore_n (lv' := [(3, .int (nI (j + 1))), (5, .int (nI (8 * i + (j + 1)))), (4, .int (nI (j + 1))), (0, .ref (r 0)), (1, .int (nI i)), (2, .int a1)]) hx hb d_D_lastOf_78 rfl hl (by decide) rfl (fun ls hl => ?_)
          refine lv_iinc (v := nI ((j + 1) + 1)) (lv' := [(4, .int (nI ((j + 1) + 1))), (3, .int (nI (j + 1))), (5, .int (nI (8 * i + (j + 1)))), (0, .ref (r 0)), (1, .int (nI i)), (2, .int a1)]) hx hb d_D_lastOf_79 hl (k := 2) rfl ((nI_succ (j + 1)).symm) (by decide) rfl (fun ls hl => ?_)
          refine lv_goto (tgt := 5) hx hb d_D_lastOf_82 (by decide) ?_
          exact ih _ _ _ ⟨rfl, rfl, (j + 1), by omega, lv_sub hl [0, 1, 3, 4, 5] rfl⟩
  · obtain ⟨rfl, rfl, b9, hb9, hl⟩ := hI
    refine lv_iload hx hb d_D_lastOf_5 (lv_at hl 0 rfl) ?_
    refine lv_aload_n hx hb d_D_lastOf_7 rfl (lv_at hl 2 rfl) ?_
    refine va_get (D := (dC, dI)) (ci := 3) (v := .ref (r 11)) (C := R_D) (T := T_D) (N := 19) hx hb hts ti_D hown hK hP 0 rfl rfl 11 (by decide) (hts (Cond.fieldLink "MeasureRowsModel" 37 "MeasureRowsModel" "ends" "[I") mw_260) (fun _ h9 => h9) rfl d_D_lastOf_8 ?_
    refine lv_iload_n hx hb d_D_lastOf_11 rfl (lv_at hl 3 rfl) ?_
    refine va_iald (D := (dC, dI)) hx hb hK hP 1 0 rfl rfl (i := nI i) (nI_in (by omega) (by decide)) d_D_lastOf_12 ?_
    refine mr_top ((mr_nc hi).trans het) ?_
    refine lv_icmp_ge (tgt := 85) hx hb d_D_lastOf_13 (by decide) (fun _ => ?_) (fun c_5 => absurd (nI_le (by omega) (by omega)) c_5)
    refine lv_aload_n hx hb d_D_lastOf_85 rfl (lv_at hl 2 rfl) ?_
    refine va_get (D := (dC, dI)) (ci := 3) (v := .ref (r 12)) (C := R_D) (T := T_D) (N := 19) hx hb hts ti_D hown hK hP 0 rfl rfl 12 (by decide) (hts (Cond.fieldLink "MeasureRowsModel" 40 "MeasureRowsModel" "last" "[I") mw_262) (fun _ h9 => h9) rfl d_D_lastOf_86 ?_
    refine lv_bipush (v := 8) hx hb d_D_lastOf_89 (by decide) ?_
    refine lv_iload_n hx hb d_D_lastOf_91 rfl (lv_at hl 3 rfl) ?_
    refine lv_imul hx hb d_D_lastOf_92 ?_
    refine mr_top (mr_mul8 i) ?_
    refine lv_iload_n hx hb d_D_lastOf_93 rfl (lv_at hl 1 rfl) ?_
    refine lv_iadd hx hb d_D_lastOf_94 ?_
    refine mr_top (nI_add (8 * i) b9) ?_
    refine va_iald (D := (dC, dI)) hx hb hK hP 2 0 rfl rfl (i := nI (8 * i + b9)) (nI_in (by omega) (by decide)) d_D_lastOf_95 ?_
    exact W.iret (v := fa (nI (8 * i + b9)).toNatClampNeg) hx hb hr (fun t ht _ => ⟨_, rfl, trivial, ht⟩) (fun _ h => nomatch h) d_D_lastOf_96
end
section
theorem mr_iu0 (a : Int32) : a.toInt + ((0 : Nat) : Int) ≤ (a.toNatClampNeg : Int) := by
  show a.toInt + 0 ≤ ((a.toInt.toNat : Nat) : Int)
  omega
theorem mr_iu {v a : Int32} {j : Nat} {N : Int} (h0 : ¬ a < 0) (h : ¬ v ≤ a) (hv : v.toInt + (j : Int) ≤ N) : (v / 100).toInt + ((j + 1 : Nat) : Int) ≤ N := by
  rw [Int32.lt_iff_toInt_lt] at h0
  rw [Int32.le_iff_toInt_le] at h
  have z0 : (0 : Int32).toInt = 0 := by decide
  have z1 : (100 : Int32).toInt = 100 := by decide
  rw [lg_idiv_nonneg (by omega) (by omega), z1]
  omega
theorem mr_iue {v a : Int32} {N : Nat} (h0 : ¬ a < 0) (hv : v.toInt + (N : Int) ≤ (N : Int)) : v ≤ a := by
  rw [Int32.lt_iff_toInt_lt] at h0
  rw [Int32.le_iff_toInt_le]
  have z0 : (0 : Int32).toInt = 0 := by decide
  omega
theorem mw_263 : Cond.fieldLink "MeasureRowsModel" 19 "MeasureRowsModel" "first" "[I" ∈ lw_tbl := by decide +kernel
theorem mw_264 : Cond.code y_D_lastOf b_D_lastOf 6 (some .int) ∈ lw_tbl := by decide +kernel
theorem mw_265 : Cond.initialized y_D_lastOf.cls ∈ lw_tbl := by decide +kernel
theorem mw_266 : Cond.methodLink "MeasureRowsModel" 87 y_D_lastOf ∈ lw_tbl := by decide +kernel
theorem mw_267 : Cond.instanceMethod y_D_lastOf ∈ lw_tbl := by decide +kernel
theorem mw_268 : Cond.selects "MeasureRowsModel" y_D_lastOf y_D_lastOf ∈ lw_tbl := by decide +kernel
theorem mw_269 : Cond.fieldLink "MeasureRowsModel" 13 "MeasureRowsModel" "code" "[I" ∈ lw_tbl := by decide +kernel
theorem mw_270 : Cond.fieldLink "MeasureRowsModel" 16 "MeasureRowsModel" "land" "[I" ∈ lw_tbl := by decide +kernel
theorem mw_271 : Cond.fieldLink "MeasureRowsModel" 22 "MeasureRowsModel" "kind" "[I" ∈ lw_tbl := by decide +kernel
theorem mw_272 : Cond.fieldLink "MeasureRowsModel" 25 "MeasureRowsModel" "rank" "[I" ∈ lw_tbl := by decide +kernel
theorem mw_273 : Cond.fieldLink "MeasureRowsModel" 84 "MeasureRowsModel" "now" "I" ∈ lw_tbl := by decide +kernel
set_option maxHeartbeats 4000000 in
set_option maxRecDepth 100000 in
theorem mc_D_lasts (l : Launch) (s0 : State) (dC : Nat → ClassId) (dI : Nat → Nat → Nat) (cI cR cL cZ : ClassId) (r : Nat → Nat) (th nw pb lc : Int32) (n : Nat) (fco ffi fe fa fk : Nat → Int32) (i : Nat) (a1 : Int32) (a2 : Int32) (hi1 : 1 ≤ i) (hin : i ≤ n) (hM : mr_MI n fe fco) : Met l y_D_lasts [Cond.code y_D_lasts b_D_lasts 4 (some .boolean)] ({ frames := 1, cells := 0, slots := 0, locals := 25 }) (mr_PW s0 (dC, dI) [(cI, .int), (cR, .object "MeasureRows$Row"), (cL, .long), (cZ, .boolean)] [.ref (r 0), .int (nI i), .int a1, .int a2] [((r 0), .inr (3, mf_D r th (nI n) nw pb lc)), ((r 3), .inl (cI, 81, .inl fco)), ((r 5), .inl (cI, 81, .inl ffi)), ((r 11), .inl (cI, 81, .inl fe)), ((r 12), .inl (cI, 648, .inl fa)), ((r 13), .inl (cI, 648, .inl fk))]) (vp_Si (fun r => mr_b01 r)) 0 0 (fun _ => False) := by
  refine Met.ofW (cc := b_D_lasts) (maxL := 4) (ret := (some .boolean)) (by decide) rfl ?_
  intro p e s m args below meth c s₁ B hml hv
  obtain ⟨rfl, hB, hK, hP⟩ := hv
  have hBH := hB.here
  have hx := B.exec
  have hb := B.bytes
  have hr := B.returns
  have hlocks := B.notSynchronized
  have hts : ∀ w ∈ lw_tbl, w.before [.ref (r 0), .int (nI i), .int a1, .int a2].toArray s = true := hB.hts _
  have hown : s.vm.findClass "MeasureRowsModel" = some m.cls := findClass_of_methodNamed B.named
  have hl := lv_entry ([.ref (r 0), .int (nI i), .int a1, .int a2]) (n := 4) (Nat.le_of_ble_eq_true rfl)
  rw [lg_entry_eq]
  generalize (lg_sl ([.ref (r 0), .int (nI i), .int a1, .int a2]) ++ List.replicate (4 - (lg_sl ([.ref (r 0), .int (nI i), .int a1, .int a2])).length) Slot.unset).toArray = ls at hl ⊢
  have hl : lv_has ls 4 [(0, .ref (r 0)), (1, .int (nI i)), (2, .int a1), (3, .int a2)] := hl
  refine lv_iload_n hx hb d_D_lasts_0 rfl (lv_at hl 2 rfl) ?_
  refine lv_aload_n hx hb d_D_lasts_1 rfl (lv_at hl 0 rfl) ?_
  refine va_get (D := (dC, dI)) (ci := 3) (v := .ref (r 5)) (C := R_D) (T := T_D) (N := 19) hx hb hts ti_D hown hK hP 0 rfl rfl 5 (by decide) (hts (Cond.fieldLink "MeasureRowsModel" 19 "MeasureRowsModel" "first" "[I") mw_263) (fun _ h9 => h9) rfl d_D_lasts_2 ?_
  refine lv_iload_n hx hb d_D_lasts_5 rfl (lv_at hl 1 rfl) ?_
  refine va_iald (D := (dC, dI)) hx hb hK hP 2 0 rfl rfl (i := nI i) (nI_in (by have := hM.1; omega) (by decide)) d_D_lasts_6 ?_
  refine mr_top (show ffi (nI i).toNatClampNeg = ffi i from mr_nc (by have := hM.1; omega)) ?_
  refine lv_icmp_lt (tgt := 24) hx hb d_D_lasts_7 (by decide) (fun c_1 => ?_) (fun c_1 => ?_)
  · refine lv_iconst (v := 0) hx hb d_D_lasts_24 (by decide) ?_
    exact W.zret (v := 0) hx hb hr (mr_narz mr_b0) (fun t ht _ => ⟨_, rfl, mr_b0, ht⟩) (fun _ h => nomatch h) d_D_lasts_25
  · refine lv_iload_n hx hb d_D_lasts_10 rfl (lv_at hl 2 rfl) ?_
    refine lv_aload_n hx hb d_D_lasts_11 rfl (lv_at hl 0 rfl) ?_
    refine lv_iload_n hx hb d_D_lasts_12 rfl (lv_at hl 1 rfl) ?_
    refine lv_iload_n hx hb d_D_lasts_13 rfl (lv_at hl 3 rfl) ?_
    obtain ⟨t_2, het_2, h1t_2, h8t_2⟩ := (hM.2 i (by omega) (by omega)).1
    refine vp_callSi (va_Run.run (va_runV (As := [.int (nI i), .int a2]) (rest := [.int a1]) (C := R_D) ⟨hx, hb, hml, hown, hts⟩ (mc_D_lastOf l s0 dC dI cI cR cL cZ r th (nI n) nw pb lc fe fa fk i t_2 a2 (by have := hM.1; omega) het_2 h8t_2) ⟨(mr_cB 2 (hts (Cond.code y_D_lastOf b_D_lastOf 6 (some .int)) mw_264) (hts (Cond.initialized y_D_lastOf.cls) mw_265) (hts (Cond.methodLink "MeasureRowsModel" 87 y_D_lastOf) mw_266) rfl rfl (by decide +kernel) ⟨Nat.le_of_ble_eq_true rfl, Nat.le_of_ble_eq_true rfl⟩), (hts (Cond.instanceMethod y_D_lastOf) mw_267), (hts (Cond.selects "MeasureRowsModel" y_D_lastOf y_D_lastOf) mw_268)⟩ (mr_preV hBH hK (hP.sub (ws' := [((r 0), .inr (3, mf_D r th (nI n) nw pb lc)), ((r 11), .inl (cI, 81, .inl fe)), ((r 12), .inl (cI, 648, .inl fa)), ((r 13), .inl (cI, 648, .inl fk))]) [0, 3, 4, 5] rfl) (ci := 3) (q0 := 0) rfl rfl) rfl rfl hl.1 rfl (lv_room (Nat.le_of_ble_eq_true rfl)) d_D_lasts_14 ⟨Nat.le_of_ble_eq_true rfl, Nat.le_of_ble_eq_true rfl⟩)) (fun r_3 h_4 => ?_)
    refine lv_icmp_gt (tgt := 24) hx hb d_D_lasts_17 (by decide) (fun c_5 => ?_) (fun c_5 => ?_)
    · refine lv_iconst (v := 0) hx hb d_D_lasts_24 (by decide) ?_
      exact W.zret (v := 0) hx hb hr (mr_narz mr_b0) (fun t ht _ => ⟨_, rfl, mr_b0, ht⟩) (fun _ h => nomatch h) d_D_lasts_25
    · refine lv_iconst (v := 1) hx hb d_D_lasts_20 (by decide) ?_
      refine lv_goto (tgt := 25) hx hb d_D_lasts_21 (by decide) ?_
      exact W.zret (v := 1) hx hb hr (mr_narz mr_b1) (fun t ht _ => ⟨_, rfl, mr_b1, ht⟩) (fun _ h => nomatch h) d_D_lasts_25
set_option maxHeartbeats 4000000 in
set_option maxRecDepth 100000 in
theorem mc_D_clashes (l : Launch) (s0 : State) (dC : Nat → ClassId) (dI : Nat → Nat → Nat) (cI cR cL cZ : ClassId) (r : Nat → Nat) (th nw pb lc : Int32) (n : Nat) (fco fla ffi fki fra fe fa fk : Nat → Int32) (i : Nat) (a1 : Int32) (a2 : Int32) (a3 : Int32) (a4 : Int32) (a5 : Int32) (a6 : Int32) (hi1 : 1 ≤ i) (hin : i ≤ n) (hM : mr_MI n fe fco) : Met l y_D_clashes [Cond.code y_D_clashes b_D_clashes 8 (some .boolean)] ({ frames := 1, cells := 0, slots := 0, locals := 25 }) (mr_PW s0 (dC, dI) [(cI, .int), (cR, .object "MeasureRows$Row"), (cL, .long), (cZ, .boolean)] [.ref (r 0), .int (nI i), .int a1, .int a2, .int a3, .int a4, .int a5, .int a6] [((r 0), .inr (3, mf_D r th (nI n) nw pb lc)), ((r 3), .inl (cI, 81, .inl fco)), ((r 4), .inl (cI, 81, .inl fla)), ((r 5), .inl (cI, 81, .inl ffi)), ((r 6), .inl (cI, 81, .inl fki)), ((r 7), .inl (cI, 81, .inl fra)), ((r 11), .inl (cI, 81, .inl fe)), ((r 12), .inl (cI, 648, .inl fa)), ((r 13), .inl (cI, 648, .inl fk))]) (vp_Si (fun r => mr_b01 r)) 0 0 (fun _ => False) := by
  refine Met.ofW (cc := b_D_clashes) (maxL := 8) (ret := (some .boolean)) (by decide) rfl ?_
  intro p e s m args below meth c s₁ B hml hv
  obtain ⟨rfl, hB, hK, hP⟩ := hv
  have hBH := hB.here
  have hx := B.exec
  have hb := B.bytes
  have hr := B.returns
  have hlocks := B.notSynchronized
  have hts : ∀ w ∈ lw_tbl, w.before [.ref (r 0), .int (nI i), .int a1, .int a2, .int a3, .int a4, .int a5, .int a6].toArray s = true := hB.hts _
  have hown : s.vm.findClass "MeasureRowsModel" = some m.cls := findClass_of_methodNamed B.named
  have hl := lv_entry ([.ref (r 0), .int (nI i), .int a1, .int a2, .int a3, .int a4, .int a5, .int a6]) (n := 8) (Nat.le_of_ble_eq_true rfl)
  rw [lg_entry_eq]
  generalize (lg_sl ([.ref (r 0), .int (nI i), .int a1, .int a2, .int a3, .int a4, .int a5, .int a6]) ++ List.replicate (8 - (lg_sl ([.ref (r 0), .int (nI i), .int a1, .int a2, .int a3, .int a4, .int a5, .int a6])).length) Slot.unset).toArray = ls at hl ⊢
  have hl : lv_has ls 8 [(0, .ref (r 0)), (1, .int (nI i)), (2, .int a1), (3, .int a2), (4, .int a3), (5, .int a4), (6, .int a5), (7, .int a6)] := hl
  refine lv_aload_n hx hb d_D_clashes_0 rfl (lv_at hl 0 rfl) ?_
  refine va_get (D := (dC, dI)) (ci := 3) (v := .ref (r 3)) (C := R_D) (T := T_D) (N := 19) hx hb hts ti_D hown hK hP 0 rfl rfl 3 (by decide) (hts (Cond.fieldLink "MeasureRowsModel" 13 "MeasureRowsModel" "code" "[I") mw_269) (fun _ h9 => h9) rfl d_D_clashes_1 ?_
  refine lv_iload_n hx hb d_D_clashes_4 rfl (lv_at hl 1 rfl) ?_
  refine va_iald (D := (dC, dI)) hx hb hK hP 1 0 rfl rfl (i := nI i) (nI_in (by have := hM.1; omega) (by decide)) d_D_clashes_5 ?_
  refine mr_top (show fco (nI i).toNatClampNeg = fco i from mr_nc (by have := hM.1; omega)) ?_
  refine lv_iload_n hx hb d_D_clashes_6 rfl (lv_at hl 2 rfl) ?_
  refine lv_icmp_ne (tgt := 71) hx hb d_D_clashes_7 (by decide) (fun c_1 => ?_) (fun c_1 => ?_)
  · refine lv_iconst (v := 0) hx hb d_D_clashes_71 (by decide) ?_
    exact W.zret (v := 0) hx hb hr (mr_narz mr_b0) (fun t ht _ => ⟨_, rfl, mr_b0, ht⟩) (fun _ h => nomatch h) d_D_clashes_72
  · refine lv_aload_n hx hb d_D_clashes_10 rfl (lv_at hl 0 rfl) ?_
    refine va_get (D := (dC, dI)) (ci := 3) (v := .ref (r 4)) (C := R_D) (T := T_D) (N := 19) hx hb hts ti_D hown hK hP 0 rfl rfl 4 (by decide) (hts (Cond.fieldLink "MeasureRowsModel" 16 "MeasureRowsModel" "land" "[I") mw_270) (fun _ h9 => h9) rfl d_D_clashes_11 ?_
    refine lv_iload_n hx hb d_D_clashes_14 rfl (lv_at hl 1 rfl) ?_
    refine va_iald (D := (dC, dI)) hx hb hK hP 2 0 rfl rfl (i := nI i) (nI_in (by have := hM.1; omega) (by decide)) d_D_clashes_15 ?_
    refine mr_top (show fla (nI i).toNatClampNeg = fla i from mr_nc (by have := hM.1; omega)) ?_
    refine lv_iload_n hx hb d_D_clashes_16 rfl (lv_at hl 3 rfl) ?_
    refine lv_icmp_ne (tgt := 71) hx hb d_D_clashes_17 (by decide) (fun c_2 => ?_) (fun c_2 => ?_)
    · refine lv_iconst (v := 0) hx hb d_D_clashes_71 (by decide) ?_
      exact W.zret (v := 0) hx hb hr (mr_narz mr_b0) (fun t ht _ => ⟨_, rfl, mr_b0, ht⟩) (fun _ h => nomatch h) d_D_clashes_72
    · refine lv_aload_n hx hb d_D_clashes_20 rfl (lv_at hl 0 rfl) ?_
      refine va_get (D := (dC, dI)) (ci := 3) (v := .ref (r 6)) (C := R_D) (T := T_D) (N := 19) hx hb hts ti_D hown hK hP 0 rfl rfl 6 (by decide) (hts (Cond.fieldLink "MeasureRowsModel" 22 "MeasureRowsModel" "kind" "[I") mw_271) (fun _ h9 => h9) rfl d_D_clashes_21 ?_
      refine lv_iload_n hx hb d_D_clashes_24 rfl (lv_at hl 1 rfl) ?_
      refine va_iald (D := (dC, dI)) hx hb hK hP 4 0 rfl rfl (i := nI i) (nI_in (by have := hM.1; omega) (by decide)) d_D_clashes_25 ?_
      refine mr_top (show fki (nI i).toNatClampNeg = fki i from mr_nc (by have := hM.1; omega)) ?_
      refine lv_iload hx hb d_D_clashes_26 (lv_at hl 6 rfl) ?_
      refine lv_icmp_ne (tgt := 71) hx hb d_D_clashes_28 (by decide) (fun c_3 => ?_) (fun c_3 => ?_)
      · refine lv_iconst (v := 0) hx hb d_D_clashes_71 (by decide) ?_
        exact W.zret (v := 0) hx hb hr (mr_narz mr_b0) (fun t ht _ => ⟨_, rfl, mr_b0, ht⟩) (fun _ h => nomatch h) d_D_clashes_72
      · refine lv_aload_n hx hb d_D_clashes_31 rfl (lv_at hl 0 rfl) ?_
        refine va_get (D := (dC, dI)) (ci := 3) (v := .ref (r 7)) (C := R_D) (T := T_D) (N := 19) hx hb hts ti_D hown hK hP 0 rfl rfl 7 (by decide) (hts (Cond.fieldLink "MeasureRowsModel" 25 "MeasureRowsModel" "rank" "[I") mw_272) (fun _ h9 => h9) rfl d_D_clashes_32 ?_
        refine lv_iload_n hx hb d_D_clashes_35 rfl (lv_at hl 1 rfl) ?_
        refine va_iald (D := (dC, dI)) hx hb hK hP 5 0 rfl rfl (i := nI i) (nI_in (by have := hM.1; omega) (by decide)) d_D_clashes_36 ?_
        refine mr_top (show fra (nI i).toNatClampNeg = fra i from mr_nc (by have := hM.1; omega)) ?_
        refine lv_iload hx hb d_D_clashes_37 (lv_at hl 7 rfl) ?_
        refine lv_icmp_ne (tgt := 71) hx hb d_D_clashes_39 (by decide) (fun c_4 => ?_) (fun c_4 => ?_)
        · refine lv_iconst (v := 0) hx hb d_D_clashes_71 (by decide) ?_
          exact W.zret (v := 0) hx hb hr (mr_narz mr_b0) (fun t ht _ => ⟨_, rfl, mr_b0, ht⟩) (fun _ h => nomatch h) d_D_clashes_72
        · refine lv_aload_n hx hb d_D_clashes_42 rfl (lv_at hl 0 rfl) ?_
          refine va_get (D := (dC, dI)) (ci := 3) (v := .ref (r 5)) (C := R_D) (T := T_D) (N := 19) hx hb hts ti_D hown hK hP 0 rfl rfl 5 (by decide) (hts (Cond.fieldLink "MeasureRowsModel" 19 "MeasureRowsModel" "first" "[I") mw_263) (fun _ h9 => h9) rfl d_D_clashes_43 ?_
          refine lv_iload_n hx hb d_D_clashes_46 rfl (lv_at hl 1 rfl) ?_
          refine va_iald (D := (dC, dI)) hx hb hK hP 3 0 rfl rfl (i := nI i) (nI_in (by have := hM.1; omega) (by decide)) d_D_clashes_47 ?_
          refine mr_top (show ffi (nI i).toNatClampNeg = ffi i from mr_nc (by have := hM.1; omega)) ?_
          refine lv_iload hx hb d_D_clashes_48 (lv_at hl 5 rfl) ?_
          refine lv_icmp_gt (tgt := 71) hx hb d_D_clashes_50 (by decide) (fun c_5 => ?_) (fun c_5 => ?_)
          · refine lv_iconst (v := 0) hx hb d_D_clashes_71 (by decide) ?_
            exact W.zret (v := 0) hx hb hr (mr_narz mr_b0) (fun t ht _ => ⟨_, rfl, mr_b0, ht⟩) (fun _ h => nomatch h) d_D_clashes_72
          · refine lv_iload hx hb d_D_clashes_53 (lv_at hl 4 rfl) ?_
            refine lv_aload_n hx hb d_D_clashes_55 rfl (lv_at hl 0 rfl) ?_
            refine lv_iload_n hx hb d_D_clashes_56 rfl (lv_at hl 1 rfl) ?_
            refine lv_aload_n hx hb d_D_clashes_57 rfl (lv_at hl 0 rfl) ?_
            refine va_get (D := (dC, dI)) (ci := 3) (v := .int nw) (C := R_D) (T := T_D) (N := 19) hx hb hts ti_D hown hK hP 0 rfl rfl 14 (by decide) (hts (Cond.fieldLink "MeasureRowsModel" 84 "MeasureRowsModel" "now" "I") mw_273) (fun _ h9 => h9) rfl d_D_clashes_58 ?_
            obtain ⟨t_6, het_6, h1t_6, h8t_6⟩ := (hM.2 i (by omega) (by omega)).1
            refine vp_callSi (va_Run.run (va_runV (As := [.int (nI i), .int nw]) (rest := [.int a3]) (C := R_D) ⟨hx, hb, hml, hown, hts⟩ (mc_D_lastOf l s0 dC dI cI cR cL cZ r th (nI n) nw pb lc fe fa fk i t_6 nw (by have := hM.1; omega) het_6 h8t_6) ⟨(mr_cB 2 (hts (Cond.code y_D_lastOf b_D_lastOf 6 (some .int)) mw_264) (hts (Cond.initialized y_D_lastOf.cls) mw_265) (hts (Cond.methodLink "MeasureRowsModel" 87 y_D_lastOf) mw_266) rfl rfl (by decide +kernel) ⟨Nat.le_of_ble_eq_true rfl, Nat.le_of_ble_eq_true rfl⟩), (hts (Cond.instanceMethod y_D_lastOf) mw_267), (hts (Cond.selects "MeasureRowsModel" y_D_lastOf y_D_lastOf) mw_268)⟩ (mr_preV hBH hK (hP.sub (ws' := [((r 0), .inr (3, mf_D r th (nI n) nw pb lc)), ((r 11), .inl (cI, 81, .inl fe)), ((r 12), .inl (cI, 648, .inl fa)), ((r 13), .inl (cI, 648, .inl fk))]) [0, 6, 7, 8] rfl) (ci := 3) (q0 := 0) rfl rfl) rfl rfl hl.1 rfl (lv_room (Nat.le_of_ble_eq_true rfl)) d_D_clashes_61 ⟨Nat.le_of_ble_eq_true rfl, Nat.le_of_ble_eq_true rfl⟩)) (fun r_7 h_8 => ?_)
            refine lv_icmp_gt (tgt := 71) hx hb d_D_clashes_64 (by decide) (fun c_9 => ?_) (fun c_9 => ?_)
            · refine lv_iconst (v := 0) hx hb d_D_clashes_71 (by decide) ?_
              exact W.zret (v := 0) hx hb hr (mr_narz mr_b0) (fun t ht _ => ⟨_, rfl, mr_b0, ht⟩) (fun _ h => nomatch h) d_D_clashes_72
            · refine lv_iconst (v := 1) hx hb d_D_clashes_67 (by decide) ?_
              refine lv_goto (tgt := 72) hx hb d_D_clashes_68 (by decide) ?_
              exact W.zret (v := 1) hx hb hr (mr_narz mr_b1) (fun t ht _ => ⟨_, rfl, mr_b1, ht⟩) (fun _ h => nomatch h) d_D_clashes_72
set_option maxHeartbeats 4000000 in
set_option maxRecDepth 100000 in
theorem mc_D_isUnder (l : Launch) (s0 : State) (a0 : Int32) (a1 : Int32) (h0 : ¬ a1 < 0) : Met l y_D_isUnder [Cond.code y_D_isUnder b_D_isUnder 3 (some .boolean)] ({ frames := 0, cells := 0, slots := 0, locals := 0 }) (va_Pc [.int a0, .int a1] (fun U => mr_B s0 U)) (vp_Si (fun r => mr_b01 r)) 0 0 (fun _ => False) := by
  refine Met.ofW (cc := b_D_isUnder) (maxL := 3) (ret := (some .boolean)) (by decide) rfl ?_
  intro p e s m args below meth c s₁ B hml hv
  obtain ⟨rfl, hB⟩ := hv
  have hBH := hB.here
  have hx := B.exec
  have hb := B.bytes
  have hr := B.returns
  have hlocks := B.notSynchronized
  have hts : ∀ w ∈ lw_tbl, w.before [.int a0, .int a1].toArray s = true := hB.hts _
  have hown : s.vm.findClass "MeasureRowsModel" = some m.cls := findClass_of_methodNamed B.named
  have hl := lv_entry ([.int a0, .int a1]) (n := 3) (Nat.le_of_ble_eq_true rfl)
  rw [lg_entry_eq]
  generalize (lg_sl ([.int a0, .int a1]) ++ List.replicate (3 - (lg_sl ([.int a0, .int a1])).length) Slot.unset).toArray = ls at hl ⊢
  have hl : lv_has ls 3 [(0, .int a0), (1, .int a1)] := hl
  refine lv_iload_n hx hb d_D_isUnder_0 rfl (lv_at hl 0 rfl) ?_
  refine lv_istore_n (lv' := [(2, .int a0), (0, .int a0), (1, .int a1)]) hx hb d_D_isUnder_1 rfl hl (by decide) rfl (fun ls hl => ?_)
  refine mr_loop (N := a0.toNatClampNeg) (I := fun j H locs ls => H = s.heap ∧ locs = [] ∧ ∃ v9 : Int32, v9.toInt + j ≤ (a0.toNatClampNeg : Int) ∧ lv_has ls 3 [(2, .int v9), (0, .int a0), (1, .int a1)]) (fun j H locs ls hj hI ih => ?_) (fun H locs ls hI => ?_) 0 _ _ _ (Nat.zero_le _) ⟨rfl, rfl, a0, mr_iu0 a0, (lv_sub hl [0, 1, 2] rfl)⟩
  · obtain ⟨rfl, rfl, v9, hv9, hl⟩ := hI
    refine lv_iload_n hx hb d_D_isUnder_2 rfl (lv_at hl 0 rfl) ?_
    refine lv_iload_n hx hb d_D_isUnder_3 rfl (lv_at hl 2 rfl) ?_
    refine lv_icmp_le (tgt := 15) hx hb d_D_isUnder_4 (by decide) (fun c_1 => ?_) (fun c_1 => ?_)
    · refine lv_iload_n hx hb d_D_isUnder_15 rfl (lv_at hl 0 rfl) ?_
      refine lv_iload_n hx hb d_D_isUnder_16 rfl (lv_at hl 2 rfl) ?_
      refine lv_icmp_ne (tgt := 24) hx hb d_D_isUnder_17 (by decide) (fun c_2 => ?_) (fun c_2 => ?_)
      · refine lv_iconst (v := 0) hx hb d_D_isUnder_24 (by decide) ?_
        exact W.zret (v := 0) hx hb hr (mr_narz mr_b0) (fun t ht _ => ⟨_, rfl, mr_b0, ht⟩) (fun _ h => nomatch h) d_D_isUnder_25
      · refine lv_iconst (v := 1) hx hb d_D_isUnder_20 (by decide) ?_
        refine lv_goto (tgt := 25) hx hb d_D_isUnder_21 (by decide) ?_
        exact W.zret (v := 1) hx hb hr (mr_narz mr_b1) (fun t ht _ => ⟨_, rfl, mr_b1, ht⟩) (fun _ h => nomatch h) d_D_isUnder_25
    · refine lv_iload_n hx hb d_D_isUnder_7 rfl (lv_at hl 0 rfl) ?_
      refine lv_bipush (v := 100) hx hb d_D_isUnder_8 (by decide) ?_
      refine lv_idiv hx hb d_D_isUnder_10 (by decide) ?_
      refine lv_istore_n (lv' := [(2, .int (v9 / 100)), (0, .int a0), (1, .int a1)]) hx hb d_D_isUnder_11 rfl hl (by decide) rfl (fun ls hl => ?_)
      refine lv_goto (tgt := 2) hx hb d_D_isUnder_12 (by decide) ?_
      exact ih _ _ _ ⟨rfl, rfl, v9 / 100, mr_iu h0 c_1 hv9, lv_sub hl [0, 1, 2] rfl⟩
  · obtain ⟨rfl, rfl, v9, hv9, hl⟩ := hI
    refine lv_iload_n hx hb d_D_isUnder_2 rfl (lv_at hl 0 rfl) ?_
    refine lv_iload_n hx hb d_D_isUnder_3 rfl (lv_at hl 2 rfl) ?_
    refine lv_icmp_le (tgt := 15) hx hb d_D_isUnder_4 (by decide) (fun _ => ?_) (fun c_3 => absurd (mr_iue h0 hv9) c_3)
    refine lv_iload_n hx hb d_D_isUnder_15 rfl (lv_at hl 0 rfl) ?_
    refine lv_iload_n hx hb d_D_isUnder_16 rfl (lv_at hl 2 rfl) ?_
    refine lv_icmp_ne (tgt := 24) hx hb d_D_isUnder_17 (by decide) (fun c_4 => ?_) (fun c_4 => ?_)
    · refine lv_iconst (v := 0) hx hb d_D_isUnder_24 (by decide) ?_
      exact W.zret (v := 0) hx hb hr (mr_narz mr_b0) (fun t ht _ => ⟨_, rfl, mr_b0, ht⟩) (fun _ h => nomatch h) d_D_isUnder_25
    · refine lv_iconst (v := 1) hx hb d_D_isUnder_20 (by decide) ?_
      refine lv_goto (tgt := 25) hx hb d_D_isUnder_21 (by decide) ?_
      exact W.zret (v := 1) hx hb hr (mr_narz mr_b1) (fun t ht _ => ⟨_, rfl, mr_b1, ht⟩) (fun _ h => nomatch h) d_D_isUnder_25
end
