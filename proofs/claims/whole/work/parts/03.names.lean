/-! names of the classes, their fields, the tables' words -/
def R_A : String := "DataSets$Attributes"
def F_A : u_T := fun k => match k with
  | 0 => ("DataSets$Attributes", "told", "[Z", true)
  | _ => ("DataSets$Attributes", "values", "[I", true)
def t_A : Nat → FieldType := fun k => match k with
  | 0 => (.array .boolean)
  | _ => (.array .int)
theorem n_A : ∀ a, a < 2 → ∀ b, b < 2 → a ≠ b → (F_A a).2.1 ≠ (F_A b).2.1 := by decide +kernel
theorem t_A_ok : ∀ k, k < 2 → parseFieldDescriptor (F_A k).2.2.1 = some (t_A k) := by decide +kernel
def R_S : String := "DataSets$DataSet"
def F_S : u_T := fun k => match k with
  | 0 => ("DataSets$DataSet", "name", "I", false)
  | 1 => ("DataSets$DataSet", "further", "I", true)
  | 2 => ("DataSets$DataSet", "guardDay", "J", false)
  | 3 => ("DataSets$DataSet", "extents", "LDataSets$Extents;", true)
  | 4 => ("DataSets$DataSet", "directory", "LDataSets$Directory;", true)
  | _ => ("DataSets$DataSet", "attributes", "LDataSets$Attributes;", true)
def t_S : Nat → FieldType := fun k => match k with
  | 0 => .int
  | 1 => .int
  | 2 => .long
  | 3 => (.object "DataSets$Extents")
  | 4 => (.object "DataSets$Directory")
  | _ => (.object "DataSets$Attributes")
theorem n_S : ∀ a, a < 6 → ∀ b, b < 6 → a ≠ b → (F_S a).2.1 ≠ (F_S b).2.1 := by decide +kernel
theorem t_S_ok : ∀ k, k < 6 → parseFieldDescriptor (F_S k).2.2.1 = some (t_S k) := by decide +kernel
def R_D : String := "DataSets$Directory"
def F_D : u_T := fun k => match k with
  | 0 => ("DataSets$Directory", "names", "[I", true)
  | 1 => ("DataSets$Directory", "starts", "[I", true)
  | 2 => ("DataSets$Directory", "lengths", "[I", true)
  | 3 => ("DataSets$Directory", "count", "I", false)
  | _ => ("DataSets$Directory", "given", "I", false)
def t_D : Nat → FieldType := fun k => match k with
  | 0 => (.array .int)
  | 1 => (.array .int)
  | 2 => (.array .int)
  | 3 => .int
  | _ => .int
theorem n_D : ∀ a, a < 5 → ∀ b, b < 5 → a ≠ b → (F_D a).2.1 ≠ (F_D b).2.1 := by decide +kernel
theorem t_D_ok : ∀ k, k < 5 → parseFieldDescriptor (F_D k).2.2.1 = some (t_D k) := by decide +kernel
def R_E : String := "DataSets$Extents"
def F_E : u_T := fun k => match k with
  | 0 => ("DataSets$Extents", "firsts", "[I", true)
  | 1 => ("DataSets$Extents", "lengths", "[I", true)
  | _ => ("DataSets$Extents", "count", "I", false)
def t_E : Nat → FieldType := fun k => match k with
  | 0 => (.array .int)
  | 1 => (.array .int)
  | _ => .int
theorem n_E : ∀ a, a < 3 → ∀ b, b < 3 → a ≠ b → (F_E a).2.1 ≠ (F_E b).2.1 := by decide +kernel
theorem t_E_ok : ∀ k, k < 3 → parseFieldDescriptor (F_E k).2.2.1 = some (t_E k) := by decide +kernel
def R_L : String := "DataSets$Line"
def F_L : u_T := fun k => match k with
  | 0 => ("DataSets$Line", "jobs", "[I", true)
  | 1 => ("DataSets$Line", "alone", "[Z", true)
  | 2 => ("DataSets$Line", "size", "I", false)
  | _ => ("DataSets$Line", "holders", "I", false)
def t_L : Nat → FieldType := fun k => match k with
  | 0 => (.array .int)
  | 1 => (.array .boolean)
  | 2 => .int
  | _ => .int
theorem n_L : ∀ a, a < 4 → ∀ b, b < 4 → a ≠ b → (F_L a).2.1 ≠ (F_L b).2.1 := by decide +kernel
theorem t_L_ok : ∀ k, k < 4 → parseFieldDescriptor (F_L k).2.2.1 = some (t_L k) := by decide +kernel
def R_V : String := "DataSets$Volume"
def F_V : u_T := fun k => match k with
  | _ => ("DataSets$Volume", "taken", "[Z", true)
def t_V : Nat → FieldType := fun k => match k with
  | _ => (.array .boolean)
theorem n_V : ∀ a, a < 1 → ∀ b, b < 1 → a ≠ b → (F_V a).2.1 ≠ (F_V b).2.1 := by decide +kernel
theorem t_V_ok : ∀ k, k < 1 → parseFieldDescriptor (F_V k).2.2.1 = some (t_V k) := by decide +kernel
def R_C : String := "DataSets"
def F_C : u_T := fun k => match k with
  | 0 => ("DataSets", "volume", "LDataSets$Volume;", true)
  | 1 => ("DataSets", "sets", "[LDataSets$DataSet;", true)
  | 2 => ("DataSets", "lines", "[LDataSets$Line;", true)
  | _ => ("DataSets", "made", "I", false)
def t_C : Nat → FieldType := fun k => match k with
  | 0 => (.object "DataSets$Volume")
  | 1 => (.array (.object "DataSets$DataSet"))
  | 2 => (.array (.object "DataSets$Line"))
  | _ => .int
theorem n_C : ∀ a, a < 4 → ∀ b, b < 4 → a ≠ b → (F_C a).2.1 ≠ (F_C b).2.1 := by decide +kernel
theorem t_C_ok : ∀ k, k < 4 → parseFieldDescriptor (F_C k).2.2.1 = some (t_C k) := by decide +kernel
def R_M : String := "DataSetsModel"
def F_M : u_T := fun k => match k with
  | 0 => ("DataSetsModel", "code", "I", false)
  | 1 => ("DataSetsModel", "tracks", "I", true)
  | 2 => ("DataSetsModel", "owners", "[I", true)
  | 3 => ("DataSetsModel", "sets", "I", false)
  | 4 => ("DataSetsModel", "gone", "[Z", true)
  | 5 => ("DataSetsModel", "names", "[I", true)
  | 6 => ("DataSetsModel", "furthers", "[I", true)
  | 7 => ("DataSetsModel", "givens", "[I", true)
  | 8 => ("DataSetsModel", "many", "[I", true)
  | 9 => ("DataSetsModel", "extents", "[I", true)
  | 10 => ("DataSetsModel", "guards", "[J", true)
  | 11 => ("DataSetsModel", "memberNames", "[I", true)
  | 12 => ("DataSetsModel", "memberFirsts", "[I", true)
  | 13 => ("DataSetsModel", "memberSizes", "[I", true)
  | 14 => ("DataSetsModel", "attributes", "[I", true)
  | 15 => ("DataSetsModel", "told", "[Z", true)
  | 16 => ("DataSetsModel", "askNames", "[I", true)
  | 17 => ("DataSetsModel", "askJobs", "[I", true)
  | 18 => ("DataSetsModel", "askAlone", "[Z", true)
  | 19 => ("DataSetsModel", "askWaits", "[Z", true)
  | _ => ("DataSetsModel", "asks", "I", false)
def t_M : Nat → FieldType := fun k => match k with
  | 0 => .int
  | 1 => .int
  | 2 => (.array .int)
  | 3 => .int
  | 4 => (.array .boolean)
  | 5 => (.array .int)
  | 6 => (.array .int)
  | 7 => (.array .int)
  | 8 => (.array .int)
  | 9 => (.array .int)
  | 10 => (.array .long)
  | 11 => (.array .int)
  | 12 => (.array .int)
  | 13 => (.array .int)
  | 14 => (.array .int)
  | 15 => (.array .boolean)
  | 16 => (.array .int)
  | 17 => (.array .int)
  | 18 => (.array .boolean)
  | 19 => (.array .boolean)
  | _ => .int
theorem n_M : ∀ a, a < 21 → ∀ b, b < 21 → a ≠ b → (F_M a).2.1 ≠ (F_M b).2.1 := by decide +kernel
theorem t_M_ok : ∀ k, k < 21 → parseFieldDescriptor (F_M k).2.2.1 = some (t_M k) := by decide +kernel
def gCl : List vw_C := [(R_A, F_A, 2), (R_S, F_S, 6), (R_D, F_D, 5), (R_E, F_E, 3), (R_L, F_L, 4), (R_V, F_V, 1), (R_C, F_C, 4), (R_M, F_M, 21)]
def gTb : List Jvm.Cond := lw_tbl.filter goodWord
theorem gTb_in {w : Jvm.Cond} (i : Nat) (h : lw_tbl[i]? = some w) (hg : goodWord w = true) : w ∈ gTb := List.mem_filter.mpr ⟨List.mem_of_getElem? h, hg⟩
theorem gTb_good : g_good gTb := fun w h => good_of_word (List.mem_filter.mp h).2
theorem gTb_sub : ∀ w ∈ gTb, w ∈ lw_tbl := fun w h => (List.mem_filter.mp h).1
def gAT : List FieldType := [.int, .boolean, .long, .object "DataSets$DataSet", .object "DataSets$Line"]
def gEl : Nat → Option Nat := fun t => match t with
  | 3 => some 1
  | 4 => some 4
  | _ => none
def gAO : List String := ["DataSets$DataSet", "DataSets$Line"]
def gNs : List Jvm.Cond := [(Jvm.Cond.fieldLinkNest "DataSets" (167 : Nat) "DataSets$Extents" "firsts" "[I" "DataSets"), (Jvm.Cond.fieldLinkNest "DataSets" (171 : Nat) "DataSets$Extents" "lengths" "[I" "DataSets"), (Jvm.Cond.fieldLinkNest "DataSets" (71 : Nat) "DataSets$Extents" "count" "I" "DataSets"), (Jvm.Cond.fieldLinkNest "DataSets" (83 : Nat) "DataSets$Directory" "given" "I" "DataSets"), (Jvm.Cond.fieldLinkNest "DataSets" (110 : Nat) "DataSets$DataSet" "name" "I" "DataSets"), (Jvm.Cond.fieldLinkNest "DataSets" (68 : Nat) "DataSets$DataSet" "further" "I" "DataSets"), (Jvm.Cond.fieldLinkNest "DataSets" (102 : Nat) "DataSets$DataSet" "guardDay" "J" "DataSets"), (Jvm.Cond.fieldLinkNest "DataSets" (51 : Nat) "DataSets$DataSet" "extents" "LDataSets$Extents;" "DataSets"), (Jvm.Cond.fieldLinkNest "DataSets" (74 : Nat) "DataSets$DataSet" "directory" "LDataSets$Directory;" "DataSets"), (Jvm.Cond.fieldLinkNest "DataSets" (116 : Nat) "DataSets$DataSet" "attributes" "LDataSets$Attributes;" "DataSets"), (Jvm.Cond.methodLinkNest "DataSets$Attributes" (19 : Nat) ({ cls := "DataSets", name := "isAttribute", desc := "(I)Z" } : Jvm.MethodName) "DataSets"), (Jvm.Cond.fieldLinkNest "DataSets" (174 : Nat) "DataSets$Line" "size" "I" "DataSets"), (Jvm.Cond.fieldLinkNest "DataSets" (177 : Nat) "DataSets$Line" "holders" "I" "DataSets")]
theorem gNs_sub : ∀ w ∈ gNs, w ∈ lw_tbl := by decide +kernel
theorem gNs_ok : g_nst gNs := by
  intro w hw
  simp only [gNs, List.mem_cons, List.not_mem_nil, or_false] at hw
  rcases hw with rfl | rfl | rfl | rfl | rfl | rfl | rfl | rfl | rfl | rfl | rfl | rfl | rfl
  all_goals first | exact Or.inl ⟨_, _, _, _, _, _, rfl⟩ | exact Or.inr ⟨_, _, _, _, rfl⟩
theorem i_A : ∀ w ∈ u_ws R_A F_A 2, w ∈ gTb := by decide +kernel
theorem i_S : ∀ w ∈ u_ws R_S F_S 6, w ∈ gTb := by decide +kernel
theorem i_D : ∀ w ∈ u_ws R_D F_D 5, w ∈ gTb := by decide +kernel
theorem i_E : ∀ w ∈ u_ws R_E F_E 3, w ∈ gTb := by decide +kernel
theorem i_L : ∀ w ∈ u_ws R_L F_L 4, w ∈ gTb := by decide +kernel
theorem i_V : ∀ w ∈ u_ws R_V F_V 1, w ∈ gTb := by decide +kernel
theorem i_C : ∀ w ∈ u_ws R_C F_C 4, w ∈ gTb := by decide +kernel
theorem i_M : ∀ w ∈ u_ws R_M F_M 21, w ∈ gTb := by decide +kernel
theorem gCl_ok : g_COK gCl gTb := by
  intro ci C F N h
  match ci, h with
  | 0, h => cases h; exact ⟨i_A, ⟨t_A, t_A_ok⟩, n_A⟩
  | 1, h => cases h; exact ⟨i_S, ⟨t_S, t_S_ok⟩, n_S⟩
  | 2, h => cases h; exact ⟨i_D, ⟨t_D, t_D_ok⟩, n_D⟩
  | 3, h => cases h; exact ⟨i_E, ⟨t_E, t_E_ok⟩, n_E⟩
  | 4, h => cases h; exact ⟨i_L, ⟨t_L, t_L_ok⟩, n_L⟩
  | 5, h => cases h; exact ⟨i_V, ⟨t_V, t_V_ok⟩, n_V⟩
  | 6, h => cases h; exact ⟨i_C, ⟨t_C, t_C_ok⟩, n_C⟩
  | 7, h => cases h; exact ⟨i_M, ⟨t_M, t_M_ok⟩, n_M⟩
  | k + 8, h => simp [gCl] at h
theorem gEl_ok : g_EOK gEl gCl gAT := by
  refine ⟨fun t h => ?_, fun t ci h => ?_⟩
  · unfold gEl at h
    split at h
    · exact ⟨_, rfl⟩
    · exact ⟨_, rfl⟩
    · cases h
  · unfold gEl at h
    split at h
    · cases h; exact ⟨_, F_S, 6, rfl, rfl⟩
    · cases h; exact ⟨_, F_L, 4, rfl, rfl⟩
    · cases h
theorem gG_ok : g_GOK gEl gCl gTb gNs gAT := ⟨gCl_ok, gTb_good, gNs_ok, gEl_ok, rfl, rfl, rfl, gTb_in 115 (by decide +kernel) rfl, gTb_in 57 (by decide +kernel) rfl, gTb_in 456 (by decide +kernel) rfl⟩
def gRm (k mc ms : Nat) : Room := { frames := k, cells := mc, slots := ms, locals := 40 * k }
def y_C_init : MethodName := ⟨"DataSets", "<init>", "(I)V"⟩
abbrev b_C_init : ByteArray := prog_1_method_1_code
def y_C_make : MethodName := ⟨"DataSets", "make", "(III)I"⟩
abbrev b_C_make : ByteArray := prog_1_method_2_code
def y_C_extend : MethodName := ⟨"DataSets", "extend", "(I)I"⟩
abbrev b_C_extend : ByteArray := prog_1_method_3_code
def y_C_find : MethodName := ⟨"DataSets", "find", "(I)I"⟩
abbrev b_C_find : ByteArray := prog_1_method_4_code
def y_C_member : MethodName := ⟨"DataSets", "member", "(III)I"⟩
abbrev b_C_member : ByteArray := prog_1_method_5_code
def y_C_track : MethodName := ⟨"DataSets", "track", "(II)I"⟩
abbrev b_C_track : ByteArray := prog_1_method_6_code
def y_C_remove : MethodName := ⟨"DataSets", "remove", "(IJ)I"⟩
abbrev b_C_remove : ByteArray := prog_1_method_7_code
def y_C_guard : MethodName := ⟨"DataSets", "guard", "(IJ)I"⟩
abbrev b_C_guard : ByteArray := prog_1_method_8_code
def y_C_rename : MethodName := ⟨"DataSets", "rename", "(II)I"⟩
abbrev b_C_rename : ByteArray := prog_1_method_9_code
def y_C_attribute : MethodName := ⟨"DataSets", "attribute", "(IIII)I"⟩
abbrev b_C_attribute : ByteArray := prog_1_method_10_code
def y_C_merged : MethodName := ⟨"DataSets", "merged", "(II)I"⟩
abbrev b_C_merged : ByteArray := prog_1_method_11_code
def y_C_enqueue : MethodName := ⟨"DataSets", "enqueue", "(IIZ)I"⟩
abbrev b_C_enqueue : ByteArray := prog_1_method_12_code
def y_C_free : MethodName := ⟨"DataSets", "free", "(I)I"⟩
abbrev b_C_free : ByteArray := prog_1_method_13_code
def y_C_compress : MethodName := ⟨"DataSets", "compress", "(I)I"⟩
abbrev b_C_compress : ByteArray := prog_1_method_14_code
def y_C_release : MethodName := ⟨"DataSets", "release", "(I)I"⟩
abbrev b_C_release : ByteArray := prog_1_method_15_code
def y_C_space : MethodName := ⟨"DataSets", "space", "(I)I"⟩
abbrev b_C_space : ByteArray := prog_1_method_16_code
def y_C_extent : MethodName := ⟨"DataSets", "extent", "(III)I"⟩
abbrev b_C_extent : ByteArray := prog_1_method_17_code
def y_C_isName : MethodName := ⟨"DataSets", "isName", "(I)Z"⟩
abbrev b_C_isName : ByteArray := prog_1_method_18_code
def y_C_isJob : MethodName := ⟨"DataSets", "isJob", "(I)Z"⟩
abbrev b_C_isJob : ByteArray := prog_1_method_19_code
def y_C_isAttribute : MethodName := ⟨"DataSets", "isAttribute", "(I)Z"⟩
abbrev b_C_isAttribute : ByteArray := prog_1_method_20_code
def y_C_setOf : MethodName := ⟨"DataSets", "setOf", "(I)LDataSets$DataSet;"⟩
abbrev b_C_setOf : ByteArray := prog_1_method_21_code
def y_C_numberOf : MethodName := ⟨"DataSets", "numberOf", "(I)I"⟩
abbrev b_C_numberOf : ByteArray := prog_1_method_22_code
def y_C_isInUse : MethodName := ⟨"DataSets", "isInUse", "(I)Z"⟩
abbrev b_C_isInUse : ByteArray := prog_1_method_23_code
def y_C_countSets : MethodName := ⟨"DataSets", "countSets", "()I"⟩
abbrev b_C_countSets : ByteArray := prog_1_method_24_code
def y_C_countExtents : MethodName := ⟨"DataSets", "countExtents", "()I"⟩
abbrev b_C_countExtents : ByteArray := prog_1_method_25_code
def y_C_countHoldings : MethodName := ⟨"DataSets", "countHoldings", "()I"⟩
abbrev b_C_countHoldings : ByteArray := prog_1_method_26_code
def y_C_countWaiting : MethodName := ⟨"DataSets", "countWaiting", "()I"⟩
abbrev b_C_countWaiting : ByteArray := prog_1_method_27_code
def y_M_init : MethodName := ⟨"DataSetsModel", "<init>", "(I)V"⟩
abbrev b_M_init : ByteArray := prog_9_method_1_code
def y_M_isName : MethodName := ⟨"DataSetsModel", "isName", "(I)Z"⟩
abbrev b_M_isName : ByteArray := prog_9_method_3_code
def y_M_isSet : MethodName := ⟨"DataSetsModel", "isSet", "(I)Z"⟩
abbrev b_M_isSet : ByteArray := prog_9_method_4_code
def y_M_named : MethodName := ⟨"DataSetsModel", "named", "(I)I"⟩
abbrev b_M_named : ByteArray := prog_9_method_5_code
def y_M_place : MethodName := ⟨"DataSetsModel", "place", "(I)I"⟩
abbrev b_M_place : ByteArray := prog_9_method_6_code
def y_M_take : MethodName := ⟨"DataSetsModel", "take", "(III)V"⟩
abbrev b_M_take : ByteArray := prog_9_method_7_code
def y_M_tracksOf : MethodName := ⟨"DataSetsModel", "tracksOf", "(I)I"⟩
abbrev b_M_tracksOf : ByteArray := prog_9_method_8_code
def y_M_make : MethodName := ⟨"DataSetsModel", "make", "(III)I"⟩
abbrev b_M_make : ByteArray := prog_9_method_9_code
def y_M_extend : MethodName := ⟨"DataSetsModel", "extend", "(I)I"⟩
abbrev b_M_extend : ByteArray := prog_9_method_10_code
def y_M_find : MethodName := ⟨"DataSetsModel", "find", "(I)I"⟩
abbrev b_M_find : ByteArray := prog_9_method_11_code
def y_M_memberOf : MethodName := ⟨"DataSetsModel", "memberOf", "(II)I"⟩
abbrev b_M_memberOf : ByteArray := prog_9_method_12_code
def y_M_member : MethodName := ⟨"DataSetsModel", "member", "(III)I"⟩
abbrev b_M_member : ByteArray := prog_9_method_13_code
def y_M_track : MethodName := ⟨"DataSetsModel", "track", "(II)I"⟩
abbrev b_M_track : ByteArray := prog_9_method_14_code
def y_M_compress : MethodName := ⟨"DataSetsModel", "compress", "(I)I"⟩
abbrev b_M_compress : ByteArray := prog_9_method_15_code
def y_M_release : MethodName := ⟨"DataSetsModel", "release", "(I)I"⟩
abbrev b_M_release : ByteArray := prog_9_method_16_code
def y_M_isAsked : MethodName := ⟨"DataSetsModel", "isAsked", "(I)Z"⟩
abbrev b_M_isAsked : ByteArray := prog_9_method_17_code
def y_M_remove : MethodName := ⟨"DataSetsModel", "remove", "(IJ)I"⟩
abbrev b_M_remove : ByteArray := prog_9_method_18_code
def y_M_guard : MethodName := ⟨"DataSetsModel", "guard", "(IJ)I"⟩
abbrev b_M_guard : ByteArray := prog_9_method_19_code
def y_M_rename : MethodName := ⟨"DataSetsModel", "rename", "(II)I"⟩
abbrev b_M_rename : ByteArray := prog_9_method_20_code
def y_M_can : MethodName := ⟨"DataSetsModel", "can", "(IZ)Z"⟩
abbrev b_M_can : ByteArray := prog_9_method_21_code
def y_M_isAwaited : MethodName := ⟨"DataSetsModel", "isAwaited", "(I)Z"⟩
abbrev b_M_isAwaited : ByteArray := prog_9_method_22_code
def y_M_enqueue : MethodName := ⟨"DataSetsModel", "enqueue", "(IIZ)I"⟩
abbrev b_M_enqueue : ByteArray := prog_9_method_23_code
def y_M_grant : MethodName := ⟨"DataSetsModel", "grant", "(I)V"⟩
abbrev b_M_grant : ByteArray := prog_9_method_24_code
def y_M_free : MethodName := ⟨"DataSetsModel", "free", "(I)I"⟩
abbrev b_M_free : ByteArray := prog_9_method_25_code
def y_M_attribute : MethodName := ⟨"DataSetsModel", "attribute", "(IIII)I"⟩
abbrev b_M_attribute : ByteArray := prog_9_method_26_code
def y_M_merged : MethodName := ⟨"DataSetsModel", "merged", "(II)I"⟩
abbrev b_M_merged : ByteArray := prog_9_method_27_code
def y_M_extent : MethodName := ⟨"DataSetsModel", "extent", "(III)I"⟩
abbrev b_M_extent : ByteArray := prog_9_method_28_code
def y_M_space : MethodName := ⟨"DataSetsModel", "space", "(I)I"⟩
abbrev b_M_space : ByteArray := prog_9_method_29_code
def y_A_init : MethodName := ⟨"DataSets$Attributes", "<init>", "()V"⟩
abbrev b_A_init : ByteArray := prog_2_method_1_code
def y_A_tell : MethodName := ⟨"DataSets$Attributes", "tell", "(III)V"⟩
abbrev b_A_tell : ByteArray := prog_2_method_2_code
def y_A_firstTold : MethodName := ⟨"DataSets$Attributes", "firstTold", "(I)I"⟩
abbrev b_A_firstTold : ByteArray := prog_2_method_3_code
def y_S_init : MethodName := ⟨"DataSets$DataSet", "<init>", "(II)V"⟩
abbrev b_S_init : ByteArray := prog_3_method_1_code
def y_D_init : MethodName := ⟨"DataSets$Directory", "<init>", "()V"⟩
abbrev b_D_init : ByteArray := prog_4_method_1_code
def y_D_hasRoomFor : MethodName := ⟨"DataSets$Directory", "hasRoomFor", "(I)Z"⟩
abbrev b_D_hasRoomFor : ByteArray := prog_4_method_2_code
def y_D_put : MethodName := ⟨"DataSets$Directory", "put", "(II)V"⟩
abbrev b_D_put : ByteArray := prog_4_method_3_code
def y_D_startOf : MethodName := ⟨"DataSets$Directory", "startOf", "(I)I"⟩
abbrev b_D_startOf : ByteArray := prog_4_method_4_code
def y_D_closeGaps : MethodName := ⟨"DataSets$Directory", "closeGaps", "()I"⟩
abbrev b_D_closeGaps : ByteArray := prog_4_method_5_code
def y_D_indexOf : MethodName := ⟨"DataSets$Directory", "indexOf", "(I)I"⟩
abbrev b_D_indexOf : ByteArray := prog_4_method_6_code
def y_D_drop : MethodName := ⟨"DataSets$Directory", "drop", "(I)V"⟩
abbrev b_D_drop : ByteArray := prog_4_method_7_code
def y_E_init : MethodName := ⟨"DataSets$Extents", "<init>", "()V"⟩
abbrev b_E_init : ByteArray := prog_5_method_1_code
def y_E_isFull : MethodName := ⟨"DataSets$Extents", "isFull", "()Z"⟩
abbrev b_E_isFull : ByteArray := prog_5_method_2_code
def y_E_add : MethodName := ⟨"DataSets$Extents", "add", "(II)V"⟩
abbrev b_E_add : ByteArray := prog_5_method_3_code
def y_E_tracks : MethodName := ⟨"DataSets$Extents", "tracks", "()I"⟩
abbrev b_E_tracks : ByteArray := prog_5_method_4_code
def y_E_onVolume : MethodName := ⟨"DataSets$Extents", "onVolume", "(I)I"⟩
abbrev b_E_onVolume : ByteArray := prog_5_method_5_code
def y_E_cutTo : MethodName := ⟨"DataSets$Extents", "cutTo", "(ILDataSets$Volume;)I"⟩
abbrev b_E_cutTo : ByteArray := prog_5_method_6_code
def y_L_init : MethodName := ⟨"DataSets$Line", "<init>", "()V"⟩
abbrev b_L_init : ByteArray := prog_6_method_1_code
def y_L_ask : MethodName := ⟨"DataSets$Line", "ask", "(IZ)I"⟩
abbrev b_L_ask : ByteArray := prog_6_method_2_code
def y_L_drop : MethodName := ⟨"DataSets$Line", "drop", "(I)I"⟩
abbrev b_L_drop : ByteArray := prog_6_method_3_code
def y_L_admit : MethodName := lw_adm
abbrev b_L_admit : ByteArray := prog_6_method_4_code
def y_L_canHold : MethodName := ⟨"DataSets$Line", "canHold", "(Z)Z"⟩
abbrev b_L_canHold : ByteArray := prog_6_method_5_code
def y_L_placeOf : MethodName := ⟨"DataSets$Line", "placeOf", "(I)I"⟩
abbrev b_L_placeOf : ByteArray := prog_6_method_6_code
def y_V_init : MethodName := ⟨"DataSets$Volume", "<init>", "(I)V"⟩
abbrev b_V_init : ByteArray := prog_7_method_1_code
def y_V_firstRun : MethodName := ⟨"DataSets$Volume", "firstRun", "(I)I"⟩
abbrev b_V_firstRun : ByteArray := prog_7_method_2_code
def y_V_longestRun : MethodName := ⟨"DataSets$Volume", "longestRun", "()I"⟩
abbrev b_V_longestRun : ByteArray := prog_7_method_3_code
def y_V_freeTracks : MethodName := ⟨"DataSets$Volume", "freeTracks", "()I"⟩
abbrev b_V_freeTracks : ByteArray := prog_7_method_4_code
def y_V_take : MethodName := ⟨"DataSets$Volume", "take", "(II)V"⟩
abbrev b_V_take : ByteArray := prog_7_method_5_code
def y_V_giveBack : MethodName := ⟨"DataSets$Volume", "giveBack", "(II)V"⟩
abbrev b_V_giveBack : ByteArray := prog_7_method_6_code
def y_V_mark : MethodName := ⟨"DataSets$Volume", "mark", "(IIZ)V"⟩
abbrev b_V_mark : ByteArray := prog_7_method_7_code
def y_W_cell : MethodName := ⟨"DataSetsLaw", "cell", "([II)I"⟩
abbrev b_W_cell : ByteArray := method_2_code
def y_W_law : MethodName := ⟨"DataSetsLaw", "law", "([I)Z"⟩
abbrev b_W_law : ByteArray := code
def g_FE (own : String) (q : Nat × Nat × Nat × Nat × Nat) : Prop := ∃ (C : String) (F : u_T) (N : Nat) (ty : FieldType), gCl[q.2.1]? = some (C, F, N) ∧ q.2.2.1 < N ∧ (F q.2.2.1).1 = C ∧ parseFieldDescriptor (F q.2.2.1).2.2.1 = some ty ∧ g_kind q.2.2.2.1 ty = true ∧ (q.2.2.2.2 = 1 → (F q.2.2.1).2.2.2 = false) ∧
  ((Jvm.Cond.fieldLink own q.1 C (F q.2.2.1).2.1 (F q.2.2.1).2.2.1 ∈ gTb ∧ (q.2.2.2.2 = 2 → (F q.2.2.1).2.2.2 = true ∧ C = own)) ∨ ((∃ host, Jvm.Cond.fieldLinkNest own q.1 C (F q.2.2.1).2.1 (F q.2.2.1).2.2.1 host ∈ gNs) ∧ ¬ q.2.2.2.2 = 2))
def g_NE (own : String) (q : Nat × Nat × List Value) : Prop := ∃ (C : String) (F : u_T) (N : Nat), gCl[q.2.1]? = some (C, F, N) ∧ q.2.2.length = N ∧ Jvm.Cond.classLink own q.1 C ∈ gTb ∧ Jvm.Cond.instantiable C N ∈ gTb ∧ Jvm.Cond.initialized C ∈ gTb ∧ ∃ ty : Nat → FieldType, (∀ k, k < N → parseFieldDescriptor (F k).2.2.1 = some (ty k)) ∧ ∀ j, j < N → defaultValue (ty j) = vp_V q.2.2 j
def g_CE (l : Launch) (sc : gX) (R : Room) (own : String) (q : Nat × Nat × Nat × gSpec × Nat × Nat) : Prop :=
  ∃ (y : MethodName) (b : ByteArray) (nL' : Nat) (ret : Option FieldType) (rm : Room), g_Met l sc gCl gTb gNs gAT gAO y b nL' ret rm q.2.2.2.1 q.2.2.2.2.1 q.2.2.2.2.2 ∧ rm.cells = q.2.2.2.2.1 ∧ rm.slots = q.2.2.2.2.2 ∧ rm.frames + 1 ≤ R.frames ∧ 8 + (nL' + 11) + rm.locals ≤ R.locals ∧ Jvm.Cond.code y b nL' ret ∈ gTb ∧ Jvm.Cond.initialized y.cls ∈ gTb ∧ (y.cls ≠ "java/lang/invoke/MethodHandle" ∧ y.cls ≠ "java/lang/invoke/VarHandle") ∧
    (Jvm.Cond.methodLink own q.1 y ∈ gTb ∨ ∃ host, Jvm.Cond.methodLinkNest own q.1 y host ∈ gNs) ∧
    (match q.2.2.1 with
      | 0 => (parseMethodDescriptor y.desc).map (fun d => d.parameters.length) = some q.2.1 ∧ Jvm.Cond.static y ∈ gTb
      | 1 => (parseMethodDescriptor y.desc).map (fun d => d.parameters.length + 1) = some q.2.1 ∧ y.name = "<init>" ∧ ret = none ∧ Jvm.Cond.instanceMethod y ∈ gTb
      | ci + 2 => (parseMethodDescriptor y.desc).map (fun d => d.parameters.length + 1) = some q.2.1 ∧ Jvm.Cond.instanceMethod y ∈ gTb ∧ ∃ (C : String) (F : u_T) (N : Nat), gCl[ci]? = some (C, F, N) ∧ Jvm.Cond.selects C y y ∈ gTb)
def g_ME (own : String) (q : Nat × Nat) : Prop :=
  (q.2 = 0 → Jvm.Cond.methodLink own q.1 Lib.objectInit ∈ gTb ∧ Jvm.Cond.instanceMethod Lib.objectInit ∈ gTb ∧ Jvm.Cond.code Lib.objectInit ⟨#[0xb1]⟩ 1 none ∈ gTb) ∧
  (q.2 = 1 → Jvm.Cond.methodLink own q.1 Lib.Math.max.name ∈ gTb ∧ Jvm.Cond.static Lib.Math.max.name ∈ gTb ∧ Jvm.Cond.initialized "java/lang/Math" ∈ gTb ∧ Jvm.Cond.code Lib.Math.max.name Lib.Math.max.code 2 (some .int) ∈ gTb) ∧
  (q.2 = 2 → Jvm.Cond.methodLink own q.1 Lib.Math.min.name ∈ gTb ∧ Jvm.Cond.static Lib.Math.min.name ∈ gTb ∧ Jvm.Cond.initialized "java/lang/Math" ∈ gTb ∧ Jvm.Cond.code Lib.Math.min.name Lib.Math.min.code 2 (some .int) ∈ gTb)
/-- a method's pool, out of lists -/
def gTT (LF : List (Nat × Nat × Nat × Nat × Nat)) (LC : List (Nat × Nat × Nat × gSpec × Nat × Nat)) (LN : List (Nat × Nat × List Value)) (LA : List (Nat × Nat)) (LL : List (Nat × Int64)) (LM : List (Nat × Nat)) : gT :=
  (fun i => LF.lookup i, fun i => LC.lookup i, fun i => LN.lookup i, fun i => LA.lookup i, fun i => LL.lookup i, fun i => LM.lookup i)
theorem gTT_ok {l : Launch} {sc : gX} {R : Room} {own : String} {LF : List (Nat × Nat × Nat × Nat × Nat)} {LC : List (Nat × Nat × Nat × gSpec × Nat × Nat)} {LN : List (Nat × Nat × List Value)} {LA : List (Nat × Nat)} {LL : List (Nat × Int64)} {LM : List (Nat × Nat)}
    (hF : ∀ q ∈ LF, g_FE own q) (hC : ∀ q ∈ LC, g_CE l sc R own q) (hN : ∀ q ∈ LN, g_NE own q) (hA : ∀ q ∈ LA, ∃ C : String, gAT[q.2]? = some (.object C) ∧ Jvm.Cond.classLink own q.1 C ∈ gTb ∧ C ∈ gAO) (hL : ∀ q ∈ LL, Jvm.Cond.constantLong own q.1 q.2 ∈ gTb) (hM : ∀ q ∈ LM, g_ME own q) :
    g_TOK l sc R (gTT LF LC LN LA LL LM) gEl own gCl gTb gNs gAT gAO := by
  refine ⟨fun idx ci k ft pk h => hF _ (g_lookup _ h), fun idx ci fs h => hN _ (g_lookup _ h), fun idx t h => hA _ (g_lookup _ h), fun idx d h => hL _ (g_lookup _ h), fun idx => ⟨fun h => (hM _ (g_lookup _ h)).1 rfl, fun h => (hM _ (g_lookup _ h)).2.1 rfl, fun h => (hM _ (g_lookup _ h)).2.2 rfl⟩, fun idx na kind sp c' z' h => hC _ (g_lookup _ h)⟩
