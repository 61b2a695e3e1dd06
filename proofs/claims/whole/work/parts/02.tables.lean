/-! printed by wip/whole/gen/emit_tables.py out of claim/JAVAP.txt, Statement.lean and the skeleton: the tables of the abstract machine -/
def am_F0 : u_T := fun k => match k with
  | 0 => ("BranchedPast$Branches", "parent", "[I", true)
  | 1 => ("BranchedPast$Branches", "fork", "[I", true)
  | 2 => ("BranchedPast$Branches", "open", "[Z", true)
  | 3 => ("BranchedPast$Branches", "limit", "[I", true)
  | _ => ("BranchedPast$Branches", "count", "I", false)
def am_ty0 : Nat → FieldType := fun k => match k with
  | 0 => .array .int
  | 1 => .array .int
  | 2 => .array .boolean
  | 3 => .array .int
  | _ => .int
theorem am_nm0 : ∀ a, a < 5 → ∀ b, b < 5 → a ≠ b → (am_F0 a).2.1 ≠ (am_F0 b).2.1 := by decide +kernel
theorem am_tyok0 : ∀ k, k < 5 → parseFieldDescriptor (am_F0 k).2.2.1 = some (am_ty0 k) := by decide +kernel
def am_F1 : u_T := fun k => match k with
  | 0 => ("BranchedPast$Path", "text", "[C", true)
  | 1 => ("BranchedPast$Path", "length", "I", false)
  | 2 => ("BranchedPast$Path", "at", "I", false)
  | _ => ("BranchedPast$Path", "set", "I", false)
def am_ty1 : Nat → FieldType := fun k => match k with
  | 0 => .array .char
  | 1 => .int
  | 2 => .int
  | _ => .int
theorem am_nm1 : ∀ a, a < 4 → ∀ b, b < 4 → a ≠ b → (am_F1 a).2.1 ≠ (am_F1 b).2.1 := by decide +kernel
theorem am_tyok1 : ∀ k, k < 4 → parseFieldDescriptor (am_F1 k).2.2.1 = some (am_ty1 k) := by decide +kernel
def am_F2 : u_T := fun k => match k with
  | 0 => ("BranchedPast$View", "kind", "[I", true)
  | 1 => ("BranchedPast$View", "value", "[I", true)
  | _ => ("BranchedPast$View", "moment", "[I", true)
def am_ty2 : Nat → FieldType := fun k => match k with
  | 0 => .array .int
  | 1 => .array .int
  | _ => .array .int
theorem am_nm2 : ∀ a, a < 3 → ∀ b, b < 3 → a ≠ b → (am_F2 a).2.1 ≠ (am_F2 b).2.1 := by decide +kernel
theorem am_tyok2 : ∀ k, k < 3 → parseFieldDescriptor (am_F2 k).2.2.1 = some (am_ty2 k) := by decide +kernel
def am_F3 : u_T := fun k => match k with
  | 0 => ("BranchedPast$Writes", "branch", "[I", true)
  | 1 => ("BranchedPast$Writes", "moment", "[I", true)
  | 2 => ("BranchedPast$Writes", "cell", "[I", true)
  | 3 => ("BranchedPast$Writes", "kind", "[I", true)
  | 4 => ("BranchedPast$Writes", "value", "[I", true)
  | 5 => ("BranchedPast$Writes", "marked", "[Z", true)
  | _ => ("BranchedPast$Writes", "count", "I", false)
def am_ty3 : Nat → FieldType := fun k => match k with
  | 0 => .array .int
  | 1 => .array .int
  | 2 => .array .int
  | 3 => .array .int
  | 4 => .array .int
  | 5 => .array .boolean
  | _ => .int
theorem am_nm3 : ∀ a, a < 7 → ∀ b, b < 7 → a ≠ b → (am_F3 a).2.1 ≠ (am_F3 b).2.1 := by decide +kernel
theorem am_tyok3 : ∀ k, k < 7 → parseFieldDescriptor (am_F3 k).2.2.1 = some (am_ty3 k) := by decide +kernel
def am_F4 : u_T := fun k => match k with
  | 0 => ("BranchedPast", "branches", "LBranchedPast$Branches;", true)
  | 1 => ("BranchedPast", "writes", "LBranchedPast$Writes;", true)
  | 2 => ("BranchedPast", "here", "LBranchedPast$View;", true)
  | 3 => ("BranchedPast", "there", "LBranchedPast$View;", true)
  | 4 => ("BranchedPast", "before", "LBranchedPast$View;", true)
  | 5 => ("BranchedPast", "path", "LBranchedPast$Path;", true)
  | 6 => ("BranchedPast", "clock", "I", false)
  | _ => ("BranchedPast", "horizon", "I", false)
def am_ty4 : Nat → FieldType := fun k => match k with
  | 0 => .object "BranchedPast$Branches"
  | 1 => .object "BranchedPast$Writes"
  | 2 => .object "BranchedPast$View"
  | 3 => .object "BranchedPast$View"
  | 4 => .object "BranchedPast$View"
  | 5 => .object "BranchedPast$Path"
  | 6 => .int
  | _ => .int
theorem am_nm4 : ∀ a, a < 8 → ∀ b, b < 8 → a ≠ b → (am_F4 a).2.1 ≠ (am_F4 b).2.1 := by decide +kernel
theorem am_tyok4 : ∀ k, k < 8 → parseFieldDescriptor (am_F4 k).2.2.1 = some (am_ty4 k) := by decide +kernel
def am_F5 : u_T := fun k => match k with
  | 0 => ("BranchedPastModel", "code", "I", false)
  | 1 => ("BranchedPastModel", "clock", "I", false)
  | 2 => ("BranchedPastModel", "horizon", "I", false)
  | 3 => ("BranchedPastModel", "branches", "I", false)
  | 4 => ("BranchedPastModel", "parent", "[I", true)
  | 5 => ("BranchedPastModel", "fork", "[I", true)
  | 6 => ("BranchedPastModel", "closed", "[Z", true)
  | 7 => ("BranchedPastModel", "writes", "I", false)
  | 8 => ("BranchedPastModel", "owner", "[I", true)
  | 9 => ("BranchedPastModel", "moment", "[I", true)
  | 10 => ("BranchedPastModel", "place", "[I", true)
  | 11 => ("BranchedPastModel", "kind", "[I", true)
  | 12 => ("BranchedPastModel", "value", "[I", true)
  | 13 => ("BranchedPastModel", "kept", "[Z", true)
  | 14 => ("BranchedPastModel", "length", "I", false)
  | 15 => ("BranchedPastModel", "text", "[I", true)
  | 16 => ("BranchedPastModel", "at", "I", false)
  | _ => ("BranchedPastModel", "right", "Z", false)
def am_ty5 : Nat → FieldType := fun k => match k with
  | 0 => .int
  | 1 => .int
  | 2 => .int
  | 3 => .int
  | 4 => .array .int
  | 5 => .array .int
  | 6 => .array .boolean
  | 7 => .int
  | 8 => .array .int
  | 9 => .array .int
  | 10 => .array .int
  | 11 => .array .int
  | 12 => .array .int
  | 13 => .array .boolean
  | 14 => .int
  | 15 => .array .int
  | 16 => .int
  | _ => .boolean
theorem am_nm5 : ∀ a, a < 18 → ∀ b, b < 18 → a ≠ b → (am_F5 a).2.1 ≠ (am_F5 b).2.1 := by decide +kernel
theorem am_tyok5 : ∀ k, k < 18 → parseFieldDescriptor (am_F5 k).2.2.1 = some (am_ty5 k) := by decide +kernel
def am_cl : List vw_C := [("BranchedPast$Branches", am_F0, 5), ("BranchedPast$Path", am_F1, 4), ("BranchedPast$View", am_F2, 3), ("BranchedPast$Writes", am_F3, 7), ("BranchedPast", am_F4, 8), ("BranchedPastModel", am_F5, 18)]
def am_on : List String := ["BranchedPast$Branches", "BranchedPast$Path", "BranchedPast$View", "BranchedPast$Writes", "BranchedPast", "BranchedPastModel", "BranchedPastLaw", "java/util/Arrays"]
def am_ocl : List (Nat) := [4, 4, 4, 4, 4, 4, 4, 4, 4, 4, 4, 4, 4, 4, 4, 4, 4, 4, 4, 4, 4, 4, 4, 4, 4, 4, 4, 4, 4, 4, 4, 4, 4, 5, 5, 5, 5, 5, 5, 5, 5, 5, 5, 5, 5, 5, 5, 5, 5, 5, 5, 5, 5, 5, 5, 5, 5, 5, 5, 5, 5, 5, 5, 5, 5, 5, 5, 5, 5, 5, 5, 5, 5, 5, 5, 5, 0, 0, 0, 0, 1, 1, 1, 1, 1, 1, 1, 1, 1, 1, 1, 1, 1, 1, 1, 2, 2, 2, 2, 2, 2, 2, 2, 2, 2, 3, 3, 3, 3, 3, 3, 3, 3, 3, 6, 6, 6, 6, 6, 6, 6, 6, 6, 6, 6, 6, 6, 6, 6, 7]
def am_oc (k : Nat) : Nat := am_ocl.getD k 0
def am_ydl : List (String × String) := [("branch", "(II)I"), ("close", "(I)V"), ("write", "(IIIII)I"), ("read", "(IIIII)I"), ("history", "(IIII)I"), ("differs", "(III)I"), ("meeting", "(II)I"), ("join", "(II)I"), ("trim", "(I)I"), ("reach", "(III)I"), ("type", "(I)I"), ("erase", "()V"), ("find", "(II)I"), ("state", "(I)I"), ("about", "(II)I"), ("requireBranch", "(I)V"), ("requireObject", "(I)V"), ("requireField", "(I)V"), ("requireWhat", "(II)V"), ("requireReadable", "(II)V"), ("requireOpen", "(I)V"), ("requireRoomFor", "(I)V"), ("firstReadable", "(I)I"), ("look", "(LBranchedPast$View;II)V"), ("append", "(IIII)V"), ("markGiven", "(I)V"), ("isCarried", "(I)Z"), ("countCarried", "()I"), ("countConflicts", "()I"), ("carryTo", "(I)V"), ("isObject", "(I)Z"), ("isValue", "(II)Z"), ("cellOf", "(II)I"), ("thrown", "()I"), ("noBranch", "(I)Z"), ("noPlace", "(II)Z"), ("first", "(I)I"), ("unreadable", "(II)Z"), ("sees", "(III)Z"), ("latest", "(III)I"), ("kindOf", "(I)I"), ("valueOf", "(I)I"), ("alike", "(II)Z"), ("gives", "(II)Z"), ("branch", "(II)I"), ("others", "(I)I"), ("close", "(I)V"), ("enter", "(IIII)V"), ("write", "(IIIII)I"), ("read", "(IIIII)I"), ("history", "(IIII)I"), ("differs", "(III)I"), ("isOnLine", "(II)Z"), ("left", "(II)I"), ("meet", "(II)I"), ("meeting", "(II)I"), ("changed", "(III)Z"), ("join", "(II)I"), ("trim", "(I)I"), ("along", "(IIII)I"), ("against", "(IIII)I"), ("reach", "(III)I"), ("type", "(I)I"), ("erase", "()V"), ("peek", "()I"), ("eats", "(I)Z"), ("digit", "(I)I"), ("isDigit", "()Z"), ("number", "()I"), ("follow", "(IZII)I"), ("filter", "(III)I"), ("empty", "(III)I"), ("stepOf", "(III)I"), ("find", "(II)I"), ("state", "(I)I"), ("about", "(II)I"), ("add", "(II)I"), ("openCount", "()I"), ("meet", "(III)I"), ("limitSight", "(II)V"), ("canHold", "(I)Z"), ("hasRoomFor", "(I)Z"), ("add", "(I)I"), ("clear", "()V"), ("follow", "(LBranchedPast$View;)I"), ("takeStart", "()Z"), ("takeStep", "(LBranchedPast$View;)Z"), ("move", "(LBranchedPast$View;ZI)V"), ("moved", "(LBranchedPast$View;ZI)I"), ("takeComparison", "(LBranchedPast$View;I)Z"), ("takeNumber", "()I"), ("next", "()C"), ("takes", "(C)Z"), ("isDigit", "(C)Z"), ("byteOf", "(II)I"), ("clear", "()V"), ("holdsSame", "(LBranchedPast$View;I)Z"), ("referredBy", "(II)I"), ("referringTo", "(II)I"), ("allLedTo", "(I)I"), ("withNumber", "(IICI)I"), ("withNothing", "(II)I"), ("target", "(I)I"), ("compares", "(ICI)Z"), ("isIn", "(II)Z"), ("add", "(IIIII)V"), ("countOf", "(I)I"), ("show", "([ILBranchedPast$View;)V"), ("unmarkAll", "()V"), ("markShown", "(LBranchedPast$View;)V"), ("markOwnAfter", "(II)V"), ("momentOfMarked", "(II)I"), ("dropUnmarked", "()I"), ("moveRow", "(II)V"), ("branch", "(LBranchedPast;II[J)I"), ("close", "(LBranchedPast;I)I"), ("write", "(LBranchedPast;IIIII[J)I"), ("read", "(LBranchedPast;IIIII[J)I"), ("history", "(LBranchedPast;IIII[J)I"), ("differs", "(LBranchedPast;III[J)I"), ("meeting", "(LBranchedPast;II[J)I"), ("join", "(LBranchedPast;II[J)I"), ("trim", "(LBranchedPast;I[J)I"), ("reach", "(LBranchedPast;III[J)I"), ("type", "(LBranchedPast;I[J)I"), ("find", "(LBranchedPast;II[J)I"), ("state", "(LBranchedPast;I[J)I"), ("about", "(LBranchedPast;II[J)I"), ("law", "([I)Z"), ("fill", "([II)V")]
def am_y (k : Nat) : MethodName := ⟨am_on.getD (am_oc k) "BranchedPast$Branches", (am_ydl.getD k ("", "")).1, (am_ydl.getD k ("", "")).2⟩
def am_bl : List (ByteArray) := [prog_1_method_2_code, prog_1_method_3_code, prog_1_method_4_code, prog_1_method_5_code, prog_1_method_6_code, prog_1_method_7_code, prog_1_method_8_code, prog_1_method_9_code, prog_1_method_10_code, prog_1_method_11_code, prog_1_method_12_code, prog_1_method_13_code, prog_1_method_14_code, prog_1_method_15_code, prog_1_method_16_code, prog_1_method_17_code, prog_1_method_18_code, prog_1_method_19_code, prog_1_method_20_code, prog_1_method_21_code, prog_1_method_22_code, prog_1_method_23_code, prog_1_method_24_code, prog_1_method_25_code, prog_1_method_26_code, prog_1_method_27_code, prog_1_method_28_code, prog_1_method_29_code, prog_1_method_30_code, prog_1_method_31_code, prog_1_method_32_code, prog_1_method_33_code, prog_1_method_34_code, prog_7_method_2_code, prog_7_method_3_code, prog_7_method_4_code, prog_7_method_5_code, prog_7_method_6_code, prog_7_method_7_code, prog_7_method_8_code, prog_7_method_9_code, prog_7_method_10_code, prog_7_method_11_code, prog_7_method_12_code, prog_7_method_13_code, prog_7_method_14_code, prog_7_method_15_code, prog_7_method_16_code, prog_7_method_17_code, prog_7_method_18_code, prog_7_method_19_code, prog_7_method_20_code, prog_7_method_21_code, prog_7_method_22_code, prog_7_method_23_code, prog_7_method_24_code, prog_7_method_25_code, prog_7_method_26_code, prog_7_method_27_code, prog_7_method_28_code, prog_7_method_29_code, prog_7_method_30_code, prog_7_method_31_code, prog_7_method_32_code, prog_7_method_33_code, prog_7_method_34_code, prog_7_method_35_code, prog_7_method_36_code, prog_7_method_37_code, prog_7_method_38_code, prog_7_method_39_code, prog_7_method_40_code, prog_7_method_41_code, prog_7_method_42_code, prog_7_method_43_code, prog_7_method_44_code, prog_2_method_2_code, prog_2_method_3_code, prog_2_method_4_code, prog_2_method_5_code, prog_3_method_2_code, prog_3_method_3_code, prog_3_method_4_code, prog_3_method_5_code, prog_3_method_6_code, prog_3_method_7_code, prog_3_method_8_code, prog_3_method_9_code, prog_3_method_10_code, prog_3_method_11_code, prog_3_method_12_code, prog_3_method_13_code, prog_3_method_14_code, prog_3_method_15_code, prog_3_method_16_code, prog_4_method_2_code, prog_4_method_3_code, prog_4_method_4_code, prog_4_method_5_code, prog_4_method_6_code, prog_4_method_7_code, prog_4_method_8_code, prog_4_method_9_code, prog_4_method_10_code, prog_4_method_11_code, prog_5_method_2_code, prog_5_method_3_code, prog_5_method_4_code, prog_5_method_5_code, prog_5_method_6_code, prog_5_method_7_code, prog_5_method_8_code, prog_5_method_9_code, prog_5_method_10_code, method_3_code, method_4_code, method_5_code, method_6_code, method_7_code, method_8_code, method_9_code, method_10_code, method_11_code, method_12_code, method_13_code, method_14_code, method_15_code, method_16_code, code, prog_17_method_103_code]
def am_bytes (k : Nat) : ByteArray := am_bl.getD k ⟨#[]⟩
def am_nLl : List (Nat) := [3, 2, 6, 7, 5, 6, 3, 5, 3, 4, 2, 1, 3, 2, 3, 2, 1, 1, 2, 3, 2, 2, 2, 4, 5, 3, 2, 3, 3, 3, 1, 2, 2, 1, 2, 2, 2, 3, 6, 6, 2, 2, 3, 4, 3, 4, 2, 5, 7, 7, 7, 6, 4, 5, 6, 3, 4, 9, 4, 8, 8, 7, 6, 1, 1, 3, 3, 1, 4, 9, 12, 7, 4, 5, 2, 5, 4, 3, 9, 4, 4, 4, 4, 1, 3, 2, 4, 6, 4, 5, 4, 2, 2, 1, 2, 1, 3, 5, 5, 6, 8, 5, 2, 3, 2, 6, 4, 4, 2, 3, 4, 5, 3, 3, 5, 3, 8, 8, 7, 6, 5, 5, 4, 6, 4, 5, 4, 5, 7, 4]
def am_nL (k : Nat) : Nat := am_nLl.getD k 0
def am_rtl : List (Option FieldType) := [some .int, none, some .int, some .int, some .int, some .int, some .int, some .int, some .int, some .int, some .int, none, some .int, some .int, some .int, none, none, none, none, none, none, none, some .int, none, none, none, some .boolean, some .int, some .int, none, some .boolean, some .boolean, some .int, some .int, some .boolean, some .boolean, some .int, some .boolean, some .boolean, some .int, some .int, some .int, some .boolean, some .boolean, some .int, some .int, none, none, some .int, some .int, some .int, some .int, some .boolean, some .int, some .int, some .int, some .boolean, some .int, some .int, some .int, some .int, some .int, some .int, none, some .int, some .boolean, some .int, some .boolean, some .int, some .int, some .int, some .int, some .int, some .int, some .int, some .int, some .int, some .int, some .int, none, some .boolean, some .boolean, some .int, none, some .int, some .boolean, some .boolean, none, some .int, some .boolean, some .int, some .char, some .boolean, some .boolean, some .int, none, some .boolean, some .int, some .int, some .int, some .int, some .int, some .int, some .boolean, some .boolean, none, some .int, none, none, none, none, some .int, some .int, none, some .int, some .int, some .int, some .int, some .int, some .int, some .int, some .int, some .int, some .int, some .int, some .int, some .int, some .int, some .boolean, none]
def am_rt (k : Nat) : Option FieldType := am_rtl.getD k none
def am_nal : List (Nat) := [3, 2, 6, 6, 5, 4, 3, 3, 2, 4, 2, 1, 3, 2, 3, 2, 1, 1, 2, 3, 2, 2, 2, 4, 5, 2, 2, 1, 1, 2, 1, 2, 2, 1, 2, 2, 2, 3, 4, 4, 2, 2, 3, 3, 3, 2, 2, 5, 6, 6, 5, 4, 3, 3, 3, 3, 4, 3, 2, 5, 5, 4, 2, 1, 1, 2, 2, 1, 1, 5, 4, 4, 4, 3, 2, 3, 3, 1, 4, 3, 2, 2, 2, 1, 2, 1, 2, 4, 4, 3, 1, 1, 2, 1, 2, 1, 3, 3, 3, 2, 5, 3, 2, 3, 2, 6, 2, 3, 1, 2, 3, 3, 1, 3, 4, 2, 7, 7, 6, 5, 4, 4, 3, 5, 3, 4, 3, 4, 1, 2]
def am_na (k : Nat) : Nat := am_nal.getD k 0
def am_rkl : List (Nat) := [7, 7, 7, 7, 7, 7, 7, 7, 6, 7, 6, 1, 7, 7, 7, 6, 6, 6, 6, 6, 6, 6, 1, 3, 1, 4, 1, 2, 2, 2, 0, 1, 0, 0, 0, 0, 0, 1, 0, 1, 0, 0, 1, 2, 2, 0, 1, 0, 1, 2, 3, 2, 0, 0, 1, 2, 2, 3, 3, 2, 2, 3, 0, 0, 0, 1, 1, 1, 2, 3, 3, 2, 4, 5, 0, 1, 0, 0, 1, 1, 1, 1, 1, 0, 5, 1, 4, 3, 2, 2, 1, 0, 0, 0, 0, 1, 0, 1, 1, 2, 1, 1, 0, 0, 0, 0, 0, 2, 0, 0, 0, 0, 1, 0, 8, 8, 8, 8, 8, 8, 8, 8, 7, 8, 7, 8, 8, 8, 9, 0]
def am_rk (k : Nat) : Nat := am_rkl.getD k 0
def am_rcl : List (Option Nat) := [some 4, some 4, some 4, some 4, some 4, some 4, some 4, some 4, some 4, some 4, some 4, some 4, some 4, some 4, some 4, some 4, none, none, none, some 4, some 4, some 4, some 4, some 4, some 4, some 4, some 4, some 4, some 4, some 4, none, none, none, some 5, some 5, none, some 5, some 5, some 5, some 5, some 5, some 5, some 5, some 5, some 5, some 5, some 5, some 5, some 5, some 5, some 5, some 5, some 5, some 5, some 5, some 5, some 5, some 5, some 5, some 5, some 5, some 5, some 5, some 5, some 5, some 5, some 5, some 5, some 5, some 5, some 5, some 5, some 5, some 5, some 5, some 5, some 0, some 0, some 0, some 0, some 1, some 1, some 1, some 1, some 1, some 1, some 1, some 1, some 1, some 1, some 1, some 1, some 1, none, none, some 2, some 2, some 2, some 2, some 2, some 2, some 2, some 2, none, none, some 3, some 3, some 3, some 3, some 3, some 3, some 3, some 3, some 3, none, none, none, none, none, none, none, none, none, none, none, none, none, none, none, none]
def am_rc (k : Nat) : Option Nat := am_rcl.getD k none
def am_etl : List (List (Nat × Nat × Nat × Nat)) := [[], [], [], [], [], [], [], [], [], [], [], [], [], [], [], [], [], [], [], [], [], [], [], [], [], [], [], [], [], [], [], [], [], [], [], [], [], [], [], [], [], [], [], [], [], [], [], [], [], [], [], [], [], [], [], [], [], [], [], [], [], [], [], [], [], [], [], [], [], [], [], [], [], [], [], [], [], [], [], [], [], [], [], [], [], [], [], [], [], [], [], [], [], [], [], [], [], [], [], [], [], [], [], [], [], [], [], [], [], [], [], [], [], [], [(0, 10, 13, 13), (0, 10, 17, 15), (0, 10, 21, 17)], [(0, 5, 8, 13), (0, 5, 11, 17)], [(0, 16, 19, 13), (0, 16, 23, 15), (0, 16, 27, 17), (0, 16, 31, 27)], [(0, 16, 19, 13), (0, 16, 23, 15)], [(0, 14, 17, 13)], [(0, 12, 15, 13), (0, 12, 19, 17)], [(0, 10, 13, 13)], [(0, 10, 13, 13), (0, 10, 17, 15), (0, 10, 21, 17), (0, 10, 25, 27)], [(0, 9, 12, 15)], [(0, 12, 15, 13), (0, 12, 19, 15)], [(0, 9, 12, 15), (0, 9, 15, 17)], [(0, 10, 13, 13), (0, 10, 17, 15)], [(0, 9, 12, 15)], [(0, 10, 13, 13), (0, 10, 17, 15)], [], []]
def am_et (k : Nat) : List (Nat × Nat × Nat × Nat) := am_etl.getD k []
def am_cd (k : Nat) : Cond := if am_et k = [] then .code (am_y k) (am_bytes k) (am_nL k) (am_rt k) else .codeWith (am_y k) (am_bytes k) (am_nL k) (am_rt k) (am_et k)
abbrev kX_branch : Nat := 0
abbrev kX_close : Nat := 1
abbrev kX_write : Nat := 2
abbrev kX_read : Nat := 3
abbrev kX_history : Nat := 4
abbrev kX_differs : Nat := 5
abbrev kX_meeting : Nat := 6
abbrev kX_join : Nat := 7
abbrev kX_trim : Nat := 8
abbrev kX_reach : Nat := 9
abbrev kX_type : Nat := 10
abbrev kX_erase : Nat := 11
abbrev kX_find : Nat := 12
abbrev kX_state : Nat := 13
abbrev kX_about : Nat := 14
abbrev kX_requireBranch : Nat := 15
abbrev kX_requireObject : Nat := 16
abbrev kX_requireField : Nat := 17
abbrev kX_requireWhat : Nat := 18
abbrev kX_requireReadable : Nat := 19
abbrev kX_requireOpen : Nat := 20
abbrev kX_requireRoomFor : Nat := 21
abbrev kX_firstReadable : Nat := 22
abbrev kX_look : Nat := 23
abbrev kX_append : Nat := 24
abbrev kX_markGiven : Nat := 25
abbrev kX_isCarried : Nat := 26
abbrev kX_countCarried : Nat := 27
abbrev kX_countConflicts : Nat := 28
abbrev kX_carryTo : Nat := 29
abbrev kX_isObject : Nat := 30
abbrev kX_isValue : Nat := 31
abbrev kX_cellOf : Nat := 32
abbrev kM_thrown : Nat := 33
abbrev kM_noBranch : Nat := 34
abbrev kM_noPlace : Nat := 35
abbrev kM_first : Nat := 36
abbrev kM_unreadable : Nat := 37
abbrev kM_sees : Nat := 38
abbrev kM_latest : Nat := 39
abbrev kM_kindOf : Nat := 40
abbrev kM_valueOf : Nat := 41
abbrev kM_alike : Nat := 42
abbrev kM_gives : Nat := 43
abbrev kM_branch : Nat := 44
abbrev kM_others : Nat := 45
abbrev kM_close : Nat := 46
abbrev kM_enter : Nat := 47
abbrev kM_write : Nat := 48
abbrev kM_read : Nat := 49
abbrev kM_history : Nat := 50
abbrev kM_differs : Nat := 51
abbrev kM_isOnLine : Nat := 52
abbrev kM_left : Nat := 53
abbrev kM_meet : Nat := 54
abbrev kM_meeting : Nat := 55
abbrev kM_changed : Nat := 56
abbrev kM_join : Nat := 57
abbrev kM_trim : Nat := 58
abbrev kM_along : Nat := 59
abbrev kM_against : Nat := 60
abbrev kM_reach : Nat := 61
abbrev kM_type : Nat := 62
abbrev kM_erase : Nat := 63
abbrev kM_peek : Nat := 64
abbrev kM_eats : Nat := 65
abbrev kM_digit : Nat := 66
abbrev kM_isDigit : Nat := 67
abbrev kM_number : Nat := 68
abbrev kM_follow : Nat := 69
abbrev kM_filter : Nat := 70
abbrev kM_empty : Nat := 71
abbrev kM_stepOf : Nat := 72
abbrev kM_find : Nat := 73
abbrev kM_state : Nat := 74
abbrev kM_about : Nat := 75
abbrev kB_add : Nat := 76
abbrev kB_openCount : Nat := 77
abbrev kB_meet : Nat := 78
abbrev kB_limitSight : Nat := 79
abbrev kP_canHold : Nat := 80
abbrev kP_hasRoomFor : Nat := 81
abbrev kP_add : Nat := 82
abbrev kP_clear : Nat := 83
abbrev kP_follow : Nat := 84
abbrev kP_takeStart : Nat := 85
abbrev kP_takeStep : Nat := 86
abbrev kP_move : Nat := 87
abbrev kP_moved : Nat := 88
abbrev kP_takeComparison : Nat := 89
abbrev kP_takeNumber : Nat := 90
abbrev kP_next : Nat := 91
abbrev kP_takes : Nat := 92
abbrev kP_isDigit : Nat := 93
abbrev kP_byteOf : Nat := 94
abbrev kV_clear : Nat := 95
abbrev kV_holdsSame : Nat := 96
abbrev kV_referredBy : Nat := 97
abbrev kV_referringTo : Nat := 98
abbrev kV_allLedTo : Nat := 99
abbrev kV_withNumber : Nat := 100
abbrev kV_withNothing : Nat := 101
abbrev kV_target : Nat := 102
abbrev kV_compares : Nat := 103
abbrev kV_isIn : Nat := 104
abbrev kW_add : Nat := 105
abbrev kW_countOf : Nat := 106
abbrev kW_show : Nat := 107
abbrev kW_unmarkAll : Nat := 108
abbrev kW_markShown : Nat := 109
abbrev kW_markOwnAfter : Nat := 110
abbrev kW_momentOfMarked : Nat := 111
abbrev kW_dropUnmarked : Nat := 112
abbrev kW_moveRow : Nat := 113
abbrev kL_branch : Nat := 114
abbrev kL_close : Nat := 115
abbrev kL_write : Nat := 116
abbrev kL_read : Nat := 117
abbrev kL_history : Nat := 118
abbrev kL_differs : Nat := 119
abbrev kL_meeting : Nat := 120
abbrev kL_join : Nat := 121
abbrev kL_trim : Nat := 122
abbrev kL_reach : Nat := 123
abbrev kL_type : Nat := 124
abbrev kL_find : Nat := 125
abbrev kL_state : Nat := 126
abbrev kL_about : Nat := 127
abbrev kL_law : Nat := 128
abbrev kA_fill : Nat := 129
abbrev am_Sh : Type := (FieldType × Nat) ⊕ (Nat × List (Option Nat))
def am_shl : List am_Sh := [.inr (4, [some 1, some 6, some 13, some 17, some 21, some 25, none, none]), .inr (0, [some 2, some 3, some 4, some 5, none]), .inl (.int, 6), .inl (.int, 6), .inl (.boolean, 6), .inl (.int, 6), .inr (3, [some 7, some 8, some 9, some 10, some 11, some 12, none]), .inl (.int, 120), .inl (.int, 120), .inl (.int, 120), .inl (.int, 120), .inl (.int, 120), .inl (.boolean, 120), .inr (2, [some 14, some 15, some 16]), .inl (.int, 48), .inl (.int, 48), .inl (.int, 48), .inr (2, [some 18, some 19, some 20]), .inl (.int, 48), .inl (.int, 48), .inl (.int, 48), .inr (2, [some 22, some 23, some 24]), .inl (.int, 48), .inl (.int, 48), .inl (.int, 48), .inr (1, [some 26, none, none, none]), .inl (.char, 32), .inr (5, [none, none, none, none, some 28, some 29, some 30, none, some 31, some 32, some 33, some 34, some 35, some 36, none, some 37, none, none]), .inl (.int, 6), .inl (.int, 6), .inl (.boolean, 6), .inl (.int, 120), .inl (.int, 120), .inl (.int, 120), .inl (.int, 120), .inl (.int, 120), .inl (.boolean, 120), .inl (.int, 32), .inl (.long, 1)]
def am_sh (p : Nat) : Option am_Sh := am_shl[p]?
def am_SC : Nat := 1000
def am_tyL : List FieldType := [.int, .boolean, .char, .long]
def am_ok : Value → Bool
  | .int _ => true
  | .ref _ => true
  | _ => false
def am_ftl : List (List (Option FieldType)) := [[none, none, none, none, some .int], [none, some .int, some .int, some .int], [none, none, none], [none, none, none, none, none, none, some .int], [none, none, none, none, none, none, some .int, some .int], [some .int, some .int, some .int, some .int, none, none, none, some .int, none, none, none, none, none, none, some .int, none, some .int, some .boolean]]
def am_fty (c f : Nat) : Option FieldType := (am_ftl[c]?).bind fun l => (l[f]?).bind id
/-- own class, index, class, field, nest mate, place of the word -/
def am_FT : List (Nat × Nat × Nat × Nat × Nat × Nat) := [(4, 12, 4, 0, 0, 173), (4, 19, 4, 1, 0, 174), (4, 26, 4, 2, 0, 175), (4, 30, 4, 3, 0, 176), (4, 33, 4, 4, 0, 177), (4, 39, 4, 5, 0, 178), (4, 43, 4, 6, 0, 179), (4, 47, 4, 7, 0, 180), (4, 58, 0, 4, 1, 88), (4, 81, 0, 2, 1, 84), (4, 117, 2, 0, 1, 139), (4, 121, 2, 1, 1, 142), (4, 124, 2, 2, 1, 145), (4, 186, 3, 6, 1, 115), (4, 187, 0, 0, 1, 80), (4, 190, 0, 1, 1, 82), (4, 230, 0, 3, 1, 86), (0, 9, 0, 0, 0, 79), (0, 15, 0, 1, 0, 81), (0, 18, 0, 2, 0, 83), (0, 22, 0, 3, 0, 85), (0, 25, 0, 4, 0, 87), (1, 9, 1, 0, 0, 159), (1, 15, 1, 1, 0, 160), (1, 19, 1, 2, 0, 161), (1, 22, 1, 3, 0, 162), (2, 9, 2, 0, 0, 137), (2, 15, 2, 1, 0, 140), (2, 18, 2, 2, 0, 143), (3, 9, 3, 0, 0, 108), (3, 15, 3, 1, 0, 109), (3, 18, 3, 2, 0, 110), (3, 21, 3, 3, 0, 111), (3, 24, 3, 4, 0, 112), (3, 27, 3, 5, 0, 113), (3, 31, 3, 6, 0, 114), (3, 40, 2, 0, 1, 138), (3, 41, 2, 1, 1, 141), (3, 42, 2, 2, 1, 144), (5, 7, 5, 3, 0, 669), (5, 13, 5, 4, 0, 670), (5, 17, 5, 5, 0, 671), (5, 20, 5, 6, 0, 672), (5, 24, 5, 8, 0, 674), (5, 27, 5, 9, 0, 675), (5, 30, 5, 10, 0, 676), (5, 33, 5, 11, 0, 677), (5, 36, 5, 12, 0, 678), (5, 39, 5, 13, 0, 679), (5, 42, 5, 15, 0, 681), (5, 45, 5, 0, 0, 666), (5, 48, 5, 2, 0, 668), (5, 55, 5, 1, 0, 667), (5, 58, 5, 7, 0, 673), (5, 116, 5, 14, 0, 680), (5, 119, 5, 16, 0, 682), (5, 126, 5, 17, 0, 683)]
def am_fld (k ix : Nat) : Option (Nat × Nat) := (am_FT.find? fun e => e.1 == am_oc k && e.2.1 == ix).map fun e => (e.2.2.1, e.2.2.2.1)
def am_lay : List (List Nat) := [[89, 91, 93, 95, 97], [163, 165, 167, 169], [146, 148, 150], [116, 118, 120, 122, 124, 126, 128], [181, 183, 185, 187, 189, 191, 193, 195], [684, 686, 688, 690, 692, 694, 696, 698, 700, 702, 704, 706, 708, 710, 712, 714, 716, 718]]
/-- own class, index, method, nest mate, place of the word -/
def am_MT : List (Nat × Nat × Nat × Nat × Nat) := [(4, 50, 15, 0, 216), (4, 54, 19, 0, 289), (4, 68, 76, 0, 332), (4, 72, 20, 0, 343), (4, 75, 77, 0, 348), (4, 85, 16, 0, 361), (4, 88, 17, 0, 368), (4, 91, 31, 0, 372), (4, 100, 21, 0, 376), (4, 103, 32, 0, 396), (4, 106, 24, 0, 399), (4, 110, 18, 0, 414), (4, 113, 23, 0, 418), (4, 127, 108, 0, 448), (4, 130, 25, 0, 452), (4, 133, 111, 0, 464), (4, 136, 96, 0, 475), (4, 140, 78, 0, 486), (4, 148, 28, 0, 500), (4, 151, 27, 0, 508), (4, 154, 29, 0, 512), (4, 159, 112, 0, 524), (4, 162, 99, 0, 539), (4, 166, 80, 0, 562), (4, 172, 81, 0, 570), (4, 177, 82, 0, 575), (4, 179, 83, 0, 202), (4, 182, 84, 0, 586), (4, 193, 106, 0, 656), (4, 201, 30, 0, 364), (4, 210, 22, 0, 293), (4, 227, 79, 0, 422), (4, 233, 107, 0, 432), (4, 237, 105, 0, 403), (4, 240, 109, 0, 456), (4, 244, 110, 0, 460), (4, 247, 26, 0, 504), (0, 38, 129, 0, 426), (1, 25, 94, 0, 566), (1, 29, 85, 0, 590), (1, 33, 86, 0, 599), (1, 37, 91, 0, 594), (1, 41, 30, 1, 598), (1, 45, 87, 0, 603), (1, 49, 89, 0, 620), (1, 53, 101, 0, 638), (1, 58, 92, 0, 607), (1, 62, 88, 0, 611), (1, 66, 97, 0, 615), (1, 69, 98, 0, 616), (1, 72, 90, 0, 624), (1, 76, 100, 0, 631), (1, 80, 93, 0, 628), (2, 21, 129, 0, 440), (2, 27, 104, 0, 547), (2, 31, 32, 1, 550), (2, 35, 102, 0, 551), (2, 39, 97, 0, 543), (2, 42, 103, 0, 635), (3, 35, 95, 0, 436), (3, 43, 113, 0, 528), (6, 7, 0, 0, 212), (6, 19, 1, 0, 339), (6, 23, 2, 0, 357), (6, 29, 3, 0, 410), (6, 32, 4, 0, 444), (6, 36, 5, 0, 471), (6, 40, 6, 0, 482), (6, 43, 7, 0, 494), (6, 46, 8, 0, 519), (6, 50, 9, 0, 535), (6, 53, 10, 0, 558), (6, 56, 12, 0, 582), (6, 59, 13, 0, 645), (6, 62, 14, 0, 652), (6, 69, 114, 0, 206), (6, 74, 44, 0, 725), (6, 75, 33, 0, 721), (6, 79, 115, 0, 336), (6, 82, 46, 0, 741), (6, 83, 116, 0, 353), (6, 86, 48, 0, 749), (6, 87, 117, 0, 407), (6, 89, 49, 0, 760), (6, 90, 118, 0, 441), (6, 93, 50, 0, 780), (6, 94, 119, 0, 468), (6, 97, 51, 0, 788), (6, 98, 120, 0, 479), (6, 100, 55, 0, 796), (6, 101, 121, 0, 491), (6, 103, 57, 0, 812), (6, 104, 122, 0, 516), (6, 107, 58, 0, 820), (6, 108, 123, 0, 532), (6, 110, 61, 0, 824), (6, 111, 124, 0, 555), (6, 113, 62, 0, 832), (6, 114, 11, 0, 198), (6, 117, 63, 0, 836), (6, 118, 125, 0, 579), (6, 120, 73, 0, 840), (6, 121, 126, 0, 642), (6, 123, 74, 0, 884), (6, 124, 127, 0, 649), (6, 126, 75, 0, 888), (5, 51, 36, 0, 737), (5, 61, 38, 0, 768), (5, 65, 40, 0, 772), (5, 68, 41, 0, 776), (5, 71, 37, 0, 733), (5, 75, 39, 0, 764), (5, 79, 34, 0, 729), (5, 83, 45, 0, 745), (5, 86, 35, 0, 753), (5, 89, 47, 0, 756), (5, 93, 43, 0, 784), (5, 96, 42, 0, 792), (5, 99, 52, 0, 804), (5, 102, 53, 0, 808), (5, 106, 54, 0, 800), (5, 109, 56, 0, 816), (5, 112, 59, 0, 828), (5, 122, 64, 0, 852), (5, 130, 65, 0, 848), (5, 133, 66, 0, 860), (5, 136, 67, 0, 876), (5, 140, 60, 0, 864), (5, 143, 68, 0, 872), (5, 146, 69, 0, 856), (5, 150, 70, 0, 868), (5, 153, 71, 0, 880), (5, 156, 72, 0, 844)]
def am_mth (k ix : Nat) : Option Nat := (am_MT.find? fun e => e.1 == am_oc k && e.2.1 == ix).map fun e => e.2.2.1
def am_MX : List (Nat × Nat × Nat × Nat) := [(4, 222, 1, 297), (0, 29, 1, 490), (0, 35, 0, 429)]
def am_mx (k ix : Nat) : Option Bool := (am_MX.find? fun e => e.1 == am_oc k && e.2.1 == ix).map fun e => e.2.2.1 == 1
def am_KT : List (Nat × Nat × Nat × Nat) := [(215, 213, 214, 50), (342, 340, 341, 50), (360, 358, 359, 50), (413, 411, 412, 50), (447, 445, 446, 50), (474, 472, 473, 50), (485, 483, 484, 50), (497, 495, 496, 50), (522, 520, 521, 50), (538, 536, 537, 50), (561, 559, 560, 50), (201, 199, 200, 50), (585, 583, 584, 50), (648, 646, 647, 50), (655, 653, 654, 50), (219, 218, 0, 50), (363, 362, 0, 50), (370, 369, 0, 50), (416, 415, 0, 50), (292, 291, 2, 50), (346, 345, 4, 50), (379, 378, 5, 50), (296, 295, 3, 50), (421, 420, 7, 50), (402, 401, 6, 50), (455, 454, 8, 50), (507, 506, 10, 50), (511, 510, 11, 50), (503, 502, 9, 50), (515, 514, 12, 50), (366, 365, 0, 50), (374, 373, 0, 50), (398, 397, 0, 50), (724, 722, 723, 55), (732, 731, 23, 55), (755, 754, 0, 55), (740, 739, 25, 55), (736, 735, 24, 55), (771, 770, 29, 55), (767, 766, 28, 55), (775, 774, 30, 55), (779, 778, 31, 55), (795, 794, 33, 55), (787, 786, 32, 55), (728, 726, 727, 55), (748, 747, 26, 55), (744, 742, 743, 55), (759, 758, 27, 55), (752, 750, 751, 55), (763, 761, 762, 55), (783, 781, 782, 55), (791, 789, 790, 55), (807, 806, 35, 55), (811, 810, 36, 55), (803, 802, 34, 55), (799, 797, 798, 55), (819, 818, 37, 55), (815, 813, 814, 55), (823, 821, 822, 55), (831, 830, 38, 55), (867, 866, 44, 55), (827, 825, 826, 55), (835, 833, 834, 55), (839, 837, 838, 55), (855, 854, 41, 55), (851, 850, 40, 55), (863, 862, 43, 55), (879, 878, 47, 55), (875, 874, 46, 55), (859, 858, 42, 55), (871, 870, 45, 55), (883, 882, 48, 55), (847, 846, 39, 55), (843, 841, 842, 55), (887, 885, 886, 55), (891, 889, 890, 55), (335, 333, 334, 51), (351, 349, 350, 51), (489, 487, 488, 51), (425, 423, 424, 51), (565, 563, 564, 54), (573, 571, 572, 54), (578, 576, 577, 54), (205, 203, 204, 54), (589, 587, 588, 54), (593, 592, 15, 54), (602, 601, 17, 54), (606, 605, 18, 54), (614, 613, 20, 54), (623, 622, 21, 54), (627, 626, 22, 54), (597, 596, 16, 54), (610, 609, 19, 54), (630, 629, 0, 54), (568, 567, 0, 54), (439, 437, 438, 53), (478, 476, 477, 53), (546, 544, 545, 53), (619, 617, 618, 53), (542, 540, 541, 53), (634, 632, 633, 53), (641, 639, 640, 53), (554, 553, 14, 53), (637, 636, 0, 53), (549, 548, 0, 53), (406, 404, 405, 52), (659, 657, 658, 52), (435, 433, 434, 52), (451, 449, 450, 52), (459, 457, 458, 52), (463, 461, 462, 52), (467, 465, 466, 52), (527, 525, 526, 52), (531, 530, 13, 52), (208, 207, 0, 49), (338, 337, 0, 49), (355, 354, 0, 49), (409, 408, 0, 49), (443, 442, 0, 49), (470, 469, 0, 49), (481, 480, 0, 49), (493, 492, 0, 49), (518, 517, 0, 49), (534, 533, 0, 49), (557, 556, 0, 49), (581, 580, 0, 49), (644, 643, 0, 49), (651, 650, 0, 49), (0, 0, 0, 0), (428, 427, 0, 64)]
def am_MP : List Nat := [298, 430, 299, 431, 60]
def am_xn (x : Nat) : String := (["java/lang/IndexOutOfBoundsException", "java/lang/IllegalArgumentException", "java/lang/IllegalStateException", "java/lang/UnsupportedOperationException"] : List String).getD x ""
/-- method, pc, index of the class, exception, index of the text, of the constructor, places of the words classLink, stringRef, the text -/
def am_XT : List (Nat × Nat × Nat × Nat × Nat × Nat × Nat × Nat × String) := [(0, 23, 61, 2, 63, 65, 316, 325, "there are 6 branches"), (1, 21, 61, 2, 79, 65, 316, 352, "no other branch is open"), (2, 23, 95, 1, 97, 99, 300, 375, "no such value"), (7, 15, 95, 1, 144, 99, 300, 498, "a branch is not joined to itself"), (7, 57, 61, 2, 146, 65, 316, 499, "the meeting is before the horizon"), (8, 16, 95, 1, 157, 99, 300, 523, "not between the horizon and the clock"), (10, 11, 95, 1, 170, 99, 300, 569, "a byte is not 33 .. 126"), (10, 32, 61, 2, 175, 65, 316, 574, "the text would be longer than 32"), (15, 15, 196, 0, 198, 200, 220, 262, "no such branch"), (16, 7, 196, 0, 204, 200, 220, 367, "no such object"), (17, 9, 196, 0, 206, 200, 220, 371, "no such field"), (18, 9, 95, 1, 208, 99, 300, 417, "what is none of these"), (19, 29, 95, 1, 213, 99, 300, 309, "the branch can not be read then"), (20, 12, 61, 2, 215, 65, 316, 347, "the branch is not open"), (21, 14, 217, 3, 219, 221, 380, 389, "there would be more than 120 writes")]
def am_exc (k pc ix : Nat) : Option Nat := (am_XT.find? fun e => e.1 == k && e.2.1 == pc && e.2.2.1 == ix).map fun e => e.2.2.2.1
def am_xi : List Nat := [59, 61, 62, 63]
def am_xc : List Nat := [222, 302, 318, 382]
/-- method, pc, exception, answer, row of the table, length of astore, place of classLink -/
def am_HT : List (Nat × Nat × Nat × Nat × Nat × Nat × Nat) := [(114, 5, 0, 1, 0, 2, 209), (114, 5, 1, 2, 1, 2, 210), (114, 5, 2, 3, 2, 2, 211), (115, 2, 0, 1, 0, 1, 209), (115, 2, 2, 2, 1, 1, 211), (116, 11, 0, 1, 0, 2, 209), (116, 11, 1, 2, 1, 2, 210), (116, 11, 2, 3, 2, 2, 211), (116, 11, 3, 4, 3, 2, 356), (117, 11, 0, 1, 0, 2, 209), (117, 11, 1, 2, 1, 2, 210), (118, 9, 0, 1, 0, 2, 209), (119, 7, 0, 1, 0, 2, 209), (119, 7, 2, 2, 1, 2, 211), (120, 5, 0, 1, 0, 2, 209), (121, 5, 0, 1, 0, 2, 209), (121, 5, 1, 2, 1, 2, 210), (121, 5, 2, 3, 2, 2, 211), (121, 5, 3, 4, 3, 2, 356), (122, 4, 1, 1, 0, 1, 210), (123, 7, 0, 1, 0, 2, 209), (123, 7, 1, 2, 1, 2, 210), (124, 4, 1, 1, 0, 1, 210), (124, 4, 2, 2, 1, 1, 211), (125, 5, 0, 1, 0, 2, 209), (125, 5, 1, 2, 1, 2, 210), (126, 4, 1, 1, 0, 1, 210), (127, 5, 0, 1, 0, 2, 209), (127, 5, 1, 2, 1, 2, 210)]
def am_hd (k pc x : Nat) : Option Int32 := (am_HT.find? fun e => e.1 == k && e.2.1 == pc && e.2.2.1 == x).map fun e => Int32.ofNat e.2.2.2.1
