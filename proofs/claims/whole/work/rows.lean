section
def fu : Nat := 6000
def F_M : u_T := fun k => match k with
  | 0 => ("StandInMill", "types", "LStandInMill$Types;", true)
  | 1 => ("StandInMill", "loaderParents", "[I", true)
  | 2 => ("StandInMill", "loaderCount", "I", false)
  | 3 => ("StandInMill", "faces", "[LStandInMill$Face;", true)
  | 4 => ("StandInMill", "faceCount", "I", false)
  | 5 => ("StandInMill", "objectTypes", "[I", true)
  | 6 => ("StandInMill", "objectValues", "[J", true)
  | 7 => ("StandInMill", "objectCount", "I", false)
  | 8 => ("StandInMill", "rootMethods", "[LStandInMill$OwnMethod;", true)
  | 9 => ("StandInMill", "stands", "[LStandInMill$StandIn;", true)
  | 10 => ("StandInMill", "standCount", "I", false)
  | 11 => ("StandInMill", "draft", "LStandInMill$Draft;", true)
  | 12 => ("StandInMill", "writer", "LStandInMill$UnitWriter;", true)
  | 13 => ("StandInMill", "gathered", "Z", false)
  | 14 => ("StandInMill", "latestFault", "I", false)
  | 15 => ("StandInMill", "latestOutcome", "J", false)
  | 16 => ("StandInMill", "given", "[J", true)
  | _ => ("StandInMill", "seenRow", "[J", true)
def t_M : Nat → FieldType := fun k => match k with
  | 0 => .object "StandInMill$Types"
  | 1 => .array (.int)
  | 2 => .int
  | 3 => .array (.object "StandInMill$Face")
  | 4 => .int
  | 5 => .array (.int)
  | 6 => .array (.long)
  | 7 => .int
  | 8 => .array (.object "StandInMill$OwnMethod")
  | 9 => .array (.object "StandInMill$StandIn")
  | 10 => .int
  | 11 => .object "StandInMill$Draft"
  | 12 => .object "StandInMill$UnitWriter"
  | 13 => .boolean
  | 14 => .int
  | 15 => .long
  | 16 => .array (.long)
  | _ => .array (.long)
def F_Rw : u_T := fun k => match k with
  | 0 => ("StandInMill$ClassRow", "classes", "[I", true)
  | _ => ("StandInMill$ClassRow", "size", "I", false)
def t_Rw : Nat → FieldType := fun k => match k with
  | 0 => .array (.int)
  | _ => .int
def F_Dr : u_T := fun k => match k with
  | 0 => ("StandInMill$Draft", "types", "LStandInMill$Types;", true)
  | 1 => ("StandInMill$Draft", "methods", "[LStandInMill$StandMethod;", true)
  | 2 => ("StandInMill$Draft", "size", "I", false)
  | _ => ("StandInMill$Draft", "soFar", "LStandInMill$ClassRow;", true)
def t_Dr : Nat → FieldType := fun k => match k with
  | 0 => .object "StandInMill$Types"
  | 1 => .array (.object "StandInMill$StandMethod")
  | 2 => .int
  | _ => .object "StandInMill$ClassRow"
def F_Fc : u_T := fun k => match k with
  | 0 => ("StandInMill$Face", "loader", "I", true)
  | 1 => ("StandInMill$Face", "name", "I", true)
  | 2 => ("StandInMill$Face", "pack", "I", true)
  | 3 => ("StandInMill$Face", "open", "Z", true)
  | 4 => ("StandInMill$Face", "parents", "[I", true)
  | 5 => ("StandInMill$Face", "parentCount", "I", false)
  | 6 => ("StandInMill$Face", "own", "[LStandInMill$OwnMethod;", true)
  | 7 => ("StandInMill$Face", "ownCount", "I", false)
  | 8 => ("StandInMill$Face", "all", "[LStandInMill$OwnMethod;", true)
  | _ => ("StandInMill$Face", "allCount", "I", false)
def t_Fc : Nat → FieldType := fun k => match k with
  | 0 => .int
  | 1 => .int
  | 2 => .int
  | 3 => .boolean
  | 4 => .array (.int)
  | 5 => .int
  | 6 => .array (.object "StandInMill$OwnMethod")
  | 7 => .int
  | 8 => .array (.object "StandInMill$OwnMethod")
  | _ => .int
def F_Om : u_T := fun k => match k with
  | 0 => ("StandInMill$OwnMethod", "owner", "I", true)
  | 1 => ("StandInMill$OwnMethod", "number", "I", true)
  | 2 => ("StandInMill$OwnMethod", "name", "I", true)
  | 3 => ("StandInMill$OwnMethod", "parameters", "I", true)
  | 4 => ("StandInMill$OwnMethod", "result", "I", true)
  | _ => ("StandInMill$OwnMethod", "thrown", "LStandInMill$ClassRow;", true)
def t_Om : Nat → FieldType := fun k => match k with
  | 0 => .int
  | 1 => .int
  | 2 => .int
  | 3 => .int
  | 4 => .int
  | _ => .object "StandInMill$ClassRow"
def F_Si : u_T := fun k => match k with
  | 0 => ("StandInMill$StandIn", "loader", "I", true)
  | 1 => ("StandInMill$StandIn", "listed", "I", true)
  | 2 => ("StandInMill$StandIn", "pack", "I", true)
  | 3 => ("StandInMill$StandIn", "number", "I", true)
  | 4 => ("StandInMill$StandIn", "methods", "[LStandInMill$StandMethod;", true)
  | 5 => ("StandInMill$StandIn", "unit", "[B", false)
  | 6 => ("StandInMill$StandIn", "handled", "I", false)
  | _ => ("StandInMill$StandIn", "throwing", "Z", false)
def t_Si : Nat → FieldType := fun k => match k with
  | 0 => .int
  | 1 => .int
  | 2 => .int
  | 3 => .int
  | 4 => .array (.object "StandInMill$StandMethod")
  | 5 => .array (.byte)
  | 6 => .int
  | _ => .boolean
def F_Sm : u_T := fun k => match k with
  | 0 => ("StandInMill$StandMethod", "source", "LStandInMill$OwnMethod;", false)
  | 1 => ("StandInMill$StandMethod", "thrown", "LStandInMill$ClassRow;", true)
  | _ => ("StandInMill$StandMethod", "caught", "LStandInMill$ClassRow;", true)
def t_Sm : Nat → FieldType := fun k => match k with
  | 0 => .object "StandInMill$OwnMethod"
  | 1 => .object "StandInMill$ClassRow"
  | _ => .object "StandInMill$ClassRow"
def F_Ty : u_T := fun k => match k with
  | 0 => ("StandInMill$Types", "aboves", "[J", true)
  | _ => ("StandInMill$Types", "nextClass", "I", false)
def t_Ty : Nat → FieldType := fun k => match k with
  | 0 => .array (.long)
  | _ => .int
def F_Uw : u_T := fun k => match k with
  | 0 => ("StandInMill$UnitWriter", "entryOf", "[I", true)
  | 1 => ("StandInMill$UnitWriter", "entryCount", "I", false)
  | 2 => ("StandInMill$UnitWriter", "pool", "[B", true)
  | 3 => ("StandInMill$UnitWriter", "poolSize", "I", false)
  | 4 => ("StandInMill$UnitWriter", "body", "[B", true)
  | _ => ("StandInMill$UnitWriter", "bodySize", "I", false)
def t_Uw : Nat → FieldType := fun k => match k with
  | 0 => .array (.int)
  | 1 => .int
  | 2 => .array (.byte)
  | 3 => .int
  | 4 => .array (.byte)
  | _ => .int
def F_R : u_T := fun k => match k with
  | 0 => ("StandInMillModel", "thrownCode", "I", false)
  | 1 => ("StandInMillModel", "loaders", "I", false)
  | 2 => ("StandInMillModel", "parentLoader", "[I", true)
  | 3 => ("StandInMillModel", "classes", "I", false)
  | 4 => ("StandInMillModel", "parentClass", "[I", true)
  | 5 => ("StandInMillModel", "faces", "I", false)
  | 6 => ("StandInMillModel", "faceLoader", "[I", true)
  | 7 => ("StandInMillModel", "faceName", "[I", true)
  | 8 => ("StandInMillModel", "facePack", "[I", true)
  | 9 => ("StandInMillModel", "faceOpen", "[Z", true)
  | 10 => ("StandInMillModel", "faceParents", "[I", true)
  | 11 => ("StandInMillModel", "parentCount", "[I", true)
  | 12 => ("StandInMillModel", "ownCount", "[I", true)
  | 13 => ("StandInMillModel", "name", "[I", true)
  | 14 => ("StandInMillModel", "result", "[I", true)
  | 15 => ("StandInMillModel", "takes", "[I", true)
  | 16 => ("StandInMillModel", "throwCount", "[I", true)
  | 17 => ("StandInMillModel", "throwsOf", "[I", true)
  | 18 => ("StandInMillModel", "objects", "I", false)
  | 19 => ("StandInMillModel", "objectType", "[I", true)
  | 20 => ("StandInMillModel", "objectValue", "[J", true)
  | 21 => ("StandInMillModel", "stands", "I", false)
  | 22 => ("StandInMillModel", "standLoader", "[I", true)
  | 23 => ("StandInMillModel", "standList", "[I", true)
  | 24 => ("StandInMillModel", "standPack", "[I", true)
  | 25 => ("StandInMillModel", "standNumber", "[I", true)
  | 26 => ("StandInMillModel", "handler", "[I", true)
  | 27 => ("StandInMillModel", "handlerThrows", "[Z", true)
  | 28 => ("StandInMillModel", "faultNow", "I", false)
  | 29 => ("StandInMillModel", "all", "[I", true)
  | 30 => ("StandInMillModel", "allCount", "[I", true)
  | 31 => ("StandInMillModel", "founds", "I", false)
  | 32 => ("StandInMillModel", "found", "[I", true)
  | 33 => ("StandInMillModel", "may", "[I", true)
  | 34 => ("StandInMillModel", "mayCount", "[I", true)
  | 35 => ("StandInMillModel", "before", "[I", true)
  | 36 => ("StandInMillModel", "order", "[I", true)
  | 37 => ("StandInMillModel", "caughts", "I", false)
  | 38 => ("StandInMillModel", "caught", "[I", true)
  | 39 => ("StandInMillModel", "behind", "[I", true)
  | 40 => ("StandInMillModel", "behinds", "I", false)
  | 41 => ("StandInMillModel", "pool", "[I", true)
  | 42 => ("StandInMillModel", "pools", "I", false)
  | 43 => ("StandInMillModel", "outcomeNow", "J", false)
  | 44 => ("StandInMillModel", "seenNow", "[J", true)
  | 45 => ("StandInMillModel", "argType", "[I", true)
  | _ => ("StandInMillModel", "argValue", "[J", true)
def t_R : Nat → FieldType := fun k => match k with
  | 0 => .int
  | 1 => .int
  | 2 => .array (.int)
  | 3 => .int
  | 4 => .array (.int)
  | 5 => .int
  | 6 => .array (.int)
  | 7 => .array (.int)
  | 8 => .array (.int)
  | 9 => .array (.boolean)
  | 10 => .array (.int)
  | 11 => .array (.int)
  | 12 => .array (.int)
  | 13 => .array (.int)
  | 14 => .array (.int)
  | 15 => .array (.int)
  | 16 => .array (.int)
  | 17 => .array (.int)
  | 18 => .int
  | 19 => .array (.int)
  | 20 => .array (.long)
  | 21 => .int
  | 22 => .array (.int)
  | 23 => .array (.int)
  | 24 => .array (.int)
  | 25 => .array (.int)
  | 26 => .array (.int)
  | 27 => .array (.boolean)
  | 28 => .int
  | 29 => .array (.int)
  | 30 => .array (.int)
  | 31 => .int
  | 32 => .array (.int)
  | 33 => .array (.int)
  | 34 => .array (.int)
  | 35 => .array (.int)
  | 36 => .array (.int)
  | 37 => .int
  | 38 => .array (.int)
  | 39 => .array (.int)
  | 40 => .int
  | 41 => .array (.int)
  | 42 => .int
  | 43 => .long
  | 44 => .array (.long)
  | 45 => .array (.int)
  | _ => .array (.long)
abbrev classes : List vw_C := [("StandInMill", F_M, 18), ("StandInMill$ClassRow", F_Rw, 2), ("StandInMill$Draft", F_Dr, 4), ("StandInMill$Face", F_Fc, 10), ("StandInMill$OwnMethod", F_Om, 6), ("StandInMill$StandIn", F_Si, 8), ("StandInMill$StandMethod", F_Sm, 3), ("StandInMill$Types", F_Ty, 2), ("StandInMill$UnitWriter", F_Uw, 6), ("StandInMillModel", F_R, 47)]
def srt (κ k : Nat) : Nat := match κ with
  | 1 => (match k with | 0 => 2 | 1 => 2 | 3 => 2 | 5 => 2 | 6 => 2 | 8 => 2 | 9 => 2 | 11 => 2 | 12 => 2 | 15 => 1 | 16 => 2 | 17 => 2 | _ => 0)
  | 2 => (match k with | 0 => 2 | _ => 0)
  | 3 => (match k with | 0 => 2 | 1 => 2 | 3 => 2 | _ => 0)
  | 4 => (match k with | 4 => 2 | 6 => 2 | 8 => 2 | _ => 0)
  | 5 => (match k with | 5 => 2 | _ => 0)
  | 6 => (match k with | 4 => 2 | 5 => 2 | _ => 0)
  | 7 => (match k with | 0 => 2 | 1 => 2 | 2 => 2 | _ => 0)
  | 8 => (match k with | 0 => 2 | _ => 0)
  | 9 => (match k with | 0 => 2 | 2 => 2 | 4 => 2 | _ => 0)
  | 10 => (match k with | 2 => 2 | 4 => 2 | 6 => 2 | 7 => 2 | 8 => 2 | 9 => 2 | 10 => 2 | 11 => 2 | 12 => 2 | 13 => 2 | 14 => 2 | 15 => 2 | 16 => 2 | 17 => 2 | 19 => 2 | 20 => 2 | 22 => 2 | 23 => 2 | 24 => 2 | 25 => 2 | 26 => 2 | 27 => 2 | 29 => 2 | 30 => 2 | 32 => 2 | 33 => 2 | 34 => 2 | 35 => 2 | 36 => 2 | 38 => 2 | 39 => 2 | 41 => 2 | 43 => 1 | 44 => 2 | 45 => 2 | 46 => 2 | _ => 0)
  | 51 => 1
  | 60 => 2
  | 61 => 2
  | 62 => 2
  | 63 => 2
  | _ => 0
def aks : List Nat := [50, 51, 52, 53, 60, 61, 62, 63]
def aty (κ : Nat) : FieldType := match κ with
  | 50 => .int
  | 51 => .long
  | 52 => .byte
  | 53 => .boolean
  | 60 => .object "StandInMill$Face"
  | 61 => .object "StandInMill$OwnMethod"
  | 62 => .object "StandInMill$StandIn"
  | 63 => .object "StandInMill$StandMethod"
  | _ => .int
def AOs : List String := ["StandInMill$Face", "StandInMill$OwnMethod", "StandInMill$StandIn", "StandInMill$StandMethod"]
def y_Ty_bit : MethodName := ⟨"StandInMill$Types", "bit", "(I)J"⟩
abbrev b_Ty_bit : ByteArray := prog_8_method_2_code
def y_Ty_init : MethodName := ⟨"StandInMill$Types", "<init>", "()V"⟩
abbrev b_Ty_init : ByteArray := prog_8_method_1_code
def y_Rw_init : MethodName := ⟨"StandInMill$ClassRow", "<init>", "(I)V"⟩
abbrev b_Rw_init : ByteArray := prog_2_method_1_code
def y_Dr_init : MethodName := ⟨"StandInMill$Draft", "<init>", "(LStandInMill$Types;)V"⟩
abbrev b_Dr_init : ByteArray := prog_3_method_1_code
def y_Uw_init : MethodName := ⟨"StandInMill$UnitWriter", "<init>", "()V"⟩
abbrev b_Uw_init : ByteArray := prog_9_method_1_code
def y_Om_init : MethodName := ⟨"StandInMill$OwnMethod", "<init>", "(IIIII)V"⟩
abbrev b_Om_init : ByteArray := prog_5_method_1_code
def y_Ar_fillJ : MethodName := ⟨"java/util/Arrays", "fill", "([JJ)V"⟩
abbrev b_Ar_fillJ : ByteArray := prog_19_method_101_code
def y_M_init : MethodName := ⟨"StandInMill", "<init>", "()V"⟩
abbrev b_M_init : ByteArray := prog_1_method_1_code
def y_M_isWithin : MethodName := ⟨"StandInMill", "isWithin", "(II)Z"⟩
abbrev b_M_isWithin : ByteArray := prog_1_method_21_code
def y_M_isLoader : MethodName := ⟨"StandInMill", "isLoader", "(I)Z"⟩
abbrev b_M_isLoader : ByteArray := prog_1_method_28_code
def y_M_loader : MethodName := ⟨"StandInMill", "loader", "(I)I"⟩
abbrev b_M_loader : ByteArray := prog_1_method_2_code
def y_Ty_isClass : MethodName := ⟨"StandInMill$Types", "isClass", "(I)Z"⟩
abbrev b_Ty_isClass : ByteArray := prog_8_method_6_code
def y_Ty_addClass : MethodName := ⟨"StandInMill$Types", "addClass", "(I)I"⟩
abbrev b_Ty_addClass : ByteArray := prog_8_method_3_code
def y_M_type : MethodName := ⟨"StandInMill", "type", "(I)I"⟩
abbrev b_M_type : ByteArray := prog_1_method_3_code
def y_M_faceMadeBy : MethodName := ⟨"StandInMill", "faceMadeBy", "(III)I"⟩
abbrev b_M_faceMadeBy : ByteArray := prog_1_method_35_code
def y_M_faceFoundBy : MethodName := ⟨"StandInMill", "faceFoundBy", "(III)I"⟩
abbrev b_M_faceFoundBy : ByteArray := prog_1_method_34_code
def y_Fc_init : MethodName := ⟨"StandInMill$Face", "<init>", "(IIIZ)V"⟩
abbrev b_Fc_init : ByteArray := prog_4_method_1_code
def y_Ty_addFace : MethodName := ⟨"StandInMill$Types", "addFace", "(I)V"⟩
abbrev b_Ty_addFace : ByteArray := prog_8_method_4_code
def y_M_face : MethodName := ⟨"StandInMill", "face", "(IIIZ)I"⟩
abbrev b_M_face : ByteArray := prog_1_method_4_code
def y_M_isFace : MethodName := ⟨"StandInMill", "isFace", "(I)Z"⟩
abbrev b_M_isFace : ByteArray := prog_1_method_29_code
def y_Fc_hasParent : MethodName := ⟨"StandInMill$Face", "hasParent", "(I)Z"⟩
abbrev b_Fc_hasParent : ByteArray := prog_4_method_2_code
def y_M_isVisible : MethodName := ⟨"StandInMill", "isVisible", "(II)Z"⟩
abbrev b_M_isVisible : ByteArray := prog_1_method_36_code
def y_Fc_addParent : MethodName := ⟨"StandInMill$Face", "addParent", "(I)V"⟩
abbrev b_Fc_addParent : ByteArray := prog_4_method_3_code
def y_Ty_isBelow : MethodName := ⟨"StandInMill$Types", "isBelow", "(II)Z"⟩
abbrev b_Ty_isBelow : ByteArray := prog_8_method_8_code
def y_Ty_putBelow : MethodName := ⟨"StandInMill$Types", "putBelow", "(II)V"⟩
abbrev b_Ty_putBelow : ByteArray := prog_8_method_5_code
def y_M_extend : MethodName := ⟨"StandInMill", "extend", "(II)Z"⟩
abbrev b_M_extend : ByteArray := prog_1_method_5_code
def y_M_byteOf : MethodName := ⟨"StandInMill", "byteOf", "(II)I"⟩
abbrev b_M_byteOf : ByteArray := prog_1_method_24_code
def y_M_cutAtZero : MethodName := ⟨"StandInMill", "cutAtZero", "(I)I"⟩
abbrev b_M_cutAtZero : ByteArray := prog_1_method_25_code
def y_M_isPlain : MethodName := ⟨"StandInMill", "isPlain", "(I)Z"⟩
abbrev b_M_isPlain : ByteArray := prog_1_method_22_code
def y_Ty_isThere : MethodName := ⟨"StandInMill$Types", "isThere", "(I)Z"⟩
abbrev b_Ty_isThere : ByteArray := prog_8_method_7_code
def y_M_isResult : MethodName := ⟨"StandInMill", "isResult", "(I)Z"⟩
abbrev b_M_isResult : ByteArray := prog_1_method_30_code
def y_M_lengthOf : MethodName := ⟨"StandInMill", "lengthOf", "(I)I"⟩
abbrev b_M_lengthOf : ByteArray := prog_1_method_26_code
def y_M_areParameters : MethodName := ⟨"StandInMill", "areParameters", "(I)Z"⟩
abbrev b_M_areParameters : ByteArray := prog_1_method_31_code
def y_Fc_hasOwn : MethodName := ⟨"StandInMill$Face", "hasOwn", "(II)Z"⟩
abbrev b_Fc_hasOwn : ByteArray := prog_4_method_4_code
def y_Fc_addOwn : MethodName := ⟨"StandInMill$Face", "addOwn", "(LStandInMill$OwnMethod;)V"⟩
abbrev b_Fc_addOwn : ByteArray := prog_4_method_5_code
def y_M_method : MethodName := ⟨"StandInMill", "method", "(III)I"⟩
abbrev b_M_method : ByteArray := prog_1_method_6_code
def y_Rw_has : MethodName := ⟨"StandInMill$ClassRow", "has", "(I)Z"⟩
abbrev b_Rw_has : ByteArray := prog_2_method_3_code
def y_Rw_add : MethodName := ⟨"StandInMill$ClassRow", "add", "(I)V"⟩
abbrev b_Rw_add : ByteArray := prog_2_method_4_code
def y_M_throwing : MethodName := ⟨"StandInMill", "throwing", "(III)Z"⟩
abbrev b_M_throwing : ByteArray := prog_1_method_7_code
def y_M_isBox : MethodName := ⟨"StandInMill", "isBox", "(I)Z"⟩
abbrev b_M_isBox : ByteArray := prog_1_method_23_code
def y_M_fitted : MethodName := ⟨"StandInMill", "fitted", "(IJ)J"⟩
abbrev b_M_fitted : ByteArray := prog_1_method_27_code
def y_M_object : MethodName := ⟨"StandInMill", "object", "(IJ)I"⟩
abbrev b_M_object : ByteArray := prog_1_method_8_code
def y_M_value : MethodName := ⟨"StandInMill", "value", "(II)J"⟩
abbrev b_M_value : ByteArray := prog_1_method_9_code
def y_M_below : MethodName := ⟨"StandInMill", "below", "(II)Z"⟩
abbrev b_M_below : ByteArray := prog_1_method_10_code
def y_M_find : MethodName := ⟨"StandInMill", "find", "(III)I"⟩
abbrev b_M_find : ByteArray := prog_1_method_11_code
def y_M_areFaces : MethodName := ⟨"StandInMill", "areFaces", "(I)Z"⟩
abbrev b_M_areFaces : ByteArray := prog_1_method_32_code
def y_M_standMadeFor : MethodName := ⟨"StandInMill", "standMadeFor", "(II)I"⟩
abbrev b_M_standMadeFor : ByteArray := prog_1_method_37_code
def y_M_areVisible : MethodName := ⟨"StandInMill", "areVisible", "(II)Z"⟩
abbrev b_M_areVisible : ByteArray := prog_1_method_40_code
def y_M_hasTwice : MethodName := ⟨"StandInMill", "hasTwice", "(I)Z"⟩
abbrev b_M_hasTwice : ByteArray := prog_1_method_41_code
def y_M_packageOf : MethodName := ⟨"StandInMill", "packageOf", "(I)I"⟩
abbrev b_M_packageOf : ByteArray := prog_1_method_43_code
def y_M_isInTwoPackages : MethodName := ⟨"StandInMill", "isInTwoPackages", "(I)Z"⟩
abbrev b_M_isInTwoPackages : ByteArray := prog_1_method_42_code
def y_M_faultOfList : MethodName := ⟨"StandInMill", "faultOfList", "(II)I"⟩
abbrev b_M_faultOfList : ByteArray := prog_1_method_38_code
def y_Fc_gather : MethodName := ⟨"StandInMill$Face", "gather", "(LStandInMill$OwnMethod;)V"⟩
abbrev b_Fc_gather : ByteArray := prog_4_method_8_code
def y_Fc_gatherOwn : MethodName := ⟨"StandInMill$Face", "gatherOwn", "()V"⟩
abbrev b_Fc_gatherOwn : ByteArray := prog_4_method_6_code
def y_Fc_gatherFrom : MethodName := ⟨"StandInMill$Face", "gatherFrom", "(LStandInMill$Face;)V"⟩
abbrev b_Fc_gatherFrom : ByteArray := prog_4_method_7_code
def y_M_gatherMethods : MethodName := ⟨"StandInMill", "gatherMethods", "()V"⟩
abbrev b_M_gatherMethods : ByteArray := prog_1_method_45_code
def y_Dr_clear : MethodName := ⟨"StandInMill$Draft", "clear", "()V"⟩
abbrev b_Dr_clear : ByteArray := prog_3_method_2_code
def y_Om_hasSignatureOf : MethodName := ⟨"StandInMill$OwnMethod", "hasSignatureOf", "(LStandInMill$OwnMethod;)Z"⟩
abbrev b_Om_hasSignatureOf : ByteArray := prog_5_method_2_code
def y_Rw_clear : MethodName := ⟨"StandInMill$ClassRow", "clear", "()V"⟩
abbrev b_Rw_clear : ByteArray := prog_2_method_5_code
def y_Rw_copyFrom : MethodName := ⟨"StandInMill$ClassRow", "copyFrom", "(LStandInMill$ClassRow;)V"⟩
abbrev b_Rw_copyFrom : ByteArray := prog_2_method_6_code
def y_Ty_isBelowOneOf : MethodName := ⟨"StandInMill$Types", "isBelowOneOf", "(ILStandInMill$ClassRow;)Z"⟩
abbrev b_Ty_isBelowOneOf : ByteArray := prog_8_method_9_code
def y_Ty_addBelow : MethodName := ⟨"StandInMill$Types", "addBelow", "(LStandInMill$ClassRow;LStandInMill$ClassRow;LStandInMill$ClassRow;)V"⟩
abbrev b_Ty_addBelow : ByteArray := prog_8_method_10_code
def y_Dr_narrow : MethodName := ⟨"StandInMill$Draft", "narrow", "(LStandInMill$ClassRow;LStandInMill$ClassRow;)V"⟩
abbrev b_Dr_narrow : ByteArray := prog_3_method_4_code
def y_Sm_init : MethodName := ⟨"StandInMill$StandMethod", "<init>", "()V"⟩
abbrev b_Sm_init : ByteArray := prog_7_method_1_code
def y_Dr_insert : MethodName := ⟨"StandInMill$Draft", "insert", "(ILStandInMill$OwnMethod;)V"⟩
abbrev b_Dr_insert : ByteArray := prog_3_method_5_code
def y_Dr_take : MethodName := ⟨"StandInMill$Draft", "take", "(LStandInMill$OwnMethod;)V"⟩
abbrev b_Dr_take : ByteArray := prog_3_method_3_code
def y_M_fillDraft : MethodName := ⟨"StandInMill", "fillDraft", "(I)V"⟩
abbrev b_M_fillDraft : ByteArray := prog_1_method_44_code
def y_Dr_endOfSignature : MethodName := ⟨"StandInMill$Draft", "endOfSignature", "(I)I"⟩
abbrev b_Dr_endOfSignature : ByteArray := prog_3_method_7_code
def y_Dr_isBelowAll : MethodName := ⟨"StandInMill$Draft", "isBelowAll", "(III)Z"⟩
abbrev b_Dr_isBelowAll : ByteArray := prog_3_method_9_code
def y_Dr_resultsAgreeWithin : MethodName := ⟨"StandInMill$Draft", "resultsAgreeWithin", "(II)Z"⟩
abbrev b_Dr_resultsAgreeWithin : ByteArray := prog_3_method_8_code
def y_Dr_resultsAgree : MethodName := ⟨"StandInMill$Draft", "resultsAgree", "()Z"⟩
abbrev b_Dr_resultsAgree : ByteArray := prog_3_method_6_code
def y_M_faultOfDraft : MethodName := ⟨"StandInMill", "faultOfDraft", "()I"⟩
abbrev b_M_faultOfDraft : ByteArray := prog_1_method_39_code
def y_M_standsOfPackage : MethodName := ⟨"StandInMill", "standsOfPackage", "(I)I"⟩
abbrev b_M_standsOfPackage : ByteArray := prog_1_method_47_code
def y_Si_init : MethodName := ⟨"StandInMill$StandIn", "<init>", "(IIIII)V"⟩
abbrev b_Si_init : ByteArray := prog_6_method_1_code
def y_Rw_at : MethodName := ⟨"StandInMill$ClassRow", "at", "(I)I"⟩
abbrev b_Rw_at : ByteArray := prog_2_method_2_code
def y_Ty_dropBelow : MethodName := ⟨"StandInMill$Types", "dropBelow", "(LStandInMill$ClassRow;I)V"⟩
abbrev b_Ty_dropBelow : ByteArray := prog_8_method_11_code
def y_Dr_fillCaught : MethodName := ⟨"StandInMill$Draft", "fillCaught", "(LStandInMill$StandMethod;)V"⟩
abbrev b_Dr_fillCaught : ByteArray := prog_3_method_11_code
def y_Dr_handOver : MethodName := ⟨"StandInMill$Draft", "handOver", "([LStandInMill$StandMethod;)V"⟩
abbrev b_Dr_handOver : ByteArray := prog_3_method_10_code
def y_M_madeOfDraft : MethodName := ⟨"StandInMill", "madeOfDraft", "(II)LStandInMill$StandIn;"⟩
abbrev b_M_madeOfDraft : ByteArray := prog_1_method_46_code
def y_Ar_fillI : MethodName := ⟨"java/util/Arrays", "fill", "([II)V"⟩
abbrev b_Ar_fillI : ByteArray := prog_19_method_103_code
def y_Uw_put : MethodName := ⟨"StandInMill$UnitWriter", "put", "(I)V"⟩
abbrev b_Uw_put : ByteArray := prog_9_method_14_code
def y_Uw_putInPool : MethodName := ⟨"StandInMill$UnitWriter", "putInPool", "(I)V"⟩
abbrev b_Uw_putInPool : ByteArray := prog_9_method_13_code
def y_Uw_putEntry : MethodName := ⟨"StandInMill$UnitWriter", "putEntry", "(III)Z"⟩
abbrev b_Uw_putEntry : ByteArray := prog_9_method_12_code
def y_Uw_putType : MethodName := ⟨"StandInMill$UnitWriter", "putType", "(I)V"⟩
abbrev b_Uw_putType : ByteArray := prog_9_method_10_code
def y_Uw_putTypes : MethodName := ⟨"StandInMill$UnitWriter", "putTypes", "(I)V"⟩
abbrev b_Uw_putTypes : ByteArray := prog_9_method_5_code
def y_Uw_putRow : MethodName := ⟨"StandInMill$UnitWriter", "putRow", "(LStandInMill$ClassRow;)V"⟩
abbrev b_Uw_putRow : ByteArray := prog_9_method_6_code
def y_Uw_putMethodEntry : MethodName := ⟨"StandInMill$UnitWriter", "putMethodEntry", "(LStandInMill$OwnMethod;)V"⟩
abbrev b_Uw_putMethodEntry : ByteArray := prog_9_method_11_code
def y_Om_parameterCount : MethodName := ⟨"StandInMill$OwnMethod", "parameterCount", "()I"⟩
abbrev b_Om_parameterCount : ByteArray := prog_5_method_3_code
def y_Uw_putParameterCode : MethodName := ⟨"StandInMill$UnitWriter", "putParameterCode", "(LStandInMill$OwnMethod;)V"⟩
abbrev b_Uw_putParameterCode : ByteArray := prog_9_method_8_code
def y_Uw_putResultCode : MethodName := ⟨"StandInMill$UnitWriter", "putResultCode", "(I)V"⟩
abbrev b_Uw_putResultCode : ByteArray := prog_9_method_9_code
def y_Uw_putCode : MethodName := ⟨"StandInMill$UnitWriter", "putCode", "(LStandInMill$OwnMethod;Z)V"⟩
abbrev b_Uw_putCode : ByteArray := prog_9_method_7_code
def y_Uw_putMethod : MethodName := ⟨"StandInMill$UnitWriter", "putMethod", "(LStandInMill$StandMethod;)V"⟩
abbrev b_Uw_putMethod : ByteArray := prog_9_method_4_code
def y_Uw_joined : MethodName := ⟨"StandInMill$UnitWriter", "joined", "()[B"⟩
abbrev b_Uw_joined : ByteArray := prog_9_method_3_code
def y_Uw_write : MethodName := ⟨"StandInMill$UnitWriter", "write", "(LStandInMill$StandIn;)[B"⟩
abbrev b_Uw_write : ByteArray := prog_9_method_2_code
def y_M_stand : MethodName := ⟨"StandInMill", "stand", "(II)I"⟩
abbrev b_M_stand : ByteArray := prog_1_method_12_code
def y_M_fault : MethodName := ⟨"StandInMill", "fault", "()I"⟩
abbrev b_M_fault : ByteArray := prog_1_method_13_code
def y_M_about : MethodName := ⟨"StandInMill", "about", "(II)I"⟩
abbrev b_M_about : ByteArray := prog_1_method_14_code
def y_M_hasMethod : MethodName := ⟨"StandInMill", "hasMethod", "(II)Z"⟩
abbrev b_M_hasMethod : ByteArray := prog_1_method_33_code
def y_M_told : MethodName := ⟨"StandInMill", "told", "(III)I"⟩
abbrev b_M_told : ByteArray := prog_1_method_15_code
def y_M_octet : MethodName := ⟨"StandInMill", "octet", "(II)I"⟩
abbrev b_M_octet : ByteArray := prog_1_method_16_code
def y_M_handler : MethodName := ⟨"StandInMill", "handler", "(IIZ)Z"⟩
abbrev b_M_handler : ByteArray := prog_1_method_17_code
def y_M_isObjectBelow : MethodName := ⟨"StandInMill", "isObjectBelow", "(JI)Z"⟩
abbrev b_M_isObjectBelow : ByteArray := prog_1_method_49_code
def y_M_takesGiven : MethodName := ⟨"StandInMill", "takesGiven", "(LStandInMill$OwnMethod;)Z"⟩
abbrev b_M_takesGiven : ByteArray := prog_1_method_48_code
def y_M_showObject : MethodName := ⟨"StandInMill", "showObject", "(II)V"⟩
abbrev b_M_showObject : ByteArray := prog_1_method_51_code
def y_M_showHandler : MethodName := ⟨"StandInMill", "showHandler", "(LStandInMill$OwnMethod;)V"⟩
abbrev b_M_showHandler : ByteArray := prog_1_method_50_code
def y_M_fitThrown : MethodName := ⟨"StandInMill", "fitThrown", "(LStandInMill$StandMethod;I)I"⟩
abbrev b_M_fitThrown : ByteArray := prog_1_method_53_code
def y_M_fitAnswer : MethodName := ⟨"StandInMill", "fitAnswer", "(II)I"⟩
abbrev b_M_fitAnswer : ByteArray := prog_1_method_52_code
def y_M_call : MethodName := ⟨"StandInMill", "call", "(IIJJJ)I"⟩
abbrev b_M_call : ByteArray := prog_1_method_18_code
def y_M_outcome : MethodName := ⟨"StandInMill", "outcome", "()J"⟩
abbrev b_M_outcome : ByteArray := prog_1_method_19_code
def y_M_seen : MethodName := ⟨"StandInMill", "seen", "(I)J"⟩
abbrev b_M_seen : ByteArray := prog_1_method_20_code
def y_R_init : MethodName := ⟨"StandInMillModel", "<init>", "()V"⟩
abbrev b_R_init : ByteArray := prog_11_method_1_code
def y_R_isClass : MethodName := ⟨"StandInMillModel", "isClass", "(I)Z"⟩
abbrev b_R_isClass : ByteArray := prog_11_method_2_code
def y_R_isFace : MethodName := ⟨"StandInMillModel", "isFace", "(I)Z"⟩
abbrev b_R_isFace : ByteArray := prog_11_method_3_code
def y_R_isPlain : MethodName := ⟨"StandInMillModel", "isPlain", "(I)Z"⟩
abbrev b_R_isPlain : ByteArray := prog_11_method_4_code
def y_R_isBox : MethodName := ⟨"StandInMillModel", "isBox", "(I)Z"⟩
abbrev b_R_isBox : ByteArray := prog_11_method_5_code
def y_R_there : MethodName := ⟨"StandInMillModel", "there", "(I)Z"⟩
abbrev b_R_there : ByteArray := prog_11_method_6_code
def y_R_isBelow : MethodName := ⟨"StandInMillModel", "isBelow", "(II)Z"⟩
abbrev b_R_isBelow : ByteArray := prog_11_method_7_code
def y_R_fitted : MethodName := ⟨"StandInMillModel", "fitted", "(IJ)J"⟩
abbrev b_R_fitted : ByteArray := prog_11_method_8_code
def y_R_madeBy : MethodName := ⟨"StandInMillModel", "madeBy", "(III)I"⟩
abbrev b_R_madeBy : ByteArray := prog_11_method_9_code
def y_R_finds : MethodName := ⟨"StandInMillModel", "finds", "(III)I"⟩
abbrev b_R_finds : ByteArray := prog_11_method_10_code
def y_R_visible : MethodName := ⟨"StandInMillModel", "visible", "(II)Z"⟩
abbrev b_R_visible : ByteArray := prog_11_method_11_code
def y_R_sameSignature : MethodName := ⟨"StandInMillModel", "sameSignature", "(II)Z"⟩
abbrev b_R_sameSignature : ByteArray := prog_11_method_12_code
def y_R_takesCount : MethodName := ⟨"StandInMillModel", "takesCount", "(I)I"⟩
abbrev b_R_takesCount : ByteArray := prog_11_method_13_code
def y_R_listMethods : MethodName := ⟨"StandInMillModel", "listMethods", "()V"⟩
abbrev b_R_listMethods : ByteArray := prog_11_method_14_code
def y_R_add : MethodName := ⟨"StandInMillModel", "add", "(I)V"⟩
abbrev b_R_add : ByteArray := prog_11_method_15_code
def y_R_belowOneOf : MethodName := ⟨"StandInMillModel", "belowOneOf", "(II)Z"⟩
abbrev b_R_belowOneOf : ByteArray := prog_11_method_16_code
def y_R_merge : MethodName := ⟨"StandInMillModel", "merge", "(II)V"⟩
abbrev b_R_merge : ByteArray := prog_11_method_17_code
def y_R_describe : MethodName := ⟨"StandInMillModel", "describe", "(I)V"⟩
abbrev b_R_describe : ByteArray := prog_11_method_18_code
def y_R_wrongResults : MethodName := ⟨"StandInMillModel", "wrongResults", "(I)Z"⟩
abbrev b_R_wrongResults : ByteArray := prog_11_method_19_code
def y_R_faultOf : MethodName := ⟨"StandInMillModel", "faultOf", "(II)I"⟩
abbrev b_R_faultOf : ByteArray := prog_11_method_20_code
def y_R_catchFor : MethodName := ⟨"StandInMillModel", "catchFor", "(I)V"⟩
abbrev b_R_catchFor : ByteArray := prog_11_method_21_code
def y_R_say : MethodName := ⟨"StandInMillModel", "say", "(I)V"⟩
abbrev b_R_say : ByteArray := prog_11_method_22_code
def y_R_entry : MethodName := ⟨"StandInMillModel", "entry", "(III)I"⟩
abbrev b_R_entry : ByteArray := prog_11_method_23_code
def y_R_owner : MethodName := ⟨"StandInMillModel", "owner", "(I)I"⟩
abbrev b_R_owner : ByteArray := prog_11_method_24_code
def y_R_numberOf : MethodName := ⟨"StandInMillModel", "numberOf", "(I)I"⟩
abbrev b_R_numberOf : ByteArray := prog_11_method_25_code
def y_R_sayCode : MethodName := ⟨"StandInMillModel", "sayCode", "(I)V"⟩
abbrev b_R_sayCode : ByteArray := prog_11_method_26_code
def y_R_sayMethod : MethodName := ⟨"StandInMillModel", "sayMethod", "(I)V"⟩
abbrev b_R_sayMethod : ByteArray := prog_11_method_27_code
def y_R_unit : MethodName := ⟨"StandInMillModel", "unit", "(I)V"⟩
abbrev b_R_unit : ByteArray := prog_11_method_28_code
def y_R_poolBytes : MethodName := ⟨"StandInMillModel", "poolBytes", "()I"⟩
abbrev b_R_poolBytes : ByteArray := prog_11_method_29_code
def y_R_unitByte : MethodName := ⟨"StandInMillModel", "unitByte", "(I)I"⟩
abbrev b_R_unitByte : ByteArray := prog_11_method_30_code
def y_R_thrown : MethodName := ⟨"StandInMillModel", "thrown", "()I"⟩
abbrev b_R_thrown : ByteArray := prog_11_method_31_code
def y_R_loader : MethodName := ⟨"StandInMillModel", "loader", "(I)I"⟩
abbrev b_R_loader : ByteArray := prog_11_method_32_code
def y_R_type : MethodName := ⟨"StandInMillModel", "type", "(I)I"⟩
abbrev b_R_type : ByteArray := prog_11_method_33_code
def y_R_face : MethodName := ⟨"StandInMillModel", "face", "(IIIZ)I"⟩
abbrev b_R_face : ByteArray := prog_11_method_34_code
def y_R_extend : MethodName := ⟨"StandInMillModel", "extend", "(II)Z"⟩
abbrev b_R_extend : ByteArray := prog_11_method_35_code
def y_R_method : MethodName := ⟨"StandInMillModel", "method", "(III)I"⟩
abbrev b_R_method : ByteArray := prog_11_method_36_code
def y_R_throwing : MethodName := ⟨"StandInMillModel", "throwing", "(III)Z"⟩
abbrev b_R_throwing : ByteArray := prog_11_method_37_code
def y_R_object : MethodName := ⟨"StandInMillModel", "object", "(IJ)I"⟩
abbrev b_R_object : ByteArray := prog_11_method_38_code
def y_R_value : MethodName := ⟨"StandInMillModel", "value", "(II)J"⟩
abbrev b_R_value : ByteArray := prog_11_method_39_code
def y_R_below : MethodName := ⟨"StandInMillModel", "below", "(II)Z"⟩
abbrev b_R_below : ByteArray := prog_11_method_40_code
def y_R_find : MethodName := ⟨"StandInMillModel", "find", "(III)I"⟩
abbrev b_R_find : ByteArray := prog_11_method_41_code
def y_R_cleaned : MethodName := ⟨"StandInMillModel", "cleaned", "(I)I"⟩
abbrev b_R_cleaned : ByteArray := prog_11_method_42_code
def y_R_stand : MethodName := ⟨"StandInMillModel", "stand", "(II)I"⟩
abbrev b_R_stand : ByteArray := prog_11_method_43_code
def y_R_fault : MethodName := ⟨"StandInMillModel", "fault", "()I"⟩
abbrev b_R_fault : ByteArray := prog_11_method_44_code
def y_R_isStand : MethodName := ⟨"StandInMillModel", "isStand", "(I)Z"⟩
abbrev b_R_isStand : ByteArray := prog_11_method_45_code
def y_R_about : MethodName := ⟨"StandInMillModel", "about", "(II)I"⟩
abbrev b_R_about : ByteArray := prog_11_method_46_code
def y_R_told : MethodName := ⟨"StandInMillModel", "told", "(III)I"⟩
abbrev b_R_told : ByteArray := prog_11_method_47_code
def y_R_octet : MethodName := ⟨"StandInMillModel", "octet", "(II)I"⟩
abbrev b_R_octet : ByteArray := prog_11_method_48_code
def y_R_handler : MethodName := ⟨"StandInMillModel", "handler", "(IIZ)Z"⟩
abbrev b_R_handler : ByteArray := prog_11_method_49_code
def y_R_takesAs : MethodName := ⟨"StandInMillModel", "takesAs", "(IIJ)Z"⟩
abbrev b_R_takesAs : ByteArray := prog_11_method_50_code
def y_R_fit : MethodName := ⟨"StandInMillModel", "fit", "(II)I"⟩
abbrev b_R_fit : ByteArray := prog_11_method_51_code
def y_R_call : MethodName := ⟨"StandInMillModel", "call", "(IIJJJ)I"⟩
abbrev b_R_call : ByteArray := prog_11_method_52_code
def y_R_outcome : MethodName := ⟨"StandInMillModel", "outcome", "()J"⟩
abbrev b_R_outcome : ByteArray := prog_11_method_53_code
def y_R_seen : MethodName := ⟨"StandInMillModel", "seen", "(I)J"⟩
abbrev b_R_seen : ByteArray := prog_11_method_54_code
def NWf : List (String × Nat × String × String × String × String) := [("StandInMill", 124, "StandInMill$Face", "loader", "I", "StandInMill"), ("StandInMill", 314, "StandInMill$Face", "name", "I", "StandInMill"), ("StandInMill", 315, "StandInMill$Face", "pack", "I", "StandInMill"), ("StandInMill", 121, "StandInMill$Face", "parentCount", "I", "StandInMill"), ("StandInMill$Face", 44, "StandInMill$OwnMethod", "name", "I", "StandInMill"), ("StandInMill$Face", 45, "StandInMill$OwnMethod", "parameters", "I", "StandInMill"), ("StandInMill", 150, "StandInMill$Face", "ownCount", "I", "StandInMill"), ("StandInMill", 163, "StandInMill$Face", "own", "[LStandInMill$OwnMethod;", "StandInMill"), ("StandInMill", 166, "StandInMill$OwnMethod", "thrown", "LStandInMill$ClassRow;", "StandInMill"), ("StandInMill", 175, "StandInMill$ClassRow", "size", "I", "StandInMill"), ("StandInMill", 248, "StandInMill$StandIn", "loader", "I", "StandInMill"), ("StandInMill", 316, "StandInMill$StandIn", "listed", "I", "StandInMill"), ("StandInMill", 336, "StandInMill$Face", "open", "Z", "StandInMill"), ("StandInMill$Face", 59, "StandInMill$OwnMethod", "owner", "I", "StandInMill"), ("StandInMill$Face", 62, "StandInMill$OwnMethod", "number", "I", "StandInMill"), ("StandInMill", 357, "StandInMill$Face", "parents", "[I", "StandInMill"), ("StandInMill$Types", 37, "StandInMill$ClassRow", "size", "I", "StandInMill"), ("StandInMill$Types", 42, "StandInMill$ClassRow", "classes", "[I", "StandInMill"), ("StandInMill$Draft", 34, "StandInMill$StandMethod", "source", "LStandInMill$OwnMethod;", "StandInMill"), ("StandInMill$Draft", 47, "StandInMill$StandMethod", "thrown", "LStandInMill$ClassRow;", "StandInMill"), ("StandInMill$Draft", 50, "StandInMill$OwnMethod", "thrown", "LStandInMill$ClassRow;", "StandInMill"), ("StandInMill$Draft", 44, "StandInMill$OwnMethod", "result", "I", "StandInMill"), ("StandInMill", 348, "StandInMill$Face", "allCount", "I", "StandInMill"), ("StandInMill", 351, "StandInMill$Face", "all", "[LStandInMill$OwnMethod;", "StandInMill"), ("StandInMill", 332, "StandInMill$Draft", "size", "I", "StandInMill"), ("StandInMill", 238, "StandInMill$StandIn", "pack", "I", "StandInMill"), ("StandInMill$Draft", 96, "StandInMill$StandMethod", "caught", "LStandInMill$ClassRow;", "StandInMill"), ("StandInMill$Draft", 105, "StandInMill$ClassRow", "size", "I", "StandInMill"), ("StandInMill", 244, "StandInMill$StandIn", "methods", "[LStandInMill$StandMethod;", "StandInMill"), ("StandInMill$UnitWriter", 109, "StandInMill$ClassRow", "size", "I", "StandInMill"), ("StandInMill$UnitWriter", 147, "StandInMill$OwnMethod", "owner", "I", "StandInMill"), ("StandInMill$UnitWriter", 150, "StandInMill$OwnMethod", "number", "I", "StandInMill"), ("StandInMill$UnitWriter", 89, "StandInMill$OwnMethod", "parameters", "I", "StandInMill"), ("StandInMill$UnitWriter", 92, "StandInMill$OwnMethod", "result", "I", "StandInMill"), ("StandInMill$UnitWriter", 74, "StandInMill$StandMethod", "source", "LStandInMill$OwnMethod;", "StandInMill"), ("StandInMill$UnitWriter", 80, "StandInMill$OwnMethod", "name", "I", "StandInMill"), ("StandInMill$UnitWriter", 98, "StandInMill$StandMethod", "thrown", "LStandInMill$ClassRow;", "StandInMill"), ("StandInMill$UnitWriter", 106, "StandInMill$StandMethod", "caught", "LStandInMill$ClassRow;", "StandInMill"), ("StandInMill$UnitWriter", 38, "StandInMill$StandIn", "pack", "I", "StandInMill"), ("StandInMill$UnitWriter", 47, "StandInMill$StandIn", "number", "I", "StandInMill"), ("StandInMill$UnitWriter", 50, "StandInMill$StandIn", "listed", "I", "StandInMill"), ("StandInMill$UnitWriter", 56, "StandInMill$StandIn", "methods", "[LStandInMill$StandMethod;", "StandInMill"), ("StandInMill", 234, "StandInMill$StandIn", "unit", "[B", "StandInMill"), ("StandInMill", 241, "StandInMill$StandIn", "number", "I", "StandInMill"), ("StandInMill", 252, "StandInMill$StandMethod", "source", "LStandInMill$OwnMethod;", "StandInMill"), ("StandInMill", 265, "StandInMill$OwnMethod", "name", "I", "StandInMill"), ("StandInMill", 268, "StandInMill$OwnMethod", "result", "I", "StandInMill"), ("StandInMill", 271, "StandInMill$OwnMethod", "parameters", "I", "StandInMill"), ("StandInMill", 277, "StandInMill$OwnMethod", "owner", "I", "StandInMill"), ("StandInMill", 280, "StandInMill$OwnMethod", "number", "I", "StandInMill"), ("StandInMill", 264, "StandInMill$StandMethod", "thrown", "LStandInMill$ClassRow;", "StandInMill"), ("StandInMill", 258, "StandInMill$StandMethod", "caught", "LStandInMill$ClassRow;", "StandInMill"), ("StandInMill", 281, "StandInMill$StandIn", "handled", "I", "StandInMill"), ("StandInMill", 284, "StandInMill$StandIn", "throwing", "Z", "StandInMill")]
def NWm : List (String × Nat × MethodName × String) := [("StandInMill", 56, y_Uw_init, "StandInMill"), ("StandInMill$Types", 34, y_M_isWithin, "StandInMill"), ("StandInMill$Types", 31, y_M_isPlain, "StandInMill"), ("StandInMill$Draft", 72, y_Sm_init, "StandInMill"), ("StandInMill$Draft", 81, y_M_isPlain, "StandInMill"), ("StandInMill$ClassRow", 19, y_M_isWithin, "StandInMill"), ("StandInMill$UnitWriter", 118, y_M_lengthOf, "StandInMill"), ("StandInMill$UnitWriter", 122, y_M_byteOf, "StandInMill"), ("StandInMill$OwnMethod", 36, y_M_lengthOf, "StandInMill"), ("StandInMill$UnitWriter", 143, y_M_isPlain, "StandInMill")]
def NW : List Cond := NWf.map (fun q => .fieldLinkNest q.1 q.2.1 q.2.2.1 q.2.2.2.1 q.2.2.2.2.1 q.2.2.2.2.2) ++ NWm.map (fun q => .methodLinkNest q.1 q.2.1 q.2.2.1 q.2.2.2)
theorem NW_form : ∀ w ∈ NW, (∃ a i b n dd q, w = .fieldLinkNest a i b n dd q) ∨ (∃ a i x q, w = .methodLinkNest a i x q) := by
  intro w hw
  rcases List.mem_append.mp hw with h | h
  · obtain ⟨q, -, rfl⟩ := List.mem_map.mp h
    exact Or.inl ⟨_, _, _, _, _, _, rfl⟩
  · obtain ⟨q, -, rfl⟩ := List.mem_map.mp h
    exact Or.inr ⟨_, _, _, _, rfl⟩
theorem nf_0 : Cond.fieldLinkNest "StandInMill" 124 "StandInMill$Face" "loader" "I" "StandInMill" ∈ NW := List.mem_append_left _ (List.mem_map.mpr ⟨_, List.mem_of_getElem? (i := 0) rfl, rfl⟩)
theorem nf_1 : Cond.fieldLinkNest "StandInMill" 314 "StandInMill$Face" "name" "I" "StandInMill" ∈ NW := List.mem_append_left _ (List.mem_map.mpr ⟨_, List.mem_of_getElem? (i := 1) rfl, rfl⟩)
theorem nf_2 : Cond.fieldLinkNest "StandInMill" 315 "StandInMill$Face" "pack" "I" "StandInMill" ∈ NW := List.mem_append_left _ (List.mem_map.mpr ⟨_, List.mem_of_getElem? (i := 2) rfl, rfl⟩)
theorem nf_3 : Cond.fieldLinkNest "StandInMill" 121 "StandInMill$Face" "parentCount" "I" "StandInMill" ∈ NW := List.mem_append_left _ (List.mem_map.mpr ⟨_, List.mem_of_getElem? (i := 3) rfl, rfl⟩)
theorem nf_4 : Cond.fieldLinkNest "StandInMill$Face" 44 "StandInMill$OwnMethod" "name" "I" "StandInMill" ∈ NW := List.mem_append_left _ (List.mem_map.mpr ⟨_, List.mem_of_getElem? (i := 4) rfl, rfl⟩)
theorem nf_5 : Cond.fieldLinkNest "StandInMill$Face" 45 "StandInMill$OwnMethod" "parameters" "I" "StandInMill" ∈ NW := List.mem_append_left _ (List.mem_map.mpr ⟨_, List.mem_of_getElem? (i := 5) rfl, rfl⟩)
theorem nf_6 : Cond.fieldLinkNest "StandInMill" 150 "StandInMill$Face" "ownCount" "I" "StandInMill" ∈ NW := List.mem_append_left _ (List.mem_map.mpr ⟨_, List.mem_of_getElem? (i := 6) rfl, rfl⟩)
theorem nf_7 : Cond.fieldLinkNest "StandInMill" 163 "StandInMill$Face" "own" "[LStandInMill$OwnMethod;" "StandInMill" ∈ NW := List.mem_append_left _ (List.mem_map.mpr ⟨_, List.mem_of_getElem? (i := 7) rfl, rfl⟩)
theorem nf_8 : Cond.fieldLinkNest "StandInMill" 166 "StandInMill$OwnMethod" "thrown" "LStandInMill$ClassRow;" "StandInMill" ∈ NW := List.mem_append_left _ (List.mem_map.mpr ⟨_, List.mem_of_getElem? (i := 8) rfl, rfl⟩)
theorem nf_9 : Cond.fieldLinkNest "StandInMill" 175 "StandInMill$ClassRow" "size" "I" "StandInMill" ∈ NW := List.mem_append_left _ (List.mem_map.mpr ⟨_, List.mem_of_getElem? (i := 9) rfl, rfl⟩)
theorem nf_10 : Cond.fieldLinkNest "StandInMill" 248 "StandInMill$StandIn" "loader" "I" "StandInMill" ∈ NW := List.mem_append_left _ (List.mem_map.mpr ⟨_, List.mem_of_getElem? (i := 10) rfl, rfl⟩)
theorem nf_11 : Cond.fieldLinkNest "StandInMill" 316 "StandInMill$StandIn" "listed" "I" "StandInMill" ∈ NW := List.mem_append_left _ (List.mem_map.mpr ⟨_, List.mem_of_getElem? (i := 11) rfl, rfl⟩)
theorem nf_12 : Cond.fieldLinkNest "StandInMill" 336 "StandInMill$Face" "open" "Z" "StandInMill" ∈ NW := List.mem_append_left _ (List.mem_map.mpr ⟨_, List.mem_of_getElem? (i := 12) rfl, rfl⟩)
theorem nf_13 : Cond.fieldLinkNest "StandInMill$Face" 59 "StandInMill$OwnMethod" "owner" "I" "StandInMill" ∈ NW := List.mem_append_left _ (List.mem_map.mpr ⟨_, List.mem_of_getElem? (i := 13) rfl, rfl⟩)
theorem nf_14 : Cond.fieldLinkNest "StandInMill$Face" 62 "StandInMill$OwnMethod" "number" "I" "StandInMill" ∈ NW := List.mem_append_left _ (List.mem_map.mpr ⟨_, List.mem_of_getElem? (i := 14) rfl, rfl⟩)
theorem nf_15 : Cond.fieldLinkNest "StandInMill" 357 "StandInMill$Face" "parents" "[I" "StandInMill" ∈ NW := List.mem_append_left _ (List.mem_map.mpr ⟨_, List.mem_of_getElem? (i := 15) rfl, rfl⟩)
theorem nf_16 : Cond.fieldLinkNest "StandInMill$Types" 37 "StandInMill$ClassRow" "size" "I" "StandInMill" ∈ NW := List.mem_append_left _ (List.mem_map.mpr ⟨_, List.mem_of_getElem? (i := 16) rfl, rfl⟩)
theorem nf_17 : Cond.fieldLinkNest "StandInMill$Types" 42 "StandInMill$ClassRow" "classes" "[I" "StandInMill" ∈ NW := List.mem_append_left _ (List.mem_map.mpr ⟨_, List.mem_of_getElem? (i := 17) rfl, rfl⟩)
theorem nf_18 : Cond.fieldLinkNest "StandInMill$Draft" 34 "StandInMill$StandMethod" "source" "LStandInMill$OwnMethod;" "StandInMill" ∈ NW := List.mem_append_left _ (List.mem_map.mpr ⟨_, List.mem_of_getElem? (i := 18) rfl, rfl⟩)
theorem nf_19 : Cond.fieldLinkNest "StandInMill$Draft" 47 "StandInMill$StandMethod" "thrown" "LStandInMill$ClassRow;" "StandInMill" ∈ NW := List.mem_append_left _ (List.mem_map.mpr ⟨_, List.mem_of_getElem? (i := 19) rfl, rfl⟩)
theorem nf_20 : Cond.fieldLinkNest "StandInMill$Draft" 50 "StandInMill$OwnMethod" "thrown" "LStandInMill$ClassRow;" "StandInMill" ∈ NW := List.mem_append_left _ (List.mem_map.mpr ⟨_, List.mem_of_getElem? (i := 20) rfl, rfl⟩)
theorem nf_21 : Cond.fieldLinkNest "StandInMill$Draft" 44 "StandInMill$OwnMethod" "result" "I" "StandInMill" ∈ NW := List.mem_append_left _ (List.mem_map.mpr ⟨_, List.mem_of_getElem? (i := 21) rfl, rfl⟩)
theorem nf_22 : Cond.fieldLinkNest "StandInMill" 348 "StandInMill$Face" "allCount" "I" "StandInMill" ∈ NW := List.mem_append_left _ (List.mem_map.mpr ⟨_, List.mem_of_getElem? (i := 22) rfl, rfl⟩)
theorem nf_23 : Cond.fieldLinkNest "StandInMill" 351 "StandInMill$Face" "all" "[LStandInMill$OwnMethod;" "StandInMill" ∈ NW := List.mem_append_left _ (List.mem_map.mpr ⟨_, List.mem_of_getElem? (i := 23) rfl, rfl⟩)
theorem nf_24 : Cond.fieldLinkNest "StandInMill" 332 "StandInMill$Draft" "size" "I" "StandInMill" ∈ NW := List.mem_append_left _ (List.mem_map.mpr ⟨_, List.mem_of_getElem? (i := 24) rfl, rfl⟩)
theorem nf_25 : Cond.fieldLinkNest "StandInMill" 238 "StandInMill$StandIn" "pack" "I" "StandInMill" ∈ NW := List.mem_append_left _ (List.mem_map.mpr ⟨_, List.mem_of_getElem? (i := 25) rfl, rfl⟩)
theorem nf_26 : Cond.fieldLinkNest "StandInMill$Draft" 96 "StandInMill$StandMethod" "caught" "LStandInMill$ClassRow;" "StandInMill" ∈ NW := List.mem_append_left _ (List.mem_map.mpr ⟨_, List.mem_of_getElem? (i := 26) rfl, rfl⟩)
theorem nf_27 : Cond.fieldLinkNest "StandInMill$Draft" 105 "StandInMill$ClassRow" "size" "I" "StandInMill" ∈ NW := List.mem_append_left _ (List.mem_map.mpr ⟨_, List.mem_of_getElem? (i := 27) rfl, rfl⟩)
theorem nf_28 : Cond.fieldLinkNest "StandInMill" 244 "StandInMill$StandIn" "methods" "[LStandInMill$StandMethod;" "StandInMill" ∈ NW := List.mem_append_left _ (List.mem_map.mpr ⟨_, List.mem_of_getElem? (i := 28) rfl, rfl⟩)
theorem nf_29 : Cond.fieldLinkNest "StandInMill$UnitWriter" 109 "StandInMill$ClassRow" "size" "I" "StandInMill" ∈ NW := List.mem_append_left _ (List.mem_map.mpr ⟨_, List.mem_of_getElem? (i := 29) rfl, rfl⟩)
theorem nf_30 : Cond.fieldLinkNest "StandInMill$UnitWriter" 147 "StandInMill$OwnMethod" "owner" "I" "StandInMill" ∈ NW := List.mem_append_left _ (List.mem_map.mpr ⟨_, List.mem_of_getElem? (i := 30) rfl, rfl⟩)
theorem nf_31 : Cond.fieldLinkNest "StandInMill$UnitWriter" 150 "StandInMill$OwnMethod" "number" "I" "StandInMill" ∈ NW := List.mem_append_left _ (List.mem_map.mpr ⟨_, List.mem_of_getElem? (i := 31) rfl, rfl⟩)
theorem nf_32 : Cond.fieldLinkNest "StandInMill$UnitWriter" 89 "StandInMill$OwnMethod" "parameters" "I" "StandInMill" ∈ NW := List.mem_append_left _ (List.mem_map.mpr ⟨_, List.mem_of_getElem? (i := 32) rfl, rfl⟩)
theorem nf_33 : Cond.fieldLinkNest "StandInMill$UnitWriter" 92 "StandInMill$OwnMethod" "result" "I" "StandInMill" ∈ NW := List.mem_append_left _ (List.mem_map.mpr ⟨_, List.mem_of_getElem? (i := 33) rfl, rfl⟩)
theorem nf_34 : Cond.fieldLinkNest "StandInMill$UnitWriter" 74 "StandInMill$StandMethod" "source" "LStandInMill$OwnMethod;" "StandInMill" ∈ NW := List.mem_append_left _ (List.mem_map.mpr ⟨_, List.mem_of_getElem? (i := 34) rfl, rfl⟩)
theorem nf_35 : Cond.fieldLinkNest "StandInMill$UnitWriter" 80 "StandInMill$OwnMethod" "name" "I" "StandInMill" ∈ NW := List.mem_append_left _ (List.mem_map.mpr ⟨_, List.mem_of_getElem? (i := 35) rfl, rfl⟩)
theorem nf_36 : Cond.fieldLinkNest "StandInMill$UnitWriter" 98 "StandInMill$StandMethod" "thrown" "LStandInMill$ClassRow;" "StandInMill" ∈ NW := List.mem_append_left _ (List.mem_map.mpr ⟨_, List.mem_of_getElem? (i := 36) rfl, rfl⟩)
theorem nf_37 : Cond.fieldLinkNest "StandInMill$UnitWriter" 106 "StandInMill$StandMethod" "caught" "LStandInMill$ClassRow;" "StandInMill" ∈ NW := List.mem_append_left _ (List.mem_map.mpr ⟨_, List.mem_of_getElem? (i := 37) rfl, rfl⟩)
theorem nf_38 : Cond.fieldLinkNest "StandInMill$UnitWriter" 38 "StandInMill$StandIn" "pack" "I" "StandInMill" ∈ NW := List.mem_append_left _ (List.mem_map.mpr ⟨_, List.mem_of_getElem? (i := 38) rfl, rfl⟩)
theorem nf_39 : Cond.fieldLinkNest "StandInMill$UnitWriter" 47 "StandInMill$StandIn" "number" "I" "StandInMill" ∈ NW := List.mem_append_left _ (List.mem_map.mpr ⟨_, List.mem_of_getElem? (i := 39) rfl, rfl⟩)
theorem nf_40 : Cond.fieldLinkNest "StandInMill$UnitWriter" 50 "StandInMill$StandIn" "listed" "I" "StandInMill" ∈ NW := List.mem_append_left _ (List.mem_map.mpr ⟨_, List.mem_of_getElem? (i := 40) rfl, rfl⟩)
theorem nf_41 : Cond.fieldLinkNest "StandInMill$UnitWriter" 56 "StandInMill$StandIn" "methods" "[LStandInMill$StandMethod;" "StandInMill" ∈ NW := List.mem_append_left _ (List.mem_map.mpr ⟨_, List.mem_of_getElem? (i := 41) rfl, rfl⟩)
theorem nf_42 : Cond.fieldLinkNest "StandInMill" 234 "StandInMill$StandIn" "unit" "[B" "StandInMill" ∈ NW := List.mem_append_left _ (List.mem_map.mpr ⟨_, List.mem_of_getElem? (i := 42) rfl, rfl⟩)
theorem nf_43 : Cond.fieldLinkNest "StandInMill" 241 "StandInMill$StandIn" "number" "I" "StandInMill" ∈ NW := List.mem_append_left _ (List.mem_map.mpr ⟨_, List.mem_of_getElem? (i := 43) rfl, rfl⟩)
theorem nf_44 : Cond.fieldLinkNest "StandInMill" 252 "StandInMill$StandMethod" "source" "LStandInMill$OwnMethod;" "StandInMill" ∈ NW := List.mem_append_left _ (List.mem_map.mpr ⟨_, List.mem_of_getElem? (i := 44) rfl, rfl⟩)
theorem nf_45 : Cond.fieldLinkNest "StandInMill" 265 "StandInMill$OwnMethod" "name" "I" "StandInMill" ∈ NW := List.mem_append_left _ (List.mem_map.mpr ⟨_, List.mem_of_getElem? (i := 45) rfl, rfl⟩)
theorem nf_46 : Cond.fieldLinkNest "StandInMill" 268 "StandInMill$OwnMethod" "result" "I" "StandInMill" ∈ NW := List.mem_append_left _ (List.mem_map.mpr ⟨_, List.mem_of_getElem? (i := 46) rfl, rfl⟩)
theorem nf_47 : Cond.fieldLinkNest "StandInMill" 271 "StandInMill$OwnMethod" "parameters" "I" "StandInMill" ∈ NW := List.mem_append_left _ (List.mem_map.mpr ⟨_, List.mem_of_getElem? (i := 47) rfl, rfl⟩)
theorem nf_48 : Cond.fieldLinkNest "StandInMill" 277 "StandInMill$OwnMethod" "owner" "I" "StandInMill" ∈ NW := List.mem_append_left _ (List.mem_map.mpr ⟨_, List.mem_of_getElem? (i := 48) rfl, rfl⟩)
theorem nf_49 : Cond.fieldLinkNest "StandInMill" 280 "StandInMill$OwnMethod" "number" "I" "StandInMill" ∈ NW := List.mem_append_left _ (List.mem_map.mpr ⟨_, List.mem_of_getElem? (i := 49) rfl, rfl⟩)
theorem nf_50 : Cond.fieldLinkNest "StandInMill" 264 "StandInMill$StandMethod" "thrown" "LStandInMill$ClassRow;" "StandInMill" ∈ NW := List.mem_append_left _ (List.mem_map.mpr ⟨_, List.mem_of_getElem? (i := 50) rfl, rfl⟩)
theorem nf_51 : Cond.fieldLinkNest "StandInMill" 258 "StandInMill$StandMethod" "caught" "LStandInMill$ClassRow;" "StandInMill" ∈ NW := List.mem_append_left _ (List.mem_map.mpr ⟨_, List.mem_of_getElem? (i := 51) rfl, rfl⟩)
theorem nf_52 : Cond.fieldLinkNest "StandInMill" 281 "StandInMill$StandIn" "handled" "I" "StandInMill" ∈ NW := List.mem_append_left _ (List.mem_map.mpr ⟨_, List.mem_of_getElem? (i := 52) rfl, rfl⟩)
theorem nf_53 : Cond.fieldLinkNest "StandInMill" 284 "StandInMill$StandIn" "throwing" "Z" "StandInMill" ∈ NW := List.mem_append_left _ (List.mem_map.mpr ⟨_, List.mem_of_getElem? (i := 53) rfl, rfl⟩)
theorem nm_0 : Cond.methodLinkNest "StandInMill" 56 y_Uw_init "StandInMill" ∈ NW := List.mem_append_right _ (List.mem_map.mpr ⟨_, List.mem_of_getElem? (i := 0) rfl, rfl⟩)
theorem nm_1 : Cond.methodLinkNest "StandInMill$Types" 34 y_M_isWithin "StandInMill" ∈ NW := List.mem_append_right _ (List.mem_map.mpr ⟨_, List.mem_of_getElem? (i := 1) rfl, rfl⟩)
theorem nm_2 : Cond.methodLinkNest "StandInMill$Types" 31 y_M_isPlain "StandInMill" ∈ NW := List.mem_append_right _ (List.mem_map.mpr ⟨_, List.mem_of_getElem? (i := 2) rfl, rfl⟩)
theorem nm_3 : Cond.methodLinkNest "StandInMill$Draft" 72 y_Sm_init "StandInMill" ∈ NW := List.mem_append_right _ (List.mem_map.mpr ⟨_, List.mem_of_getElem? (i := 3) rfl, rfl⟩)
theorem nm_4 : Cond.methodLinkNest "StandInMill$Draft" 81 y_M_isPlain "StandInMill" ∈ NW := List.mem_append_right _ (List.mem_map.mpr ⟨_, List.mem_of_getElem? (i := 4) rfl, rfl⟩)
theorem nm_5 : Cond.methodLinkNest "StandInMill$ClassRow" 19 y_M_isWithin "StandInMill" ∈ NW := List.mem_append_right _ (List.mem_map.mpr ⟨_, List.mem_of_getElem? (i := 5) rfl, rfl⟩)
theorem nm_6 : Cond.methodLinkNest "StandInMill$UnitWriter" 118 y_M_lengthOf "StandInMill" ∈ NW := List.mem_append_right _ (List.mem_map.mpr ⟨_, List.mem_of_getElem? (i := 6) rfl, rfl⟩)
theorem nm_7 : Cond.methodLinkNest "StandInMill$UnitWriter" 122 y_M_byteOf "StandInMill" ∈ NW := List.mem_append_right _ (List.mem_map.mpr ⟨_, List.mem_of_getElem? (i := 7) rfl, rfl⟩)
theorem nm_8 : Cond.methodLinkNest "StandInMill$OwnMethod" 36 y_M_lengthOf "StandInMill" ∈ NW := List.mem_append_right _ (List.mem_map.mpr ⟨_, List.mem_of_getElem? (i := 8) rfl, rfl⟩)
theorem nm_9 : Cond.methodLinkNest "StandInMill$UnitWriter" 143 y_M_isPlain "StandInMill" ∈ NW := List.mem_append_right _ (List.mem_map.mpr ⟨_, List.mem_of_getElem? (i := 9) rfl, rfl⟩)
def wc_0 : List Cond := [.methodLink "StandInMill$Types" 3 objectInit,
  .instanceMethod objectInit,
  .code objectInit ⟨#[0xb1]⟩ 1 none,
  .arrayClass (.long),
  .fieldLink "StandInMill$Types" 11 "StandInMill$Types" "aboves" "[J",
  .fieldLink "StandInMill$Types" 15 "StandInMill$Types" "nextClass" "I",
  .methodLink "StandInMill$Types" 19 y_Ty_bit,
  .static y_Ty_bit,
  .methodLink "StandInMill$ClassRow" 3 objectInit,
  .arrayClass (.int),
  .fieldLink "StandInMill$ClassRow" 9 "StandInMill$ClassRow" "classes" "[I",
  .methodLink "StandInMill$Draft" 3 objectInit,
  .classLink "StandInMill$Draft" 9 "StandInMill$StandMethod",
  .fieldLink "StandInMill$Draft" 11 "StandInMill$Draft" "methods" "[LStandInMill$StandMethod;",
  .classLink "StandInMill$Draft" 17 "StandInMill$ClassRow",
  .instantiable "StandInMill$ClassRow" 2,
  .initialized "StandInMill$ClassRow",
  .methodLink "StandInMill$Draft" 19 y_Rw_init,
  .instanceMethod y_Rw_init,
  .fieldLink "StandInMill$Draft" 22 "StandInMill$Draft" "soFar" "LStandInMill$ClassRow;",
  .fieldLink "StandInMill$Draft" 26 "StandInMill$Draft" "types" "LStandInMill$Types;",
  .methodLink "StandInMill$UnitWriter" 5 objectInit,
  .fieldLink "StandInMill$UnitWriter" 11 "StandInMill$UnitWriter" "entryOf" "[I",
  .arrayClass (.byte),
  .fieldLink "StandInMill$UnitWriter" 15 "StandInMill$UnitWriter" "pool" "[B",
  .fieldLink "StandInMill$UnitWriter" 19 "StandInMill$UnitWriter" "body" "[B",
  .methodLink "StandInMill$OwnMethod" 3 objectInit,
  .classLink "StandInMill$OwnMethod" 9 "StandInMill$ClassRow",
  .methodLink "StandInMill$OwnMethod" 11 y_Rw_init,
  .fieldLink "StandInMill$OwnMethod" 14 "StandInMill$OwnMethod" "thrown" "LStandInMill$ClassRow;",
  .fieldLink "StandInMill$OwnMethod" 20 "StandInMill$OwnMethod" "owner" "I",
  .fieldLink "StandInMill$OwnMethod" 24 "StandInMill$OwnMethod" "number" "I",
  .fieldLink "StandInMill$OwnMethod" 27 "StandInMill$OwnMethod" "name" "I",
  .fieldLink "StandInMill$OwnMethod" 30 "StandInMill$OwnMethod" "parameters" "I",
  .fieldLink "StandInMill$OwnMethod" 33 "StandInMill$OwnMethod" "result" "I",
  .methodLink "StandInMill" 1 objectInit,
  .classLink "StandInMill" 7 "StandInMill$Types",
  .instantiable "StandInMill$Types" 2,
  .initialized "StandInMill$Types",
  .methodLink "StandInMill" 9 y_Ty_init]
def wc_1 : List Cond := [.instanceMethod y_Ty_init,
  .fieldLink "StandInMill" 10 "StandInMill" "types" "LStandInMill$Types;",
  .fieldLink "StandInMill" 16 "StandInMill" "loaderParents" "[I",
  .classLink "StandInMill" 20 "StandInMill$Face",
  .fieldLink "StandInMill" 22 "StandInMill" "faces" "[LStandInMill$Face;",
  .fieldLink "StandInMill" 26 "StandInMill" "objectTypes" "[I",
  .fieldLink "StandInMill" 29 "StandInMill" "objectValues" "[J",
  .classLink "StandInMill" 33 "StandInMill$OwnMethod",
  .fieldLink "StandInMill" 35 "StandInMill" "rootMethods" "[LStandInMill$OwnMethod;",
  .classLink "StandInMill" 39 "StandInMill$StandIn",
  .fieldLink "StandInMill" 41 "StandInMill" "stands" "[LStandInMill$StandIn;",
  .classLink "StandInMill" 45 "StandInMill$Draft",
  .instantiable "StandInMill$Draft" 4,
  .initialized "StandInMill$Draft",
  .methodLink "StandInMill" 47 y_Dr_init,
  .instanceMethod y_Dr_init,
  .fieldLink "StandInMill" 50 "StandInMill" "draft" "LStandInMill$Draft;",
  .classLink "StandInMill" 54 "StandInMill$UnitWriter",
  .instantiable "StandInMill$UnitWriter" 6,
  .initialized "StandInMill$UnitWriter",
  .instanceMethod y_Uw_init,
  .fieldLink "StandInMill" 57 "StandInMill" "writer" "LStandInMill$UnitWriter;",
  .constantLong "StandInMill" 61 (-1),
  .fieldLink "StandInMill" 63 "StandInMill" "latestOutcome" "J",
  .fieldLink "StandInMill" 67 "StandInMill" "given" "[J",
  .fieldLink "StandInMill" 70 "StandInMill" "seenRow" "[J",
  .fieldLink "StandInMill" 73 "StandInMill" "loaderCount" "I",
  .instantiable "StandInMill$OwnMethod" 6,
  .initialized "StandInMill$OwnMethod",
  .methodLink "StandInMill" 77 y_Om_init,
  .instanceMethod y_Om_init,
  .methodLink "StandInMill" 80 y_Ar_fillJ,
  .static y_Ar_fillJ,
  .methodLink "StandInMill" 94 y_M_isWithin,
  .static y_M_isWithin,
  .methodLink "StandInMill" 86 y_M_isLoader,
  .instanceMethod y_M_isLoader,
  .selects "StandInMill" y_M_isLoader y_M_isLoader,
  .methodLink "StandInMill$Types" 23 y_Ty_isClass,
  .instanceMethod y_Ty_isClass]
def wc_2 : List Cond := [.selects "StandInMill$Types" y_Ty_isClass y_Ty_isClass,
  .methodLink "StandInMill" 90 y_Ty_addClass,
  .instanceMethod y_Ty_addClass,
  .selects "StandInMill$Types" y_Ty_addClass y_Ty_addClass,
  .fieldLink "StandInMill" 102 "StandInMill" "faceCount" "I",
  .methodLink "StandInMill" 311 y_M_faceMadeBy,
  .instanceMethod y_M_faceMadeBy,
  .selects "StandInMill" y_M_faceMadeBy y_M_faceMadeBy,
  .methodLink "StandInMill$Face" 3 objectInit,
  .fieldLink "StandInMill$Face" 9 "StandInMill$Face" "parents" "[I",
  .classLink "StandInMill$Face" 15 "StandInMill$OwnMethod",
  .fieldLink "StandInMill$Face" 17 "StandInMill$Face" "own" "[LStandInMill$OwnMethod;",
  .fieldLink "StandInMill$Face" 21 "StandInMill$Face" "all" "[LStandInMill$OwnMethod;",
  .fieldLink "StandInMill$Face" 24 "StandInMill$Face" "loader" "I",
  .fieldLink "StandInMill$Face" 28 "StandInMill$Face" "name" "I",
  .fieldLink "StandInMill$Face" 31 "StandInMill$Face" "pack" "I",
  .fieldLink "StandInMill$Face" 34 "StandInMill$Face" "open" "Z",
  .methodLink "StandInMill" 98 y_M_faceFoundBy,
  .instanceMethod y_M_faceFoundBy,
  .selects "StandInMill" y_M_faceFoundBy y_M_faceFoundBy,
  .instantiable "StandInMill$Face" 10,
  .initialized "StandInMill$Face",
  .methodLink "StandInMill" 105 y_Fc_init,
  .instanceMethod y_Fc_init,
  .methodLink "StandInMill" 108 y_Ty_addFace,
  .instanceMethod y_Ty_addFace,
  .selects "StandInMill$Types" y_Ty_addFace y_Ty_addFace,
  .fieldLink "StandInMill$Face" 38 "StandInMill$Face" "parentCount" "I",
  .methodLink "StandInMill$Types" 27 y_Ty_isBelow,
  .instanceMethod y_Ty_isBelow,
  .selects "StandInMill$Types" y_Ty_isBelow y_Ty_isBelow,
  .fieldLink "StandInMill" 112 "StandInMill" "standCount" "I",
  .methodLink "StandInMill" 115 y_M_isFace,
  .instanceMethod y_M_isFace,
  .selects "StandInMill" y_M_isFace y_M_isFace,
  .methodLink "StandInMill" 118 y_Fc_hasParent,
  .instanceMethod y_Fc_hasParent,
  .selects "StandInMill$Face" y_Fc_hasParent y_Fc_hasParent,
  .methodLink "StandInMill" 127 y_M_isVisible,
  .instanceMethod y_M_isVisible]
def wc_3 : List Cond := [.selects "StandInMill" y_M_isVisible y_M_isVisible,
  .methodLink "StandInMill" 130 y_Fc_addParent,
  .instanceMethod y_Fc_addParent,
  .selects "StandInMill$Face" y_Fc_addParent y_Fc_addParent,
  .methodLink "StandInMill" 133 y_Ty_putBelow,
  .instanceMethod y_Ty_putBelow,
  .selects "StandInMill$Types" y_Ty_putBelow y_Ty_putBelow,
  .fieldLink "StandInMill" 137 "StandInMill" "gathered" "Z",
  .methodLink "StandInMill" 274 y_M_byteOf,
  .static y_M_byteOf,
  .static y_M_isPlain,
  .methodLink "StandInMill" 305 y_Ty_isThere,
  .instanceMethod y_Ty_isThere,
  .selects "StandInMill$Types" y_Ty_isThere y_Ty_isThere,
  .methodLink "StandInMill" 308 y_M_lengthOf,
  .static y_M_lengthOf,
  .fieldLink "StandInMill$Face" 41 "StandInMill$Face" "ownCount" "I",
  .methodLink "StandInMill" 141 y_M_cutAtZero,
  .static y_M_cutAtZero,
  .methodLink "StandInMill" 144 y_M_isResult,
  .instanceMethod y_M_isResult,
  .selects "StandInMill" y_M_isResult y_M_isResult,
  .methodLink "StandInMill" 147 y_M_areParameters,
  .instanceMethod y_M_areParameters,
  .selects "StandInMill" y_M_areParameters y_M_areParameters,
  .methodLink "StandInMill" 153 y_Fc_hasOwn,
  .instanceMethod y_Fc_hasOwn,
  .selects "StandInMill$Face" y_Fc_hasOwn y_Fc_hasOwn,
  .methodLink "StandInMill" 156 y_Fc_addOwn,
  .instanceMethod y_Fc_addOwn,
  .selects "StandInMill$Face" y_Fc_addOwn y_Fc_addOwn,
  .fieldLink "StandInMill$ClassRow" 15 "StandInMill$ClassRow" "size" "I",
  .methodLink "StandInMill$ClassRow" 23 y_Rw_has,
  .instanceMethod y_Rw_has,
  .selects "StandInMill$ClassRow" y_Rw_has y_Rw_has,
  .methodLink "StandInMill" 160 y_Ty_isClass,
  .methodLink "StandInMill" 170 y_Rw_has,
  .methodLink "StandInMill" 178 y_Rw_add,
  .instanceMethod y_Rw_add,
  .selects "StandInMill$ClassRow" y_Rw_add y_Rw_add]
def wc_4 : List Cond := [.fieldLink "StandInMill" 184 "StandInMill" "objectCount" "I",
  .methodLink "StandInMill" 181 y_M_isBox,
  .static y_M_isBox,
  .methodLink "StandInMill" 187 y_M_fitted,
  .static y_M_fitted,
  .methodLink "StandInMill" 191 y_Ty_isBelow,
  .methodLink "StandInMill" 333 y_M_packageOf,
  .instanceMethod y_M_packageOf,
  .selects "StandInMill" y_M_packageOf y_M_packageOf,
  .methodLink "StandInMill" 319 y_M_areVisible,
  .instanceMethod y_M_areVisible,
  .selects "StandInMill" y_M_areVisible y_M_areVisible,
  .methodLink "StandInMill" 322 y_M_hasTwice,
  .static y_M_hasTwice,
  .methodLink "StandInMill" 325 y_M_isInTwoPackages,
  .instanceMethod y_M_isInTwoPackages,
  .selects "StandInMill" y_M_isInTwoPackages y_M_isInTwoPackages,
  .fieldLink "StandInMill$Face" 48 "StandInMill$Face" "allCount" "I",
  .methodLink "StandInMill$Face" 51 y_Fc_gather,
  .instanceMethod y_Fc_gather,
  .selects "StandInMill$Face" y_Fc_gather y_Fc_gather,
  .methodLink "StandInMill$Face" 55 y_Fc_hasOwn,
  .methodLink "StandInMill" 354 y_Fc_gatherOwn,
  .instanceMethod y_Fc_gatherOwn,
  .selects "StandInMill$Face" y_Fc_gatherOwn y_Fc_gatherOwn,
  .methodLink "StandInMill" 360 y_Fc_gatherFrom,
  .instanceMethod y_Fc_gatherFrom,
  .selects "StandInMill$Face" y_Fc_gatherFrom y_Fc_gatherFrom,
  .fieldLink "StandInMill$Draft" 30 "StandInMill$Draft" "size" "I",
  .methodLink "StandInMill$ClassRow" 27 y_Rw_clear,
  .instanceMethod y_Rw_clear,
  .selects "StandInMill$ClassRow" y_Rw_clear y_Rw_clear,
  .methodLink "StandInMill$ClassRow" 30 y_Rw_add,
  .methodLink "StandInMill$Types" 46 y_Ty_isBelowOneOf,
  .instanceMethod y_Ty_isBelowOneOf,
  .selects "StandInMill$Types" y_Ty_isBelowOneOf y_Ty_isBelowOneOf,
  .methodLink "StandInMill$Types" 50 y_Rw_add,
  .methodLink "StandInMill$Draft" 59 y_Rw_copyFrom,
  .instanceMethod y_Rw_copyFrom,
  .selects "StandInMill$ClassRow" y_Rw_copyFrom y_Rw_copyFrom]
def wc_5 : List Cond := [.methodLink "StandInMill$Draft" 63 y_Rw_clear,
  .methodLink "StandInMill$Draft" 66 y_Ty_addBelow,
  .instanceMethod y_Ty_addBelow,
  .selects "StandInMill$Types" y_Ty_addBelow y_Ty_addBelow,
  .methodLink "StandInMill$StandMethod" 3 objectInit,
  .classLink "StandInMill$StandMethod" 9 "StandInMill$ClassRow",
  .methodLink "StandInMill$StandMethod" 11 y_Rw_init,
  .fieldLink "StandInMill$StandMethod" 14 "StandInMill$StandMethod" "thrown" "LStandInMill$ClassRow;",
  .fieldLink "StandInMill$StandMethod" 20 "StandInMill$StandMethod" "caught" "LStandInMill$ClassRow;",
  .instantiable "StandInMill$StandMethod" 3,
  .initialized "StandInMill$StandMethod",
  .instanceMethod y_Sm_init,
  .methodLink "StandInMill$Draft" 38 y_Om_hasSignatureOf,
  .instanceMethod y_Om_hasSignatureOf,
  .selects "StandInMill$OwnMethod" y_Om_hasSignatureOf y_Om_hasSignatureOf,
  .methodLink "StandInMill$Draft" 51 y_Dr_narrow,
  .instanceMethod y_Dr_narrow,
  .selects "StandInMill$Draft" y_Dr_narrow y_Dr_narrow,
  .methodLink "StandInMill$Draft" 55 y_Dr_insert,
  .instanceMethod y_Dr_insert,
  .selects "StandInMill$Draft" y_Dr_insert y_Dr_insert,
  .methodLink "StandInMill" 342 y_Dr_clear,
  .instanceMethod y_Dr_clear,
  .selects "StandInMill$Draft" y_Dr_clear y_Dr_clear,
  .methodLink "StandInMill" 345 y_Dr_take,
  .instanceMethod y_Dr_take,
  .selects "StandInMill$Draft" y_Dr_take y_Dr_take,
  .methodLink "StandInMill" 339 y_M_gatherMethods,
  .instanceMethod y_M_gatherMethods,
  .selects "StandInMill" y_M_gatherMethods y_M_gatherMethods,
  .methodLink "StandInMill$Draft" 89 y_Ty_isBelow,
  .methodLink "StandInMill$Draft" 85 y_Dr_isBelowAll,
  .instanceMethod y_Dr_isBelowAll,
  .selects "StandInMill$Draft" y_Dr_isBelowAll y_Dr_isBelowAll,
  .methodLink "StandInMill$Draft" 73 y_Dr_endOfSignature,
  .instanceMethod y_Dr_endOfSignature,
  .selects "StandInMill$Draft" y_Dr_endOfSignature y_Dr_endOfSignature,
  .methodLink "StandInMill$Draft" 77 y_Dr_resultsAgreeWithin,
  .instanceMethod y_Dr_resultsAgreeWithin,
  .selects "StandInMill$Draft" y_Dr_resultsAgreeWithin y_Dr_resultsAgreeWithin]
def wc_6 : List Cond := [.methodLink "StandInMill" 328 y_Dr_resultsAgree,
  .instanceMethod y_Dr_resultsAgree,
  .selects "StandInMill$Draft" y_Dr_resultsAgree y_Dr_resultsAgree,
  .methodLink "StandInMill$StandIn" 3 objectInit,
  .fieldLink "StandInMill$StandIn" 9 "StandInMill$StandIn" "handled" "I",
  .fieldLink "StandInMill$StandIn" 15 "StandInMill$StandIn" "loader" "I",
  .fieldLink "StandInMill$StandIn" 18 "StandInMill$StandIn" "listed" "I",
  .fieldLink "StandInMill$StandIn" 21 "StandInMill$StandIn" "pack" "I",
  .fieldLink "StandInMill$StandIn" 24 "StandInMill$StandIn" "number" "I",
  .classLink "StandInMill$StandIn" 27 "StandInMill$StandMethod",
  .fieldLink "StandInMill$StandIn" 29 "StandInMill$StandIn" "methods" "[LStandInMill$StandMethod;",
  .methodLink "StandInMill$Draft" 99 y_Rw_has,
  .methodLink "StandInMill$Draft" 102 y_Rw_add,
  .methodLink "StandInMill$Draft" 106 y_Rw_at,
  .instanceMethod y_Rw_at,
  .selects "StandInMill$ClassRow" y_Rw_at y_Rw_at,
  .methodLink "StandInMill$Draft" 109 y_Ty_isBelowOneOf,
  .methodLink "StandInMill$Draft" 113 y_Ty_dropBelow,
  .instanceMethod y_Ty_dropBelow,
  .selects "StandInMill$Types" y_Ty_dropBelow y_Ty_dropBelow,
  .methodLink "StandInMill$Draft" 92 y_Dr_fillCaught,
  .instanceMethod y_Dr_fillCaught,
  .selects "StandInMill$Draft" y_Dr_fillCaught y_Dr_fillCaught,
  .instantiable "StandInMill$StandIn" 8,
  .initialized "StandInMill$StandIn",
  .methodLink "StandInMill" 364 y_M_standsOfPackage,
  .instanceMethod y_M_standsOfPackage,
  .selects "StandInMill" y_M_standsOfPackage y_M_standsOfPackage,
  .methodLink "StandInMill" 367 y_Si_init,
  .instanceMethod y_Si_init,
  .methodLink "StandInMill" 368 y_Dr_handOver,
  .instanceMethod y_Dr_handOver,
  .selects "StandInMill$Draft" y_Dr_handOver y_Dr_handOver,
  .fieldLink "StandInMill$UnitWriter" 35 "StandInMill$UnitWriter" "bodySize" "I",
  .fieldLink "StandInMill$UnitWriter" 32 "StandInMill$UnitWriter" "poolSize" "I",
  .methodLink "StandInMill$UnitWriter" 43 y_Uw_put,
  .instanceMethod y_Uw_put,
  .selects "StandInMill$UnitWriter" y_Uw_put y_Uw_put,
  .fieldLink "StandInMill$UnitWriter" 28 "StandInMill$UnitWriter" "entryCount" "I",
  .methodLink "StandInMill$UnitWriter" 151 y_Uw_putInPool]
def wc_7 : List Cond := [.instanceMethod y_Uw_putInPool,
  .selects "StandInMill$UnitWriter" y_Uw_putInPool y_Uw_putInPool,
  .methodLink "StandInMill$UnitWriter" 85 y_Uw_putEntry,
  .instanceMethod y_Uw_putEntry,
  .selects "StandInMill$UnitWriter" y_Uw_putEntry y_Uw_putEntry,
  .methodLink "StandInMill$UnitWriter" 95 y_Uw_putType,
  .instanceMethod y_Uw_putType,
  .selects "StandInMill$UnitWriter" y_Uw_putType y_Uw_putType,
  .methodLink "StandInMill$UnitWriter" 126 y_Rw_at,
  .methodLink "StandInMill$UnitWriter" 133 y_Om_parameterCount,
  .instanceMethod y_Om_parameterCount,
  .selects "StandInMill$OwnMethod" y_Om_parameterCount y_Om_parameterCount,
  .methodLink "StandInMill$UnitWriter" 129 y_Uw_putMethodEntry,
  .instanceMethod y_Uw_putMethodEntry,
  .selects "StandInMill$UnitWriter" y_Uw_putMethodEntry y_Uw_putMethodEntry,
  .methodLink "StandInMill$UnitWriter" 137 y_Uw_putParameterCode,
  .instanceMethod y_Uw_putParameterCode,
  .selects "StandInMill$UnitWriter" y_Uw_putParameterCode y_Uw_putParameterCode,
  .methodLink "StandInMill$UnitWriter" 140 y_Uw_putResultCode,
  .instanceMethod y_Uw_putResultCode,
  .selects "StandInMill$UnitWriter" y_Uw_putResultCode y_Uw_putResultCode,
  .methodLink "StandInMill$UnitWriter" 53 y_Uw_putTypes,
  .instanceMethod y_Uw_putTypes,
  .selects "StandInMill$UnitWriter" y_Uw_putTypes y_Uw_putTypes,
  .methodLink "StandInMill$UnitWriter" 102 y_Uw_putRow,
  .instanceMethod y_Uw_putRow,
  .selects "StandInMill$UnitWriter" y_Uw_putRow y_Uw_putRow,
  .methodLink "StandInMill$UnitWriter" 114 y_Uw_putCode,
  .instanceMethod y_Uw_putCode,
  .selects "StandInMill$UnitWriter" y_Uw_putCode y_Uw_putCode,
  .methodLink "StandInMill$UnitWriter" 68 arraycopyName,
  .native arraycopyName,
  .static arraycopyName,
  .initialized "java/lang/System",
  .methodLink "StandInMill$UnitWriter" 22 y_Ar_fillI,
  .static y_Ar_fillI,
  .methodLink "StandInMill$UnitWriter" 60 y_Uw_putMethod,
  .instanceMethod y_Uw_putMethod,
  .selects "StandInMill$UnitWriter" y_Uw_putMethod y_Uw_putMethod,
  .methodLink "StandInMill$UnitWriter" 64 y_Uw_joined]
def wc_8 : List Cond := [.instanceMethod y_Uw_joined,
  .selects "StandInMill$UnitWriter" y_Uw_joined y_Uw_joined,
  .fieldLink "StandInMill" 194 "StandInMill" "latestFault" "I",
  .methodLink "StandInMill" 197 y_M_areFaces,
  .instanceMethod y_M_areFaces,
  .selects "StandInMill" y_M_areFaces y_M_areFaces,
  .methodLink "StandInMill" 207 y_M_standMadeFor,
  .instanceMethod y_M_standMadeFor,
  .selects "StandInMill" y_M_standMadeFor y_M_standMadeFor,
  .methodLink "StandInMill" 211 y_M_faultOfList,
  .instanceMethod y_M_faultOfList,
  .selects "StandInMill" y_M_faultOfList y_M_faultOfList,
  .methodLink "StandInMill" 226 y_M_madeOfDraft,
  .instanceMethod y_M_madeOfDraft,
  .selects "StandInMill" y_M_madeOfDraft y_M_madeOfDraft,
  .methodLink "StandInMill" 230 y_Uw_write,
  .instanceMethod y_Uw_write,
  .selects "StandInMill$UnitWriter" y_Uw_write y_Uw_write,
  .methodLink "StandInMill" 214 y_M_fillDraft,
  .instanceMethod y_M_fillDraft,
  .selects "StandInMill" y_M_fillDraft y_M_fillDraft,
  .methodLink "StandInMill" 217 y_M_faultOfDraft,
  .instanceMethod y_M_faultOfDraft,
  .selects "StandInMill" y_M_faultOfDraft y_M_faultOfDraft,
  .classLink "StandInMill" 200 "java/lang/IndexOutOfBoundsException",
  .instantiable "java/lang/IndexOutOfBoundsException" 6,
  .initialized "java/lang/IndexOutOfBoundsException",
  .classLink "StandInMill" 221 "java/lang/IllegalArgumentException",
  .instantiable "java/lang/IllegalArgumentException" 6,
  .initialized "java/lang/IllegalArgumentException",
  .methodLink "StandInMill" 249 y_M_hasMethod,
  .instanceMethod y_M_hasMethod,
  .selects "StandInMill" y_M_hasMethod y_M_hasMethod,
  .methodLink "StandInMill" 261 y_Rw_at,
  .methodLink "StandInMill" 372 y_Om_parameterCount,
  .methodLink "StandInMill" 375 y_M_isPlain,
  .methodLink "StandInMill" 378 y_M_isObjectBelow,
  .instanceMethod y_M_isObjectBelow,
  .selects "StandInMill" y_M_isObjectBelow y_M_isObjectBelow,
  .methodLink "StandInMill" 382 y_M_showObject]
def wc_9 : List Cond := [.instanceMethod y_M_showObject,
  .selects "StandInMill" y_M_showObject y_M_showObject,
  .methodLink "StandInMill" 385 y_Ty_isBelowOneOf,
  .methodLink "StandInMill" 289 y_M_takesGiven,
  .instanceMethod y_M_takesGiven,
  .selects "StandInMill" y_M_takesGiven y_M_takesGiven,
  .methodLink "StandInMill" 295 y_M_showHandler,
  .instanceMethod y_M_showHandler,
  .selects "StandInMill" y_M_showHandler y_M_showHandler,
  .methodLink "StandInMill" 302 y_M_fitAnswer,
  .instanceMethod y_M_fitAnswer,
  .selects "StandInMill" y_M_fitAnswer y_M_fitAnswer,
  .methodLink "StandInMill" 298 y_M_fitThrown,
  .instanceMethod y_M_fitThrown,
  .selects "StandInMill" y_M_fitThrown y_M_fitThrown,
  .methodLink "StandInMillModel" 1 objectInit,
  .fieldLink "StandInMillModel" 7 "StandInMillModel" "thrownCode" "I",
  .fieldLink "StandInMillModel" 13 "StandInMillModel" "loaders" "I",
  .fieldLink "StandInMillModel" 16 "StandInMillModel" "parentLoader" "[I",
  .fieldLink "StandInMillModel" 20 "StandInMillModel" "classes" "I",
  .fieldLink "StandInMillModel" 23 "StandInMillModel" "parentClass" "[I",
  .fieldLink "StandInMillModel" 26 "StandInMillModel" "faces" "I",
  .fieldLink "StandInMillModel" 29 "StandInMillModel" "faceLoader" "[I",
  .fieldLink "StandInMillModel" 32 "StandInMillModel" "faceName" "[I",
  .fieldLink "StandInMillModel" 35 "StandInMillModel" "facePack" "[I",
  .arrayClass (.boolean),
  .fieldLink "StandInMillModel" 38 "StandInMillModel" "faceOpen" "[Z",
  .fieldLink "StandInMillModel" 42 "StandInMillModel" "faceParents" "[I",
  .fieldLink "StandInMillModel" 45 "StandInMillModel" "parentCount" "[I",
  .fieldLink "StandInMillModel" 48 "StandInMillModel" "ownCount" "[I",
  .fieldLink "StandInMillModel" 51 "StandInMillModel" "name" "[I",
  .fieldLink "StandInMillModel" 54 "StandInMillModel" "result" "[I",
  .fieldLink "StandInMillModel" 57 "StandInMillModel" "takes" "[I",
  .fieldLink "StandInMillModel" 60 "StandInMillModel" "throwCount" "[I",
  .fieldLink "StandInMillModel" 63 "StandInMillModel" "throwsOf" "[I",
  .fieldLink "StandInMillModel" 66 "StandInMillModel" "objects" "I",
  .fieldLink "StandInMillModel" 69 "StandInMillModel" "objectType" "[I",
  .fieldLink "StandInMillModel" 72 "StandInMillModel" "objectValue" "[J",
  .fieldLink "StandInMillModel" 76 "StandInMillModel" "stands" "I",
  .fieldLink "StandInMillModel" 79 "StandInMillModel" "standLoader" "[I"]
def wc_10 : List Cond := [.fieldLink "StandInMillModel" 82 "StandInMillModel" "standList" "[I",
  .fieldLink "StandInMillModel" 85 "StandInMillModel" "standPack" "[I",
  .fieldLink "StandInMillModel" 88 "StandInMillModel" "standNumber" "[I",
  .fieldLink "StandInMillModel" 91 "StandInMillModel" "handler" "[I",
  .fieldLink "StandInMillModel" 94 "StandInMillModel" "handlerThrows" "[Z",
  .fieldLink "StandInMillModel" 97 "StandInMillModel" "faultNow" "I",
  .fieldLink "StandInMillModel" 100 "StandInMillModel" "all" "[I",
  .fieldLink "StandInMillModel" 103 "StandInMillModel" "allCount" "[I",
  .fieldLink "StandInMillModel" 106 "StandInMillModel" "founds" "I",
  .fieldLink "StandInMillModel" 109 "StandInMillModel" "found" "[I",
  .fieldLink "StandInMillModel" 112 "StandInMillModel" "may" "[I",
  .fieldLink "StandInMillModel" 115 "StandInMillModel" "mayCount" "[I",
  .fieldLink "StandInMillModel" 118 "StandInMillModel" "before" "[I",
  .fieldLink "StandInMillModel" 121 "StandInMillModel" "order" "[I",
  .fieldLink "StandInMillModel" 124 "StandInMillModel" "caughts" "I",
  .fieldLink "StandInMillModel" 127 "StandInMillModel" "caught" "[I",
  .fieldLink "StandInMillModel" 130 "StandInMillModel" "behind" "[I",
  .fieldLink "StandInMillModel" 133 "StandInMillModel" "behinds" "I",
  .fieldLink "StandInMillModel" 136 "StandInMillModel" "pool" "[I",
  .fieldLink "StandInMillModel" 139 "StandInMillModel" "pools" "I",
  .constantLong "StandInMillModel" 142 (-1),
  .fieldLink "StandInMillModel" 144 "StandInMillModel" "outcomeNow" "J",
  .fieldLink "StandInMillModel" 148 "StandInMillModel" "seenNow" "[J",
  .fieldLink "StandInMillModel" 151 "StandInMillModel" "argType" "[I",
  .fieldLink "StandInMillModel" 154 "StandInMillModel" "argValue" "[J",
  .methodLink "StandInMillModel" 157 y_R_isPlain,
  .static y_R_isPlain,
  .methodLink "StandInMillModel" 161 y_R_isClass,
  .instanceMethod y_R_isClass,
  .selects "StandInMillModel" y_R_isClass y_R_isClass,
  .methodLink "StandInMillModel" 164 y_R_isFace,
  .instanceMethod y_R_isFace,
  .selects "StandInMillModel" y_R_isFace y_R_isFace,
  .methodLink "StandInMillModel" 167 y_R_isBox,
  .static y_R_isBox,
  .methodLink "StandInMillModel" 170 y_R_there,
  .instanceMethod y_R_there,
  .selects "StandInMillModel" y_R_there y_R_there,
  .methodLink "StandInMillModel" 173 y_R_madeBy,
  .instanceMethod y_R_madeBy]
def wc_11 : List Cond := [.selects "StandInMillModel" y_R_madeBy y_R_madeBy,
  .methodLink "StandInMillModel" 177 y_R_finds,
  .instanceMethod y_R_finds,
  .selects "StandInMillModel" y_R_finds y_R_finds,
  .methodLink "StandInMillModel" 180 y_R_sameSignature,
  .instanceMethod y_R_sameSignature,
  .selects "StandInMillModel" y_R_sameSignature y_R_sameSignature,
  .methodLink "StandInMillModel" 184 y_R_isBelow,
  .instanceMethod y_R_isBelow,
  .selects "StandInMillModel" y_R_isBelow y_R_isBelow,
  .methodLink "StandInMillModel" 187 y_R_belowOneOf,
  .instanceMethod y_R_belowOneOf,
  .selects "StandInMillModel" y_R_belowOneOf y_R_belowOneOf,
  .methodLink "StandInMillModel" 190 y_R_listMethods,
  .instanceMethod y_R_listMethods,
  .selects "StandInMillModel" y_R_listMethods y_R_listMethods,
  .methodLink "StandInMillModel" 193 y_R_add,
  .instanceMethod y_R_add,
  .selects "StandInMillModel" y_R_add y_R_add,
  .methodLink "StandInMillModel" 197 y_R_merge,
  .instanceMethod y_R_merge,
  .selects "StandInMillModel" y_R_merge y_R_merge,
  .methodLink "StandInMillModel" 201 y_R_visible,
  .instanceMethod y_R_visible,
  .selects "StandInMillModel" y_R_visible y_R_visible,
  .methodLink "StandInMillModel" 204 y_R_describe,
  .instanceMethod y_R_describe,
  .selects "StandInMillModel" y_R_describe y_R_describe,
  .methodLink "StandInMillModel" 207 y_R_wrongResults,
  .instanceMethod y_R_wrongResults,
  .selects "StandInMillModel" y_R_wrongResults y_R_wrongResults,
  .methodLink "StandInMillModel" 210 y_R_say,
  .instanceMethod y_R_say,
  .selects "StandInMillModel" y_R_say y_R_say,
  .methodLink "StandInMillModel" 213 y_R_owner,
  .static y_R_owner,
  .methodLink "StandInMillModel" 217 y_R_numberOf,
  .static y_R_numberOf,
  .methodLink "StandInMillModel" 220 y_R_entry,
  .instanceMethod y_R_entry]
def wc_12 : List Cond := [.selects "StandInMillModel" y_R_entry y_R_entry,
  .methodLink "StandInMillModel" 223 y_R_takesCount,
  .instanceMethod y_R_takesCount,
  .selects "StandInMillModel" y_R_takesCount y_R_takesCount,
  .methodLink "StandInMillModel" 226 y_R_sayCode,
  .instanceMethod y_R_sayCode,
  .selects "StandInMillModel" y_R_sayCode y_R_sayCode,
  .methodLink "StandInMillModel" 229 y_R_catchFor,
  .instanceMethod y_R_catchFor,
  .selects "StandInMillModel" y_R_catchFor y_R_catchFor,
  .methodLink "StandInMillModel" 232 y_R_sayMethod,
  .instanceMethod y_R_sayMethod,
  .selects "StandInMillModel" y_R_sayMethod y_R_sayMethod,
  .methodLink "StandInMillModel" 235 y_R_fitted,
  .static y_R_fitted,
  .methodLink "StandInMillModel" 239 y_R_cleaned,
  .instanceMethod y_R_cleaned,
  .selects "StandInMillModel" y_R_cleaned y_R_cleaned,
  .methodLink "StandInMillModel" 242 y_R_faultOf,
  .instanceMethod y_R_faultOf,
  .selects "StandInMillModel" y_R_faultOf y_R_faultOf,
  .methodLink "StandInMillModel" 246 y_R_isStand,
  .instanceMethod y_R_isStand,
  .selects "StandInMillModel" y_R_isStand y_R_isStand,
  .methodLink "StandInMillModel" 249 y_R_unit,
  .instanceMethod y_R_unit,
  .selects "StandInMillModel" y_R_unit y_R_unit,
  .methodLink "StandInMillModel" 252 y_R_poolBytes,
  .instanceMethod y_R_poolBytes,
  .selects "StandInMillModel" y_R_poolBytes y_R_poolBytes,
  .methodLink "StandInMillModel" 256 y_R_unitByte,
  .instanceMethod y_R_unitByte,
  .selects "StandInMillModel" y_R_unitByte y_R_unitByte,
  .methodLink "StandInMillModel" 263 y_R_fit,
  .instanceMethod y_R_fit,
  .selects "StandInMillModel" y_R_fit y_R_fit,
  .methodLink "StandInMillModel" 259 y_R_takesAs,
  .instanceMethod y_R_takesAs,
  .selects "StandInMillModel" y_R_takesAs y_R_takesAs,
  .classLink "StandInMillLaw" 8 "StandInMill"]
def wc_13 : List Cond := [.instantiable "StandInMill" 18,
  .initialized "StandInMill",
  .methodLink "StandInMillLaw" 21 y_M_init,
  .instanceMethod y_M_init,
  .classLink "StandInMillLaw" 22 "StandInMillModel",
  .instantiable "StandInMillModel" 47,
  .initialized "StandInMillModel",
  .methodLink "StandInMillLaw" 24 y_R_init,
  .instanceMethod y_R_init,
  .methodLink "StandInMillLaw" 25 y_M_loader,
  .instanceMethod y_M_loader,
  .selects "StandInMill" y_M_loader y_M_loader,
  .methodLink "StandInMillLaw" 29 y_R_loader,
  .instanceMethod y_R_loader,
  .selects "StandInMillModel" y_R_loader y_R_loader,
  .methodLink "StandInMillLaw" 30 y_M_type,
  .instanceMethod y_M_type,
  .selects "StandInMill" y_M_type y_M_type,
  .methodLink "StandInMillLaw" 33 y_R_type,
  .instanceMethod y_R_type,
  .selects "StandInMillModel" y_R_type y_R_type,
  .methodLink "StandInMillLaw" 34 y_M_face,
  .instanceMethod y_M_face,
  .selects "StandInMill" y_M_face y_M_face,
  .methodLink "StandInMillLaw" 38 y_R_face,
  .instanceMethod y_R_face,
  .selects "StandInMillModel" y_R_face y_R_face,
  .methodLink "StandInMillLaw" 39 y_M_extend,
  .instanceMethod y_M_extend,
  .selects "StandInMill" y_M_extend y_M_extend,
  .methodLink "StandInMillLaw" 43 y_R_extend,
  .instanceMethod y_R_extend,
  .selects "StandInMillModel" y_R_extend y_R_extend,
  .methodLink "StandInMillLaw" 44 y_M_method,
  .instanceMethod y_M_method,
  .selects "StandInMill" y_M_method y_M_method,
  .methodLink "StandInMillLaw" 48 y_R_method,
  .instanceMethod y_R_method,
  .selects "StandInMillModel" y_R_method y_R_method,
  .methodLink "StandInMillLaw" 49 y_M_throwing]
def wc_14 : List Cond := [.instanceMethod y_M_throwing,
  .selects "StandInMill" y_M_throwing y_M_throwing,
  .methodLink "StandInMillLaw" 53 y_R_throwing,
  .instanceMethod y_R_throwing,
  .selects "StandInMillModel" y_R_throwing y_R_throwing,
  .constantLong "StandInMillLaw" 54 4294967295,
  .methodLink "StandInMillLaw" 56 y_M_object,
  .instanceMethod y_M_object,
  .selects "StandInMill" y_M_object y_M_object,
  .methodLink "StandInMillLaw" 60 y_R_object,
  .instanceMethod y_R_object,
  .selects "StandInMillModel" y_R_object y_R_object,
  .methodLink "StandInMillLaw" 61 y_M_value,
  .instanceMethod y_M_value,
  .selects "StandInMill" y_M_value y_M_value,
  .methodLink "StandInMillLaw" 65 y_R_value,
  .instanceMethod y_R_value,
  .selects "StandInMillModel" y_R_value y_R_value,
  .methodLink "StandInMillLaw" 66 y_M_below,
  .instanceMethod y_M_below,
  .selects "StandInMill" y_M_below y_M_below,
  .methodLink "StandInMillLaw" 69 y_R_below,
  .instanceMethod y_R_below,
  .selects "StandInMillModel" y_R_below y_R_below,
  .methodLink "StandInMillLaw" 70 y_M_find,
  .instanceMethod y_M_find,
  .selects "StandInMill" y_M_find y_M_find,
  .methodLink "StandInMillLaw" 73 y_R_find,
  .instanceMethod y_R_find,
  .selects "StandInMillModel" y_R_find y_R_find,
  .code y_Ty_bit b_Ty_bit 1 (some (.long)),
  .code y_Ty_init b_Ty_init 2 none,
  .code y_Rw_init b_Rw_init 2 none,
  .code y_Dr_init b_Dr_init 2 none,
  .code y_Uw_init b_Uw_init 1 none,
  .code y_Om_init b_Om_init 6 none,
  .code y_Ar_fillJ b_Ar_fillJ 5 none,
  .initialized "java/util/Arrays",
  .code y_M_init b_M_init 1 none,
  .code y_M_isWithin b_M_isWithin 2 (some (.boolean))]
def wc_15 : List Cond := [.code y_M_isLoader b_M_isLoader 2 (some (.boolean)),
  .code y_M_loader b_M_loader 2 (some (.int)),
  .code y_Ty_isClass b_Ty_isClass 2 (some (.boolean)),
  .code y_Ty_addClass b_Ty_addClass 2 (some (.int)),
  .code y_M_type b_M_type 2 (some (.int)),
  .code y_M_faceMadeBy b_M_faceMadeBy 5 (some (.int)),
  .code y_M_faceFoundBy b_M_faceFoundBy 8 (some (.int)),
  .code y_Fc_init b_Fc_init 5 none,
  .code y_Ty_addFace b_Ty_addFace 2 none,
  .code y_M_face b_M_face 6 (some (.int)),
  .code y_M_isFace b_M_isFace 2 (some (.boolean)),
  .code y_Fc_hasParent b_Fc_hasParent 3 (some (.boolean)),
  .code y_M_isVisible b_M_isVisible 4 (some (.boolean)),
  .code y_Fc_addParent b_Fc_addParent 2 none,
  .code y_Ty_isBelow b_Ty_isBelow 3 (some (.boolean)),
  .code y_Ty_putBelow b_Ty_putBelow 4 none,
  .code y_M_extend b_M_extend 4 (some (.boolean)),
  .code y_M_byteOf b_M_byteOf 2 (some (.int)),
  .code y_M_cutAtZero b_M_cutAtZero 3 (some (.int)),
  .code y_M_isPlain b_M_isPlain 1 (some (.boolean)),
  .code y_Ty_isThere b_Ty_isThere 2 (some (.boolean)),
  .code y_M_isResult b_M_isResult 2 (some (.boolean)),
  .code y_M_lengthOf b_M_lengthOf 2 (some (.int)),
  .code y_M_areParameters b_M_areParameters 3 (some (.boolean)),
  .code y_Fc_hasOwn b_Fc_hasOwn 4 (some (.boolean)),
  .code y_Fc_addOwn b_Fc_addOwn 2 none,
  .code y_M_method b_M_method 7 (some (.int)),
  .code y_Rw_has b_Rw_has 3 (some (.boolean)),
  .code y_Rw_add b_Rw_add 2 none,
  .code y_M_throwing b_M_throwing 6 (some (.boolean)),
  .code y_M_isBox b_M_isBox 1 (some (.boolean)),
  .code y_M_fitted b_M_fitted 3 (some (.long)),
  .code y_M_object b_M_object 4 (some (.int)),
  .code y_M_value b_M_value 3 (some (.long)),
  .code y_M_below b_M_below 3 (some (.boolean)),
  .code y_M_find b_M_find 4 (some (.int)),
  .code y_M_areFaces b_M_areFaces 3 (some (.boolean)),
  .code y_M_standMadeFor b_M_standMadeFor 4 (some (.int)),
  .code y_M_areVisible b_M_areVisible 4 (some (.boolean)),
  .code y_M_hasTwice b_M_hasTwice 3 (some (.boolean))]
def wc_16 : List Cond := [.code y_M_packageOf b_M_packageOf 4 (some (.int)),
  .code y_M_isInTwoPackages b_M_isInTwoPackages 5 (some (.boolean)),
  .code y_M_faultOfList b_M_faultOfList 3 (some (.int)),
  .code y_Fc_gather b_Fc_gather 3 none,
  .code y_Fc_gatherOwn b_Fc_gatherOwn 2 none,
  .code y_Fc_gatherFrom b_Fc_gatherFrom 4 none,
  .code y_M_gatherMethods b_M_gatherMethods 4 none,
  .code y_Dr_clear b_Dr_clear 1 none,
  .code y_Om_hasSignatureOf b_Om_hasSignatureOf 2 (some (.boolean)),
  .code y_Rw_clear b_Rw_clear 1 none,
  .code y_Rw_copyFrom b_Rw_copyFrom 3 none,
  .code y_Ty_isBelowOneOf b_Ty_isBelowOneOf 4 (some (.boolean)),
  .code y_Ty_addBelow b_Ty_addBelow 5 none,
  .code y_Dr_narrow b_Dr_narrow 3 none,
  .code y_Sm_init b_Sm_init 1 none,
  .code y_Dr_insert b_Dr_insert 5 none,
  .code y_Dr_take b_Dr_take 4 none,
  .code y_M_fillDraft b_M_fillDraft 5 none,
  .code y_Dr_endOfSignature b_Dr_endOfSignature 3 (some (.int)),
  .code y_Dr_isBelowAll b_Dr_isBelowAll 5 (some (.boolean)),
  .code y_Dr_resultsAgreeWithin b_Dr_resultsAgreeWithin 6 (some (.boolean)),
  .code y_Dr_resultsAgree b_Dr_resultsAgree 3 (some (.boolean)),
  .code y_M_faultOfDraft b_M_faultOfDraft 1 (some (.int)),
  .code y_M_standsOfPackage b_M_standsOfPackage 4 (some (.int)),
  .code y_Si_init b_Si_init 6 none,
  .code y_Rw_at b_Rw_at 2 (some (.int)),
  .code y_Ty_dropBelow b_Ty_dropBelow 5 none,
  .code y_Dr_fillCaught b_Dr_fillCaught 5 none,
  .code y_Dr_handOver b_Dr_handOver 3 none,
  .code y_M_madeOfDraft b_M_madeOfDraft 5 (some (.object "StandInMill$StandIn")),
  .code y_Ar_fillI b_Ar_fillI 4 none,
  .code y_Uw_put b_Uw_put 2 none,
  .code y_Uw_putInPool b_Uw_putInPool 2 none,
  .code y_Uw_putEntry b_Uw_putEntry 5 (some (.boolean)),
  .code y_Uw_putType b_Uw_putType 2 none,
  .code y_Uw_putTypes b_Uw_putTypes 3 none,
  .code y_Uw_putRow b_Uw_putRow 3 none,
  .code y_Uw_putMethodEntry b_Uw_putMethodEntry 3 none,
  .code y_Om_parameterCount b_Om_parameterCount 1 (some (.int)),
  .code y_Uw_putParameterCode b_Uw_putParameterCode 5 none]
def wc_17 : List Cond := [.code y_Uw_putResultCode b_Uw_putResultCode 2 none,
  .code y_Uw_putCode b_Uw_putCode 3 none,
  .code y_Uw_putMethod b_Uw_putMethod 4 none,
  .code y_Uw_joined b_Uw_joined 2 (some (.array (.byte))),
  .code y_Uw_write b_Uw_write 3 (some (.array (.byte))),
  .code y_M_stand b_M_stand 6 (some (.int)),
  .code y_M_fault b_M_fault 1 (some (.int)),
  .code y_M_about b_M_about 4 (some (.int)),
  .code y_M_hasMethod b_M_hasMethod 3 (some (.boolean)),
  .code y_M_told b_M_told 6 (some (.int)),
  .code y_M_octet b_M_octet 3 (some (.int)),
  .code y_M_handler b_M_handler 4 (some (.boolean)),
  .code y_M_isObjectBelow b_M_isObjectBelow 4 (some (.boolean)),
  .code y_M_takesGiven b_M_takesGiven 4 (some (.boolean)),
  .code y_M_showObject b_M_showObject 4 none,
  .code y_M_showHandler b_M_showHandler 4 none,
  .code y_M_fitThrown b_M_fitThrown 3 (some (.int)),
  .code y_M_fitAnswer b_M_fitAnswer 4 (some (.int)),
  .code y_M_call b_M_call 11 (some (.int)),
  .code y_M_outcome b_M_outcome 1 (some (.long)),
  .code y_M_seen b_M_seen 2 (some (.long)),
  .code y_R_init b_R_init 2 none,
  .code y_R_isClass b_R_isClass 2 (some (.boolean)),
  .code y_R_isFace b_R_isFace 2 (some (.boolean)),
  .code y_R_isPlain b_R_isPlain 1 (some (.boolean)),
  .code y_R_isBox b_R_isBox 1 (some (.boolean)),
  .code y_R_there b_R_there 2 (some (.boolean)),
  .code y_R_isBelow b_R_isBelow 6 (some (.boolean)),
  .code y_R_fitted b_R_fitted 3 (some (.long)),
  .code y_R_madeBy b_R_madeBy 5 (some (.int)),
  .code y_R_finds b_R_finds 7 (some (.int)),
  .code y_R_visible b_R_visible 3 (some (.boolean)),
  .code y_R_sameSignature b_R_sameSignature 3 (some (.boolean)),
  .code y_R_takesCount b_R_takesCount 3 (some (.int)),
  .code y_R_listMethods b_R_listMethods 9 none,
  .code y_R_add b_R_add 3 none,
  .code y_R_belowOneOf b_R_belowOneOf 4 (some (.boolean)),
  .code y_R_merge b_R_merge 10 none,
  .code y_R_describe b_R_describe 7 none,
  .code y_R_wrongResults b_R_wrongResults 9 (some (.boolean))]
def wc_18 : List Cond := [.code y_R_faultOf b_R_faultOf 9 (some (.int)),
  .code y_R_catchFor b_R_catchFor 7 none,
  .code y_R_say b_R_say 2 none,
  .code y_R_entry b_R_entry 5 (some (.int)),
  .code y_R_owner b_R_owner 1 (some (.int)),
  .code y_R_numberOf b_R_numberOf 1 (some (.int)),
  .code y_R_sayCode b_R_sayCode 6 none,
  .code y_R_sayMethod b_R_sayMethod 6 none,
  .code y_R_unit b_R_unit 5 none,
  .code y_R_poolBytes b_R_poolBytes 3 (some (.int)),
  .code y_R_unitByte b_R_unitByte 5 (some (.int)),
  .code y_R_thrown b_R_thrown 1 (some (.int)),
  .code y_R_loader b_R_loader 2 (some (.int)),
  .code y_R_type b_R_type 2 (some (.int)),
  .code y_R_face b_R_face 5 (some (.int)),
  .code y_R_extend b_R_extend 5 (some (.boolean)),
  .code y_R_method b_R_method 10 (some (.int)),
  .code y_R_throwing b_R_throwing 6 (some (.boolean)),
  .code y_R_object b_R_object 4 (some (.int)),
  .code y_R_value b_R_value 3 (some (.long)),
  .code y_R_below b_R_below 3 (some (.boolean)),
  .code y_R_find b_R_find 5 (some (.int)),
  .code y_R_cleaned b_R_cleaned 4 (some (.int)),
  .code y_R_stand b_R_stand 7 (some (.int)),
  .code y_R_fault b_R_fault 1 (some (.int)),
  .code y_R_isStand b_R_isStand 2 (some (.boolean)),
  .code y_R_about b_R_about 3 (some (.int)),
  .code y_R_told b_R_told 6 (some (.int)),
  .code y_R_octet b_R_octet 3 (some (.int)),
  .code y_R_handler b_R_handler 4 (some (.boolean)),
  .code y_R_takesAs b_R_takesAs 5 (some (.boolean)),
  .code y_R_fit b_R_fit 7 (some (.int)),
  .code y_R_call b_R_call 13 (some (.int)),
  .code y_R_outcome b_R_outcome 1 (some (.long)),
  .code y_R_seen b_R_seen 2 (some (.long))]
def WL : List (List Cond) := [u_ws "StandInMill" F_M 18, u_ws "StandInMill$ClassRow" F_Rw 2, u_ws "StandInMill$Draft" F_Dr 4, u_ws "StandInMill$Face" F_Fc 10, u_ws "StandInMill$OwnMethod" F_Om 6, u_ws "StandInMill$StandIn" F_Si 8, u_ws "StandInMill$StandMethod" F_Sm 3, u_ws "StandInMill$Types" F_Ty 2, u_ws "StandInMill$UnitWriter" F_Uw 6, u_ws "StandInMillModel" F_R 47, wc_0, wc_1, wc_2, wc_3, wc_4, wc_5, wc_6, wc_7, wc_8, wc_9, wc_10, wc_11, wc_12, wc_13, wc_14, wc_15, wc_16, wc_17, wc_18]
def WG : List Cond := WL.flatten
theorem in_WG {l : List Cond} (i : Nat) (h : WL[i]? = some l) {w : Cond} (hw : w ∈ l) : w ∈ WG := List.mem_flatten.mpr ⟨l, List.mem_of_getElem? h, hw⟩
theorem WG_good : ∀ w ∈ WG, (w.onTables && w.keeps) = true ∨ ∃ ty, w = .arrayClass ty := by
  intro w hw
  have h : (WG.all goodWord) = true := by decide +kernel
  exact good_of_word (List.all_eq_true.mp h w hw)
theorem m_0 : (.methodLink "StandInMill$Types" 3 objectInit : Cond) ∈ WG := in_WG 10 rfl (List.mem_of_getElem? (i := 0) rfl)
theorem m_1 : (.instanceMethod objectInit : Cond) ∈ WG := in_WG 10 rfl (List.mem_of_getElem? (i := 1) rfl)
theorem m_2 : (.code objectInit ⟨#[0xb1]⟩ 1 none : Cond) ∈ WG := in_WG 10 rfl (List.mem_of_getElem? (i := 2) rfl)
theorem m_3 : (.arrayClass (.long) : Cond) ∈ WG := in_WG 10 rfl (List.mem_of_getElem? (i := 3) rfl)
theorem m_4 : (.fieldLink "StandInMill$Types" 11 "StandInMill$Types" "aboves" "[J" : Cond) ∈ WG := in_WG 10 rfl (List.mem_of_getElem? (i := 4) rfl)
theorem m_5 : (.fieldLink "StandInMill$Types" 15 "StandInMill$Types" "nextClass" "I" : Cond) ∈ WG := in_WG 10 rfl (List.mem_of_getElem? (i := 5) rfl)
theorem m_6 : (.methodLink "StandInMill$Types" 19 y_Ty_bit : Cond) ∈ WG := in_WG 10 rfl (List.mem_of_getElem? (i := 6) rfl)
theorem m_7 : (.static y_Ty_bit : Cond) ∈ WG := in_WG 10 rfl (List.mem_of_getElem? (i := 7) rfl)
theorem m_8 : (.methodLink "StandInMill$ClassRow" 3 objectInit : Cond) ∈ WG := in_WG 10 rfl (List.mem_of_getElem? (i := 8) rfl)
theorem m_9 : (.arrayClass (.int) : Cond) ∈ WG := in_WG 10 rfl (List.mem_of_getElem? (i := 9) rfl)
theorem m_10 : (.fieldLink "StandInMill$ClassRow" 9 "StandInMill$ClassRow" "classes" "[I" : Cond) ∈ WG := in_WG 10 rfl (List.mem_of_getElem? (i := 10) rfl)
theorem m_11 : (.methodLink "StandInMill$Draft" 3 objectInit : Cond) ∈ WG := in_WG 10 rfl (List.mem_of_getElem? (i := 11) rfl)
theorem m_12 : (.classLink "StandInMill$Draft" 9 "StandInMill$StandMethod" : Cond) ∈ WG := in_WG 10 rfl (List.mem_of_getElem? (i := 12) rfl)
theorem m_13 : (.fieldLink "StandInMill$Draft" 11 "StandInMill$Draft" "methods" "[LStandInMill$StandMethod;" : Cond) ∈ WG := in_WG 10 rfl (List.mem_of_getElem? (i := 13) rfl)
theorem m_14 : (.classLink "StandInMill$Draft" 17 "StandInMill$ClassRow" : Cond) ∈ WG := in_WG 10 rfl (List.mem_of_getElem? (i := 14) rfl)
theorem m_15 : (.instantiable "StandInMill$ClassRow" 2 : Cond) ∈ WG := in_WG 10 rfl (List.mem_of_getElem? (i := 15) rfl)
theorem m_16 : (.initialized "StandInMill$ClassRow" : Cond) ∈ WG := in_WG 10 rfl (List.mem_of_getElem? (i := 16) rfl)
theorem m_17 : (.methodLink "StandInMill$Draft" 19 y_Rw_init : Cond) ∈ WG := in_WG 10 rfl (List.mem_of_getElem? (i := 17) rfl)
theorem m_18 : (.instanceMethod y_Rw_init : Cond) ∈ WG := in_WG 10 rfl (List.mem_of_getElem? (i := 18) rfl)
theorem m_19 : (.fieldLink "StandInMill$Draft" 22 "StandInMill$Draft" "soFar" "LStandInMill$ClassRow;" : Cond) ∈ WG := in_WG 10 rfl (List.mem_of_getElem? (i := 19) rfl)
theorem m_20 : (.fieldLink "StandInMill$Draft" 26 "StandInMill$Draft" "types" "LStandInMill$Types;" : Cond) ∈ WG := in_WG 10 rfl (List.mem_of_getElem? (i := 20) rfl)
theorem m_21 : (.methodLink "StandInMill$UnitWriter" 5 objectInit : Cond) ∈ WG := in_WG 10 rfl (List.mem_of_getElem? (i := 21) rfl)
theorem m_22 : (.fieldLink "StandInMill$UnitWriter" 11 "StandInMill$UnitWriter" "entryOf" "[I" : Cond) ∈ WG := in_WG 10 rfl (List.mem_of_getElem? (i := 22) rfl)
theorem m_23 : (.arrayClass (.byte) : Cond) ∈ WG := in_WG 10 rfl (List.mem_of_getElem? (i := 23) rfl)
theorem m_24 : (.fieldLink "StandInMill$UnitWriter" 15 "StandInMill$UnitWriter" "pool" "[B" : Cond) ∈ WG := in_WG 10 rfl (List.mem_of_getElem? (i := 24) rfl)
theorem m_25 : (.fieldLink "StandInMill$UnitWriter" 19 "StandInMill$UnitWriter" "body" "[B" : Cond) ∈ WG := in_WG 10 rfl (List.mem_of_getElem? (i := 25) rfl)
theorem m_26 : (.methodLink "StandInMill$OwnMethod" 3 objectInit : Cond) ∈ WG := in_WG 10 rfl (List.mem_of_getElem? (i := 26) rfl)
theorem m_27 : (.classLink "StandInMill$OwnMethod" 9 "StandInMill$ClassRow" : Cond) ∈ WG := in_WG 10 rfl (List.mem_of_getElem? (i := 27) rfl)
theorem m_28 : (.methodLink "StandInMill$OwnMethod" 11 y_Rw_init : Cond) ∈ WG := in_WG 10 rfl (List.mem_of_getElem? (i := 28) rfl)
theorem m_29 : (.fieldLink "StandInMill$OwnMethod" 14 "StandInMill$OwnMethod" "thrown" "LStandInMill$ClassRow;" : Cond) ∈ WG := in_WG 10 rfl (List.mem_of_getElem? (i := 29) rfl)
theorem m_30 : (.fieldLink "StandInMill$OwnMethod" 20 "StandInMill$OwnMethod" "owner" "I" : Cond) ∈ WG := in_WG 10 rfl (List.mem_of_getElem? (i := 30) rfl)
theorem m_31 : (.fieldLink "StandInMill$OwnMethod" 24 "StandInMill$OwnMethod" "number" "I" : Cond) ∈ WG := in_WG 10 rfl (List.mem_of_getElem? (i := 31) rfl)
theorem m_32 : (.fieldLink "StandInMill$OwnMethod" 27 "StandInMill$OwnMethod" "name" "I" : Cond) ∈ WG := in_WG 10 rfl (List.mem_of_getElem? (i := 32) rfl)
theorem m_33 : (.fieldLink "StandInMill$OwnMethod" 30 "StandInMill$OwnMethod" "parameters" "I" : Cond) ∈ WG := in_WG 10 rfl (List.mem_of_getElem? (i := 33) rfl)
theorem m_34 : (.fieldLink "StandInMill$OwnMethod" 33 "StandInMill$OwnMethod" "result" "I" : Cond) ∈ WG := in_WG 10 rfl (List.mem_of_getElem? (i := 34) rfl)
theorem m_35 : (.methodLink "StandInMill" 1 objectInit : Cond) ∈ WG := in_WG 10 rfl (List.mem_of_getElem? (i := 35) rfl)
theorem m_36 : (.classLink "StandInMill" 7 "StandInMill$Types" : Cond) ∈ WG := in_WG 10 rfl (List.mem_of_getElem? (i := 36) rfl)
theorem m_37 : (.instantiable "StandInMill$Types" 2 : Cond) ∈ WG := in_WG 10 rfl (List.mem_of_getElem? (i := 37) rfl)
theorem m_38 : (.initialized "StandInMill$Types" : Cond) ∈ WG := in_WG 10 rfl (List.mem_of_getElem? (i := 38) rfl)
theorem m_39 : (.methodLink "StandInMill" 9 y_Ty_init : Cond) ∈ WG := in_WG 10 rfl (List.mem_of_getElem? (i := 39) rfl)
theorem m_40 : (.instanceMethod y_Ty_init : Cond) ∈ WG := in_WG 11 rfl (List.mem_of_getElem? (i := 0) rfl)
theorem m_41 : (.fieldLink "StandInMill" 10 "StandInMill" "types" "LStandInMill$Types;" : Cond) ∈ WG := in_WG 11 rfl (List.mem_of_getElem? (i := 1) rfl)
theorem m_42 : (.fieldLink "StandInMill" 16 "StandInMill" "loaderParents" "[I" : Cond) ∈ WG := in_WG 11 rfl (List.mem_of_getElem? (i := 2) rfl)
theorem m_43 : (.classLink "StandInMill" 20 "StandInMill$Face" : Cond) ∈ WG := in_WG 11 rfl (List.mem_of_getElem? (i := 3) rfl)
theorem m_44 : (.fieldLink "StandInMill" 22 "StandInMill" "faces" "[LStandInMill$Face;" : Cond) ∈ WG := in_WG 11 rfl (List.mem_of_getElem? (i := 4) rfl)
theorem m_45 : (.fieldLink "StandInMill" 26 "StandInMill" "objectTypes" "[I" : Cond) ∈ WG := in_WG 11 rfl (List.mem_of_getElem? (i := 5) rfl)
theorem m_46 : (.fieldLink "StandInMill" 29 "StandInMill" "objectValues" "[J" : Cond) ∈ WG := in_WG 11 rfl (List.mem_of_getElem? (i := 6) rfl)
theorem m_47 : (.classLink "StandInMill" 33 "StandInMill$OwnMethod" : Cond) ∈ WG := in_WG 11 rfl (List.mem_of_getElem? (i := 7) rfl)
theorem m_48 : (.fieldLink "StandInMill" 35 "StandInMill" "rootMethods" "[LStandInMill$OwnMethod;" : Cond) ∈ WG := in_WG 11 rfl (List.mem_of_getElem? (i := 8) rfl)
theorem m_49 : (.classLink "StandInMill" 39 "StandInMill$StandIn" : Cond) ∈ WG := in_WG 11 rfl (List.mem_of_getElem? (i := 9) rfl)
theorem m_50 : (.fieldLink "StandInMill" 41 "StandInMill" "stands" "[LStandInMill$StandIn;" : Cond) ∈ WG := in_WG 11 rfl (List.mem_of_getElem? (i := 10) rfl)
theorem m_51 : (.classLink "StandInMill" 45 "StandInMill$Draft" : Cond) ∈ WG := in_WG 11 rfl (List.mem_of_getElem? (i := 11) rfl)
theorem m_52 : (.instantiable "StandInMill$Draft" 4 : Cond) ∈ WG := in_WG 11 rfl (List.mem_of_getElem? (i := 12) rfl)
theorem m_53 : (.initialized "StandInMill$Draft" : Cond) ∈ WG := in_WG 11 rfl (List.mem_of_getElem? (i := 13) rfl)
theorem m_54 : (.methodLink "StandInMill" 47 y_Dr_init : Cond) ∈ WG := in_WG 11 rfl (List.mem_of_getElem? (i := 14) rfl)
theorem m_55 : (.instanceMethod y_Dr_init : Cond) ∈ WG := in_WG 11 rfl (List.mem_of_getElem? (i := 15) rfl)
theorem m_56 : (.fieldLink "StandInMill" 50 "StandInMill" "draft" "LStandInMill$Draft;" : Cond) ∈ WG := in_WG 11 rfl (List.mem_of_getElem? (i := 16) rfl)
theorem m_57 : (.classLink "StandInMill" 54 "StandInMill$UnitWriter" : Cond) ∈ WG := in_WG 11 rfl (List.mem_of_getElem? (i := 17) rfl)
theorem m_58 : (.instantiable "StandInMill$UnitWriter" 6 : Cond) ∈ WG := in_WG 11 rfl (List.mem_of_getElem? (i := 18) rfl)
theorem m_59 : (.initialized "StandInMill$UnitWriter" : Cond) ∈ WG := in_WG 11 rfl (List.mem_of_getElem? (i := 19) rfl)
theorem m_60 : (.instanceMethod y_Uw_init : Cond) ∈ WG := in_WG 11 rfl (List.mem_of_getElem? (i := 20) rfl)
theorem m_61 : (.fieldLink "StandInMill" 57 "StandInMill" "writer" "LStandInMill$UnitWriter;" : Cond) ∈ WG := in_WG 11 rfl (List.mem_of_getElem? (i := 21) rfl)
theorem m_62 : (.constantLong "StandInMill" 61 (-1) : Cond) ∈ WG := in_WG 11 rfl (List.mem_of_getElem? (i := 22) rfl)
theorem m_63 : (.fieldLink "StandInMill" 63 "StandInMill" "latestOutcome" "J" : Cond) ∈ WG := in_WG 11 rfl (List.mem_of_getElem? (i := 23) rfl)
theorem m_64 : (.fieldLink "StandInMill" 67 "StandInMill" "given" "[J" : Cond) ∈ WG := in_WG 11 rfl (List.mem_of_getElem? (i := 24) rfl)
theorem m_65 : (.fieldLink "StandInMill" 70 "StandInMill" "seenRow" "[J" : Cond) ∈ WG := in_WG 11 rfl (List.mem_of_getElem? (i := 25) rfl)
theorem m_66 : (.fieldLink "StandInMill" 73 "StandInMill" "loaderCount" "I" : Cond) ∈ WG := in_WG 11 rfl (List.mem_of_getElem? (i := 26) rfl)
theorem m_67 : (.instantiable "StandInMill$OwnMethod" 6 : Cond) ∈ WG := in_WG 11 rfl (List.mem_of_getElem? (i := 27) rfl)
theorem m_68 : (.initialized "StandInMill$OwnMethod" : Cond) ∈ WG := in_WG 11 rfl (List.mem_of_getElem? (i := 28) rfl)
theorem m_69 : (.methodLink "StandInMill" 77 y_Om_init : Cond) ∈ WG := in_WG 11 rfl (List.mem_of_getElem? (i := 29) rfl)
theorem m_70 : (.instanceMethod y_Om_init : Cond) ∈ WG := in_WG 11 rfl (List.mem_of_getElem? (i := 30) rfl)
theorem m_71 : (.methodLink "StandInMill" 80 y_Ar_fillJ : Cond) ∈ WG := in_WG 11 rfl (List.mem_of_getElem? (i := 31) rfl)
theorem m_72 : (.static y_Ar_fillJ : Cond) ∈ WG := in_WG 11 rfl (List.mem_of_getElem? (i := 32) rfl)
theorem m_73 : (.methodLink "StandInMill" 94 y_M_isWithin : Cond) ∈ WG := in_WG 11 rfl (List.mem_of_getElem? (i := 33) rfl)
theorem m_74 : (.static y_M_isWithin : Cond) ∈ WG := in_WG 11 rfl (List.mem_of_getElem? (i := 34) rfl)
theorem m_75 : (.methodLink "StandInMill" 86 y_M_isLoader : Cond) ∈ WG := in_WG 11 rfl (List.mem_of_getElem? (i := 35) rfl)
theorem m_76 : (.instanceMethod y_M_isLoader : Cond) ∈ WG := in_WG 11 rfl (List.mem_of_getElem? (i := 36) rfl)
theorem m_77 : (.selects "StandInMill" y_M_isLoader y_M_isLoader : Cond) ∈ WG := in_WG 11 rfl (List.mem_of_getElem? (i := 37) rfl)
theorem m_78 : (.methodLink "StandInMill$Types" 23 y_Ty_isClass : Cond) ∈ WG := in_WG 11 rfl (List.mem_of_getElem? (i := 38) rfl)
theorem m_79 : (.instanceMethod y_Ty_isClass : Cond) ∈ WG := in_WG 11 rfl (List.mem_of_getElem? (i := 39) rfl)
theorem m_80 : (.selects "StandInMill$Types" y_Ty_isClass y_Ty_isClass : Cond) ∈ WG := in_WG 12 rfl (List.mem_of_getElem? (i := 0) rfl)
theorem m_81 : (.methodLink "StandInMill" 90 y_Ty_addClass : Cond) ∈ WG := in_WG 12 rfl (List.mem_of_getElem? (i := 1) rfl)
theorem m_82 : (.instanceMethod y_Ty_addClass : Cond) ∈ WG := in_WG 12 rfl (List.mem_of_getElem? (i := 2) rfl)
theorem m_83 : (.selects "StandInMill$Types" y_Ty_addClass y_Ty_addClass : Cond) ∈ WG := in_WG 12 rfl (List.mem_of_getElem? (i := 3) rfl)
theorem m_84 : (.fieldLink "StandInMill" 102 "StandInMill" "faceCount" "I" : Cond) ∈ WG := in_WG 12 rfl (List.mem_of_getElem? (i := 4) rfl)
theorem m_85 : (.methodLink "StandInMill" 311 y_M_faceMadeBy : Cond) ∈ WG := in_WG 12 rfl (List.mem_of_getElem? (i := 5) rfl)
theorem m_86 : (.instanceMethod y_M_faceMadeBy : Cond) ∈ WG := in_WG 12 rfl (List.mem_of_getElem? (i := 6) rfl)
theorem m_87 : (.selects "StandInMill" y_M_faceMadeBy y_M_faceMadeBy : Cond) ∈ WG := in_WG 12 rfl (List.mem_of_getElem? (i := 7) rfl)
theorem m_88 : (.methodLink "StandInMill$Face" 3 objectInit : Cond) ∈ WG := in_WG 12 rfl (List.mem_of_getElem? (i := 8) rfl)
theorem m_89 : (.fieldLink "StandInMill$Face" 9 "StandInMill$Face" "parents" "[I" : Cond) ∈ WG := in_WG 12 rfl (List.mem_of_getElem? (i := 9) rfl)
theorem m_90 : (.classLink "StandInMill$Face" 15 "StandInMill$OwnMethod" : Cond) ∈ WG := in_WG 12 rfl (List.mem_of_getElem? (i := 10) rfl)
theorem m_91 : (.fieldLink "StandInMill$Face" 17 "StandInMill$Face" "own" "[LStandInMill$OwnMethod;" : Cond) ∈ WG := in_WG 12 rfl (List.mem_of_getElem? (i := 11) rfl)
theorem m_92 : (.fieldLink "StandInMill$Face" 21 "StandInMill$Face" "all" "[LStandInMill$OwnMethod;" : Cond) ∈ WG := in_WG 12 rfl (List.mem_of_getElem? (i := 12) rfl)
theorem m_93 : (.fieldLink "StandInMill$Face" 24 "StandInMill$Face" "loader" "I" : Cond) ∈ WG := in_WG 12 rfl (List.mem_of_getElem? (i := 13) rfl)
theorem m_94 : (.fieldLink "StandInMill$Face" 28 "StandInMill$Face" "name" "I" : Cond) ∈ WG := in_WG 12 rfl (List.mem_of_getElem? (i := 14) rfl)
theorem m_95 : (.fieldLink "StandInMill$Face" 31 "StandInMill$Face" "pack" "I" : Cond) ∈ WG := in_WG 12 rfl (List.mem_of_getElem? (i := 15) rfl)
theorem m_96 : (.fieldLink "StandInMill$Face" 34 "StandInMill$Face" "open" "Z" : Cond) ∈ WG := in_WG 12 rfl (List.mem_of_getElem? (i := 16) rfl)
theorem m_97 : (.methodLink "StandInMill" 98 y_M_faceFoundBy : Cond) ∈ WG := in_WG 12 rfl (List.mem_of_getElem? (i := 17) rfl)
theorem m_98 : (.instanceMethod y_M_faceFoundBy : Cond) ∈ WG := in_WG 12 rfl (List.mem_of_getElem? (i := 18) rfl)
theorem m_99 : (.selects "StandInMill" y_M_faceFoundBy y_M_faceFoundBy : Cond) ∈ WG := in_WG 12 rfl (List.mem_of_getElem? (i := 19) rfl)
theorem m_100 : (.instantiable "StandInMill$Face" 10 : Cond) ∈ WG := in_WG 12 rfl (List.mem_of_getElem? (i := 20) rfl)
theorem m_101 : (.initialized "StandInMill$Face" : Cond) ∈ WG := in_WG 12 rfl (List.mem_of_getElem? (i := 21) rfl)
theorem m_102 : (.methodLink "StandInMill" 105 y_Fc_init : Cond) ∈ WG := in_WG 12 rfl (List.mem_of_getElem? (i := 22) rfl)
theorem m_103 : (.instanceMethod y_Fc_init : Cond) ∈ WG := in_WG 12 rfl (List.mem_of_getElem? (i := 23) rfl)
theorem m_104 : (.methodLink "StandInMill" 108 y_Ty_addFace : Cond) ∈ WG := in_WG 12 rfl (List.mem_of_getElem? (i := 24) rfl)
theorem m_105 : (.instanceMethod y_Ty_addFace : Cond) ∈ WG := in_WG 12 rfl (List.mem_of_getElem? (i := 25) rfl)
theorem m_106 : (.selects "StandInMill$Types" y_Ty_addFace y_Ty_addFace : Cond) ∈ WG := in_WG 12 rfl (List.mem_of_getElem? (i := 26) rfl)
theorem m_107 : (.fieldLink "StandInMill$Face" 38 "StandInMill$Face" "parentCount" "I" : Cond) ∈ WG := in_WG 12 rfl (List.mem_of_getElem? (i := 27) rfl)
theorem m_108 : (.methodLink "StandInMill$Types" 27 y_Ty_isBelow : Cond) ∈ WG := in_WG 12 rfl (List.mem_of_getElem? (i := 28) rfl)
theorem m_109 : (.instanceMethod y_Ty_isBelow : Cond) ∈ WG := in_WG 12 rfl (List.mem_of_getElem? (i := 29) rfl)
theorem m_110 : (.selects "StandInMill$Types" y_Ty_isBelow y_Ty_isBelow : Cond) ∈ WG := in_WG 12 rfl (List.mem_of_getElem? (i := 30) rfl)
theorem m_111 : (.fieldLink "StandInMill" 112 "StandInMill" "standCount" "I" : Cond) ∈ WG := in_WG 12 rfl (List.mem_of_getElem? (i := 31) rfl)
theorem m_112 : (.methodLink "StandInMill" 115 y_M_isFace : Cond) ∈ WG := in_WG 12 rfl (List.mem_of_getElem? (i := 32) rfl)
theorem m_113 : (.instanceMethod y_M_isFace : Cond) ∈ WG := in_WG 12 rfl (List.mem_of_getElem? (i := 33) rfl)
theorem m_114 : (.selects "StandInMill" y_M_isFace y_M_isFace : Cond) ∈ WG := in_WG 12 rfl (List.mem_of_getElem? (i := 34) rfl)
theorem m_115 : (.methodLink "StandInMill" 118 y_Fc_hasParent : Cond) ∈ WG := in_WG 12 rfl (List.mem_of_getElem? (i := 35) rfl)
theorem m_116 : (.instanceMethod y_Fc_hasParent : Cond) ∈ WG := in_WG 12 rfl (List.mem_of_getElem? (i := 36) rfl)
theorem m_117 : (.selects "StandInMill$Face" y_Fc_hasParent y_Fc_hasParent : Cond) ∈ WG := in_WG 12 rfl (List.mem_of_getElem? (i := 37) rfl)
theorem m_118 : (.methodLink "StandInMill" 127 y_M_isVisible : Cond) ∈ WG := in_WG 12 rfl (List.mem_of_getElem? (i := 38) rfl)
theorem m_119 : (.instanceMethod y_M_isVisible : Cond) ∈ WG := in_WG 12 rfl (List.mem_of_getElem? (i := 39) rfl)
theorem m_120 : (.selects "StandInMill" y_M_isVisible y_M_isVisible : Cond) ∈ WG := in_WG 13 rfl (List.mem_of_getElem? (i := 0) rfl)
theorem m_121 : (.methodLink "StandInMill" 130 y_Fc_addParent : Cond) ∈ WG := in_WG 13 rfl (List.mem_of_getElem? (i := 1) rfl)
theorem m_122 : (.instanceMethod y_Fc_addParent : Cond) ∈ WG := in_WG 13 rfl (List.mem_of_getElem? (i := 2) rfl)
theorem m_123 : (.selects "StandInMill$Face" y_Fc_addParent y_Fc_addParent : Cond) ∈ WG := in_WG 13 rfl (List.mem_of_getElem? (i := 3) rfl)
theorem m_124 : (.methodLink "StandInMill" 133 y_Ty_putBelow : Cond) ∈ WG := in_WG 13 rfl (List.mem_of_getElem? (i := 4) rfl)
theorem m_125 : (.instanceMethod y_Ty_putBelow : Cond) ∈ WG := in_WG 13 rfl (List.mem_of_getElem? (i := 5) rfl)
theorem m_126 : (.selects "StandInMill$Types" y_Ty_putBelow y_Ty_putBelow : Cond) ∈ WG := in_WG 13 rfl (List.mem_of_getElem? (i := 6) rfl)
theorem m_127 : (.fieldLink "StandInMill" 137 "StandInMill" "gathered" "Z" : Cond) ∈ WG := in_WG 13 rfl (List.mem_of_getElem? (i := 7) rfl)
theorem m_128 : (.methodLink "StandInMill" 274 y_M_byteOf : Cond) ∈ WG := in_WG 13 rfl (List.mem_of_getElem? (i := 8) rfl)
theorem m_129 : (.static y_M_byteOf : Cond) ∈ WG := in_WG 13 rfl (List.mem_of_getElem? (i := 9) rfl)
theorem m_130 : (.static y_M_isPlain : Cond) ∈ WG := in_WG 13 rfl (List.mem_of_getElem? (i := 10) rfl)
theorem m_131 : (.methodLink "StandInMill" 305 y_Ty_isThere : Cond) ∈ WG := in_WG 13 rfl (List.mem_of_getElem? (i := 11) rfl)
theorem m_132 : (.instanceMethod y_Ty_isThere : Cond) ∈ WG := in_WG 13 rfl (List.mem_of_getElem? (i := 12) rfl)
theorem m_133 : (.selects "StandInMill$Types" y_Ty_isThere y_Ty_isThere : Cond) ∈ WG := in_WG 13 rfl (List.mem_of_getElem? (i := 13) rfl)
theorem m_134 : (.methodLink "StandInMill" 308 y_M_lengthOf : Cond) ∈ WG := in_WG 13 rfl (List.mem_of_getElem? (i := 14) rfl)
theorem m_135 : (.static y_M_lengthOf : Cond) ∈ WG := in_WG 13 rfl (List.mem_of_getElem? (i := 15) rfl)
theorem m_136 : (.fieldLink "StandInMill$Face" 41 "StandInMill$Face" "ownCount" "I" : Cond) ∈ WG := in_WG 13 rfl (List.mem_of_getElem? (i := 16) rfl)
theorem m_137 : (.methodLink "StandInMill" 141 y_M_cutAtZero : Cond) ∈ WG := in_WG 13 rfl (List.mem_of_getElem? (i := 17) rfl)
theorem m_138 : (.static y_M_cutAtZero : Cond) ∈ WG := in_WG 13 rfl (List.mem_of_getElem? (i := 18) rfl)
theorem m_139 : (.methodLink "StandInMill" 144 y_M_isResult : Cond) ∈ WG := in_WG 13 rfl (List.mem_of_getElem? (i := 19) rfl)
theorem m_140 : (.instanceMethod y_M_isResult : Cond) ∈ WG := in_WG 13 rfl (List.mem_of_getElem? (i := 20) rfl)
theorem m_141 : (.selects "StandInMill" y_M_isResult y_M_isResult : Cond) ∈ WG := in_WG 13 rfl (List.mem_of_getElem? (i := 21) rfl)
theorem m_142 : (.methodLink "StandInMill" 147 y_M_areParameters : Cond) ∈ WG := in_WG 13 rfl (List.mem_of_getElem? (i := 22) rfl)
theorem m_143 : (.instanceMethod y_M_areParameters : Cond) ∈ WG := in_WG 13 rfl (List.mem_of_getElem? (i := 23) rfl)
theorem m_144 : (.selects "StandInMill" y_M_areParameters y_M_areParameters : Cond) ∈ WG := in_WG 13 rfl (List.mem_of_getElem? (i := 24) rfl)
theorem m_145 : (.methodLink "StandInMill" 153 y_Fc_hasOwn : Cond) ∈ WG := in_WG 13 rfl (List.mem_of_getElem? (i := 25) rfl)
theorem m_146 : (.instanceMethod y_Fc_hasOwn : Cond) ∈ WG := in_WG 13 rfl (List.mem_of_getElem? (i := 26) rfl)
theorem m_147 : (.selects "StandInMill$Face" y_Fc_hasOwn y_Fc_hasOwn : Cond) ∈ WG := in_WG 13 rfl (List.mem_of_getElem? (i := 27) rfl)
theorem m_148 : (.methodLink "StandInMill" 156 y_Fc_addOwn : Cond) ∈ WG := in_WG 13 rfl (List.mem_of_getElem? (i := 28) rfl)
theorem m_149 : (.instanceMethod y_Fc_addOwn : Cond) ∈ WG := in_WG 13 rfl (List.mem_of_getElem? (i := 29) rfl)
theorem m_150 : (.selects "StandInMill$Face" y_Fc_addOwn y_Fc_addOwn : Cond) ∈ WG := in_WG 13 rfl (List.mem_of_getElem? (i := 30) rfl)
theorem m_151 : (.fieldLink "StandInMill$ClassRow" 15 "StandInMill$ClassRow" "size" "I" : Cond) ∈ WG := in_WG 13 rfl (List.mem_of_getElem? (i := 31) rfl)
theorem m_152 : (.methodLink "StandInMill$ClassRow" 23 y_Rw_has : Cond) ∈ WG := in_WG 13 rfl (List.mem_of_getElem? (i := 32) rfl)
theorem m_153 : (.instanceMethod y_Rw_has : Cond) ∈ WG := in_WG 13 rfl (List.mem_of_getElem? (i := 33) rfl)
theorem m_154 : (.selects "StandInMill$ClassRow" y_Rw_has y_Rw_has : Cond) ∈ WG := in_WG 13 rfl (List.mem_of_getElem? (i := 34) rfl)
theorem m_155 : (.methodLink "StandInMill" 160 y_Ty_isClass : Cond) ∈ WG := in_WG 13 rfl (List.mem_of_getElem? (i := 35) rfl)
theorem m_156 : (.methodLink "StandInMill" 170 y_Rw_has : Cond) ∈ WG := in_WG 13 rfl (List.mem_of_getElem? (i := 36) rfl)
theorem m_157 : (.methodLink "StandInMill" 178 y_Rw_add : Cond) ∈ WG := in_WG 13 rfl (List.mem_of_getElem? (i := 37) rfl)
theorem m_158 : (.instanceMethod y_Rw_add : Cond) ∈ WG := in_WG 13 rfl (List.mem_of_getElem? (i := 38) rfl)
theorem m_159 : (.selects "StandInMill$ClassRow" y_Rw_add y_Rw_add : Cond) ∈ WG := in_WG 13 rfl (List.mem_of_getElem? (i := 39) rfl)
theorem m_160 : (.fieldLink "StandInMill" 184 "StandInMill" "objectCount" "I" : Cond) ∈ WG := in_WG 14 rfl (List.mem_of_getElem? (i := 0) rfl)
theorem m_161 : (.methodLink "StandInMill" 181 y_M_isBox : Cond) ∈ WG := in_WG 14 rfl (List.mem_of_getElem? (i := 1) rfl)
theorem m_162 : (.static y_M_isBox : Cond) ∈ WG := in_WG 14 rfl (List.mem_of_getElem? (i := 2) rfl)
theorem m_163 : (.methodLink "StandInMill" 187 y_M_fitted : Cond) ∈ WG := in_WG 14 rfl (List.mem_of_getElem? (i := 3) rfl)
theorem m_164 : (.static y_M_fitted : Cond) ∈ WG := in_WG 14 rfl (List.mem_of_getElem? (i := 4) rfl)
theorem m_165 : (.methodLink "StandInMill" 191 y_Ty_isBelow : Cond) ∈ WG := in_WG 14 rfl (List.mem_of_getElem? (i := 5) rfl)
theorem m_166 : (.methodLink "StandInMill" 333 y_M_packageOf : Cond) ∈ WG := in_WG 14 rfl (List.mem_of_getElem? (i := 6) rfl)
theorem m_167 : (.instanceMethod y_M_packageOf : Cond) ∈ WG := in_WG 14 rfl (List.mem_of_getElem? (i := 7) rfl)
theorem m_168 : (.selects "StandInMill" y_M_packageOf y_M_packageOf : Cond) ∈ WG := in_WG 14 rfl (List.mem_of_getElem? (i := 8) rfl)
theorem m_169 : (.methodLink "StandInMill" 319 y_M_areVisible : Cond) ∈ WG := in_WG 14 rfl (List.mem_of_getElem? (i := 9) rfl)
theorem m_170 : (.instanceMethod y_M_areVisible : Cond) ∈ WG := in_WG 14 rfl (List.mem_of_getElem? (i := 10) rfl)
theorem m_171 : (.selects "StandInMill" y_M_areVisible y_M_areVisible : Cond) ∈ WG := in_WG 14 rfl (List.mem_of_getElem? (i := 11) rfl)
theorem m_172 : (.methodLink "StandInMill" 322 y_M_hasTwice : Cond) ∈ WG := in_WG 14 rfl (List.mem_of_getElem? (i := 12) rfl)
theorem m_173 : (.static y_M_hasTwice : Cond) ∈ WG := in_WG 14 rfl (List.mem_of_getElem? (i := 13) rfl)
theorem m_174 : (.methodLink "StandInMill" 325 y_M_isInTwoPackages : Cond) ∈ WG := in_WG 14 rfl (List.mem_of_getElem? (i := 14) rfl)
theorem m_175 : (.instanceMethod y_M_isInTwoPackages : Cond) ∈ WG := in_WG 14 rfl (List.mem_of_getElem? (i := 15) rfl)
theorem m_176 : (.selects "StandInMill" y_M_isInTwoPackages y_M_isInTwoPackages : Cond) ∈ WG := in_WG 14 rfl (List.mem_of_getElem? (i := 16) rfl)
theorem m_177 : (.fieldLink "StandInMill$Face" 48 "StandInMill$Face" "allCount" "I" : Cond) ∈ WG := in_WG 14 rfl (List.mem_of_getElem? (i := 17) rfl)
theorem m_178 : (.methodLink "StandInMill$Face" 51 y_Fc_gather : Cond) ∈ WG := in_WG 14 rfl (List.mem_of_getElem? (i := 18) rfl)
theorem m_179 : (.instanceMethod y_Fc_gather : Cond) ∈ WG := in_WG 14 rfl (List.mem_of_getElem? (i := 19) rfl)
theorem m_180 : (.selects "StandInMill$Face" y_Fc_gather y_Fc_gather : Cond) ∈ WG := in_WG 14 rfl (List.mem_of_getElem? (i := 20) rfl)
theorem m_181 : (.methodLink "StandInMill$Face" 55 y_Fc_hasOwn : Cond) ∈ WG := in_WG 14 rfl (List.mem_of_getElem? (i := 21) rfl)
theorem m_182 : (.methodLink "StandInMill" 354 y_Fc_gatherOwn : Cond) ∈ WG := in_WG 14 rfl (List.mem_of_getElem? (i := 22) rfl)
theorem m_183 : (.instanceMethod y_Fc_gatherOwn : Cond) ∈ WG := in_WG 14 rfl (List.mem_of_getElem? (i := 23) rfl)
theorem m_184 : (.selects "StandInMill$Face" y_Fc_gatherOwn y_Fc_gatherOwn : Cond) ∈ WG := in_WG 14 rfl (List.mem_of_getElem? (i := 24) rfl)
theorem m_185 : (.methodLink "StandInMill" 360 y_Fc_gatherFrom : Cond) ∈ WG := in_WG 14 rfl (List.mem_of_getElem? (i := 25) rfl)
theorem m_186 : (.instanceMethod y_Fc_gatherFrom : Cond) ∈ WG := in_WG 14 rfl (List.mem_of_getElem? (i := 26) rfl)
theorem m_187 : (.selects "StandInMill$Face" y_Fc_gatherFrom y_Fc_gatherFrom : Cond) ∈ WG := in_WG 14 rfl (List.mem_of_getElem? (i := 27) rfl)
theorem m_188 : (.fieldLink "StandInMill$Draft" 30 "StandInMill$Draft" "size" "I" : Cond) ∈ WG := in_WG 14 rfl (List.mem_of_getElem? (i := 28) rfl)
theorem m_189 : (.methodLink "StandInMill$ClassRow" 27 y_Rw_clear : Cond) ∈ WG := in_WG 14 rfl (List.mem_of_getElem? (i := 29) rfl)
theorem m_190 : (.instanceMethod y_Rw_clear : Cond) ∈ WG := in_WG 14 rfl (List.mem_of_getElem? (i := 30) rfl)
theorem m_191 : (.selects "StandInMill$ClassRow" y_Rw_clear y_Rw_clear : Cond) ∈ WG := in_WG 14 rfl (List.mem_of_getElem? (i := 31) rfl)
theorem m_192 : (.methodLink "StandInMill$ClassRow" 30 y_Rw_add : Cond) ∈ WG := in_WG 14 rfl (List.mem_of_getElem? (i := 32) rfl)
theorem m_193 : (.methodLink "StandInMill$Types" 46 y_Ty_isBelowOneOf : Cond) ∈ WG := in_WG 14 rfl (List.mem_of_getElem? (i := 33) rfl)
theorem m_194 : (.instanceMethod y_Ty_isBelowOneOf : Cond) ∈ WG := in_WG 14 rfl (List.mem_of_getElem? (i := 34) rfl)
theorem m_195 : (.selects "StandInMill$Types" y_Ty_isBelowOneOf y_Ty_isBelowOneOf : Cond) ∈ WG := in_WG 14 rfl (List.mem_of_getElem? (i := 35) rfl)
theorem m_196 : (.methodLink "StandInMill$Types" 50 y_Rw_add : Cond) ∈ WG := in_WG 14 rfl (List.mem_of_getElem? (i := 36) rfl)
theorem m_197 : (.methodLink "StandInMill$Draft" 59 y_Rw_copyFrom : Cond) ∈ WG := in_WG 14 rfl (List.mem_of_getElem? (i := 37) rfl)
theorem m_198 : (.instanceMethod y_Rw_copyFrom : Cond) ∈ WG := in_WG 14 rfl (List.mem_of_getElem? (i := 38) rfl)
theorem m_199 : (.selects "StandInMill$ClassRow" y_Rw_copyFrom y_Rw_copyFrom : Cond) ∈ WG := in_WG 14 rfl (List.mem_of_getElem? (i := 39) rfl)
theorem m_200 : (.methodLink "StandInMill$Draft" 63 y_Rw_clear : Cond) ∈ WG := in_WG 15 rfl (List.mem_of_getElem? (i := 0) rfl)
theorem m_201 : (.methodLink "StandInMill$Draft" 66 y_Ty_addBelow : Cond) ∈ WG := in_WG 15 rfl (List.mem_of_getElem? (i := 1) rfl)
theorem m_202 : (.instanceMethod y_Ty_addBelow : Cond) ∈ WG := in_WG 15 rfl (List.mem_of_getElem? (i := 2) rfl)
theorem m_203 : (.selects "StandInMill$Types" y_Ty_addBelow y_Ty_addBelow : Cond) ∈ WG := in_WG 15 rfl (List.mem_of_getElem? (i := 3) rfl)
theorem m_204 : (.methodLink "StandInMill$StandMethod" 3 objectInit : Cond) ∈ WG := in_WG 15 rfl (List.mem_of_getElem? (i := 4) rfl)
theorem m_205 : (.classLink "StandInMill$StandMethod" 9 "StandInMill$ClassRow" : Cond) ∈ WG := in_WG 15 rfl (List.mem_of_getElem? (i := 5) rfl)
theorem m_206 : (.methodLink "StandInMill$StandMethod" 11 y_Rw_init : Cond) ∈ WG := in_WG 15 rfl (List.mem_of_getElem? (i := 6) rfl)
theorem m_207 : (.fieldLink "StandInMill$StandMethod" 14 "StandInMill$StandMethod" "thrown" "LStandInMill$ClassRow;" : Cond) ∈ WG := in_WG 15 rfl (List.mem_of_getElem? (i := 7) rfl)
theorem m_208 : (.fieldLink "StandInMill$StandMethod" 20 "StandInMill$StandMethod" "caught" "LStandInMill$ClassRow;" : Cond) ∈ WG := in_WG 15 rfl (List.mem_of_getElem? (i := 8) rfl)
theorem m_209 : (.instantiable "StandInMill$StandMethod" 3 : Cond) ∈ WG := in_WG 15 rfl (List.mem_of_getElem? (i := 9) rfl)
theorem m_210 : (.initialized "StandInMill$StandMethod" : Cond) ∈ WG := in_WG 15 rfl (List.mem_of_getElem? (i := 10) rfl)
theorem m_211 : (.instanceMethod y_Sm_init : Cond) ∈ WG := in_WG 15 rfl (List.mem_of_getElem? (i := 11) rfl)
theorem m_212 : (.methodLink "StandInMill$Draft" 38 y_Om_hasSignatureOf : Cond) ∈ WG := in_WG 15 rfl (List.mem_of_getElem? (i := 12) rfl)
theorem m_213 : (.instanceMethod y_Om_hasSignatureOf : Cond) ∈ WG := in_WG 15 rfl (List.mem_of_getElem? (i := 13) rfl)
theorem m_214 : (.selects "StandInMill$OwnMethod" y_Om_hasSignatureOf y_Om_hasSignatureOf : Cond) ∈ WG := in_WG 15 rfl (List.mem_of_getElem? (i := 14) rfl)
theorem m_215 : (.methodLink "StandInMill$Draft" 51 y_Dr_narrow : Cond) ∈ WG := in_WG 15 rfl (List.mem_of_getElem? (i := 15) rfl)
theorem m_216 : (.instanceMethod y_Dr_narrow : Cond) ∈ WG := in_WG 15 rfl (List.mem_of_getElem? (i := 16) rfl)
theorem m_217 : (.selects "StandInMill$Draft" y_Dr_narrow y_Dr_narrow : Cond) ∈ WG := in_WG 15 rfl (List.mem_of_getElem? (i := 17) rfl)
theorem m_218 : (.methodLink "StandInMill$Draft" 55 y_Dr_insert : Cond) ∈ WG := in_WG 15 rfl (List.mem_of_getElem? (i := 18) rfl)
theorem m_219 : (.instanceMethod y_Dr_insert : Cond) ∈ WG := in_WG 15 rfl (List.mem_of_getElem? (i := 19) rfl)
theorem m_220 : (.selects "StandInMill$Draft" y_Dr_insert y_Dr_insert : Cond) ∈ WG := in_WG 15 rfl (List.mem_of_getElem? (i := 20) rfl)
theorem m_221 : (.methodLink "StandInMill" 342 y_Dr_clear : Cond) ∈ WG := in_WG 15 rfl (List.mem_of_getElem? (i := 21) rfl)
theorem m_222 : (.instanceMethod y_Dr_clear : Cond) ∈ WG := in_WG 15 rfl (List.mem_of_getElem? (i := 22) rfl)
theorem m_223 : (.selects "StandInMill$Draft" y_Dr_clear y_Dr_clear : Cond) ∈ WG := in_WG 15 rfl (List.mem_of_getElem? (i := 23) rfl)
theorem m_224 : (.methodLink "StandInMill" 345 y_Dr_take : Cond) ∈ WG := in_WG 15 rfl (List.mem_of_getElem? (i := 24) rfl)
theorem m_225 : (.instanceMethod y_Dr_take : Cond) ∈ WG := in_WG 15 rfl (List.mem_of_getElem? (i := 25) rfl)
theorem m_226 : (.selects "StandInMill$Draft" y_Dr_take y_Dr_take : Cond) ∈ WG := in_WG 15 rfl (List.mem_of_getElem? (i := 26) rfl)
theorem m_227 : (.methodLink "StandInMill" 339 y_M_gatherMethods : Cond) ∈ WG := in_WG 15 rfl (List.mem_of_getElem? (i := 27) rfl)
theorem m_228 : (.instanceMethod y_M_gatherMethods : Cond) ∈ WG := in_WG 15 rfl (List.mem_of_getElem? (i := 28) rfl)
theorem m_229 : (.selects "StandInMill" y_M_gatherMethods y_M_gatherMethods : Cond) ∈ WG := in_WG 15 rfl (List.mem_of_getElem? (i := 29) rfl)
theorem m_230 : (.methodLink "StandInMill$Draft" 89 y_Ty_isBelow : Cond) ∈ WG := in_WG 15 rfl (List.mem_of_getElem? (i := 30) rfl)
theorem m_231 : (.methodLink "StandInMill$Draft" 85 y_Dr_isBelowAll : Cond) ∈ WG := in_WG 15 rfl (List.mem_of_getElem? (i := 31) rfl)
theorem m_232 : (.instanceMethod y_Dr_isBelowAll : Cond) ∈ WG := in_WG 15 rfl (List.mem_of_getElem? (i := 32) rfl)
theorem m_233 : (.selects "StandInMill$Draft" y_Dr_isBelowAll y_Dr_isBelowAll : Cond) ∈ WG := in_WG 15 rfl (List.mem_of_getElem? (i := 33) rfl)
theorem m_234 : (.methodLink "StandInMill$Draft" 73 y_Dr_endOfSignature : Cond) ∈ WG := in_WG 15 rfl (List.mem_of_getElem? (i := 34) rfl)
theorem m_235 : (.instanceMethod y_Dr_endOfSignature : Cond) ∈ WG := in_WG 15 rfl (List.mem_of_getElem? (i := 35) rfl)
theorem m_236 : (.selects "StandInMill$Draft" y_Dr_endOfSignature y_Dr_endOfSignature : Cond) ∈ WG := in_WG 15 rfl (List.mem_of_getElem? (i := 36) rfl)
theorem m_237 : (.methodLink "StandInMill$Draft" 77 y_Dr_resultsAgreeWithin : Cond) ∈ WG := in_WG 15 rfl (List.mem_of_getElem? (i := 37) rfl)
theorem m_238 : (.instanceMethod y_Dr_resultsAgreeWithin : Cond) ∈ WG := in_WG 15 rfl (List.mem_of_getElem? (i := 38) rfl)
theorem m_239 : (.selects "StandInMill$Draft" y_Dr_resultsAgreeWithin y_Dr_resultsAgreeWithin : Cond) ∈ WG := in_WG 15 rfl (List.mem_of_getElem? (i := 39) rfl)
theorem m_240 : (.methodLink "StandInMill" 328 y_Dr_resultsAgree : Cond) ∈ WG := in_WG 16 rfl (List.mem_of_getElem? (i := 0) rfl)
theorem m_241 : (.instanceMethod y_Dr_resultsAgree : Cond) ∈ WG := in_WG 16 rfl (List.mem_of_getElem? (i := 1) rfl)
theorem m_242 : (.selects "StandInMill$Draft" y_Dr_resultsAgree y_Dr_resultsAgree : Cond) ∈ WG := in_WG 16 rfl (List.mem_of_getElem? (i := 2) rfl)
theorem m_243 : (.methodLink "StandInMill$StandIn" 3 objectInit : Cond) ∈ WG := in_WG 16 rfl (List.mem_of_getElem? (i := 3) rfl)
theorem m_244 : (.fieldLink "StandInMill$StandIn" 9 "StandInMill$StandIn" "handled" "I" : Cond) ∈ WG := in_WG 16 rfl (List.mem_of_getElem? (i := 4) rfl)
theorem m_245 : (.fieldLink "StandInMill$StandIn" 15 "StandInMill$StandIn" "loader" "I" : Cond) ∈ WG := in_WG 16 rfl (List.mem_of_getElem? (i := 5) rfl)
theorem m_246 : (.fieldLink "StandInMill$StandIn" 18 "StandInMill$StandIn" "listed" "I" : Cond) ∈ WG := in_WG 16 rfl (List.mem_of_getElem? (i := 6) rfl)
theorem m_247 : (.fieldLink "StandInMill$StandIn" 21 "StandInMill$StandIn" "pack" "I" : Cond) ∈ WG := in_WG 16 rfl (List.mem_of_getElem? (i := 7) rfl)
theorem m_248 : (.fieldLink "StandInMill$StandIn" 24 "StandInMill$StandIn" "number" "I" : Cond) ∈ WG := in_WG 16 rfl (List.mem_of_getElem? (i := 8) rfl)
theorem m_249 : (.classLink "StandInMill$StandIn" 27 "StandInMill$StandMethod" : Cond) ∈ WG := in_WG 16 rfl (List.mem_of_getElem? (i := 9) rfl)
theorem m_250 : (.fieldLink "StandInMill$StandIn" 29 "StandInMill$StandIn" "methods" "[LStandInMill$StandMethod;" : Cond) ∈ WG := in_WG 16 rfl (List.mem_of_getElem? (i := 10) rfl)
theorem m_251 : (.methodLink "StandInMill$Draft" 99 y_Rw_has : Cond) ∈ WG := in_WG 16 rfl (List.mem_of_getElem? (i := 11) rfl)
theorem m_252 : (.methodLink "StandInMill$Draft" 102 y_Rw_add : Cond) ∈ WG := in_WG 16 rfl (List.mem_of_getElem? (i := 12) rfl)
theorem m_253 : (.methodLink "StandInMill$Draft" 106 y_Rw_at : Cond) ∈ WG := in_WG 16 rfl (List.mem_of_getElem? (i := 13) rfl)
theorem m_254 : (.instanceMethod y_Rw_at : Cond) ∈ WG := in_WG 16 rfl (List.mem_of_getElem? (i := 14) rfl)
theorem m_255 : (.selects "StandInMill$ClassRow" y_Rw_at y_Rw_at : Cond) ∈ WG := in_WG 16 rfl (List.mem_of_getElem? (i := 15) rfl)
theorem m_256 : (.methodLink "StandInMill$Draft" 109 y_Ty_isBelowOneOf : Cond) ∈ WG := in_WG 16 rfl (List.mem_of_getElem? (i := 16) rfl)
theorem m_257 : (.methodLink "StandInMill$Draft" 113 y_Ty_dropBelow : Cond) ∈ WG := in_WG 16 rfl (List.mem_of_getElem? (i := 17) rfl)
theorem m_258 : (.instanceMethod y_Ty_dropBelow : Cond) ∈ WG := in_WG 16 rfl (List.mem_of_getElem? (i := 18) rfl)
theorem m_259 : (.selects "StandInMill$Types" y_Ty_dropBelow y_Ty_dropBelow : Cond) ∈ WG := in_WG 16 rfl (List.mem_of_getElem? (i := 19) rfl)
theorem m_260 : (.methodLink "StandInMill$Draft" 92 y_Dr_fillCaught : Cond) ∈ WG := in_WG 16 rfl (List.mem_of_getElem? (i := 20) rfl)
theorem m_261 : (.instanceMethod y_Dr_fillCaught : Cond) ∈ WG := in_WG 16 rfl (List.mem_of_getElem? (i := 21) rfl)
theorem m_262 : (.selects "StandInMill$Draft" y_Dr_fillCaught y_Dr_fillCaught : Cond) ∈ WG := in_WG 16 rfl (List.mem_of_getElem? (i := 22) rfl)
theorem m_263 : (.instantiable "StandInMill$StandIn" 8 : Cond) ∈ WG := in_WG 16 rfl (List.mem_of_getElem? (i := 23) rfl)
theorem m_264 : (.initialized "StandInMill$StandIn" : Cond) ∈ WG := in_WG 16 rfl (List.mem_of_getElem? (i := 24) rfl)
theorem m_265 : (.methodLink "StandInMill" 364 y_M_standsOfPackage : Cond) ∈ WG := in_WG 16 rfl (List.mem_of_getElem? (i := 25) rfl)
theorem m_266 : (.instanceMethod y_M_standsOfPackage : Cond) ∈ WG := in_WG 16 rfl (List.mem_of_getElem? (i := 26) rfl)
theorem m_267 : (.selects "StandInMill" y_M_standsOfPackage y_M_standsOfPackage : Cond) ∈ WG := in_WG 16 rfl (List.mem_of_getElem? (i := 27) rfl)
theorem m_268 : (.methodLink "StandInMill" 367 y_Si_init : Cond) ∈ WG := in_WG 16 rfl (List.mem_of_getElem? (i := 28) rfl)
theorem m_269 : (.instanceMethod y_Si_init : Cond) ∈ WG := in_WG 16 rfl (List.mem_of_getElem? (i := 29) rfl)
theorem m_270 : (.methodLink "StandInMill" 368 y_Dr_handOver : Cond) ∈ WG := in_WG 16 rfl (List.mem_of_getElem? (i := 30) rfl)
theorem m_271 : (.instanceMethod y_Dr_handOver : Cond) ∈ WG := in_WG 16 rfl (List.mem_of_getElem? (i := 31) rfl)
theorem m_272 : (.selects "StandInMill$Draft" y_Dr_handOver y_Dr_handOver : Cond) ∈ WG := in_WG 16 rfl (List.mem_of_getElem? (i := 32) rfl)
theorem m_273 : (.fieldLink "StandInMill$UnitWriter" 35 "StandInMill$UnitWriter" "bodySize" "I" : Cond) ∈ WG := in_WG 16 rfl (List.mem_of_getElem? (i := 33) rfl)
theorem m_274 : (.fieldLink "StandInMill$UnitWriter" 32 "StandInMill$UnitWriter" "poolSize" "I" : Cond) ∈ WG := in_WG 16 rfl (List.mem_of_getElem? (i := 34) rfl)
theorem m_275 : (.methodLink "StandInMill$UnitWriter" 43 y_Uw_put : Cond) ∈ WG := in_WG 16 rfl (List.mem_of_getElem? (i := 35) rfl)
theorem m_276 : (.instanceMethod y_Uw_put : Cond) ∈ WG := in_WG 16 rfl (List.mem_of_getElem? (i := 36) rfl)
theorem m_277 : (.selects "StandInMill$UnitWriter" y_Uw_put y_Uw_put : Cond) ∈ WG := in_WG 16 rfl (List.mem_of_getElem? (i := 37) rfl)
theorem m_278 : (.fieldLink "StandInMill$UnitWriter" 28 "StandInMill$UnitWriter" "entryCount" "I" : Cond) ∈ WG := in_WG 16 rfl (List.mem_of_getElem? (i := 38) rfl)
theorem m_279 : (.methodLink "StandInMill$UnitWriter" 151 y_Uw_putInPool : Cond) ∈ WG := in_WG 16 rfl (List.mem_of_getElem? (i := 39) rfl)
theorem m_280 : (.instanceMethod y_Uw_putInPool : Cond) ∈ WG := in_WG 17 rfl (List.mem_of_getElem? (i := 0) rfl)
theorem m_281 : (.selects "StandInMill$UnitWriter" y_Uw_putInPool y_Uw_putInPool : Cond) ∈ WG := in_WG 17 rfl (List.mem_of_getElem? (i := 1) rfl)
theorem m_282 : (.methodLink "StandInMill$UnitWriter" 85 y_Uw_putEntry : Cond) ∈ WG := in_WG 17 rfl (List.mem_of_getElem? (i := 2) rfl)
theorem m_283 : (.instanceMethod y_Uw_putEntry : Cond) ∈ WG := in_WG 17 rfl (List.mem_of_getElem? (i := 3) rfl)
theorem m_284 : (.selects "StandInMill$UnitWriter" y_Uw_putEntry y_Uw_putEntry : Cond) ∈ WG := in_WG 17 rfl (List.mem_of_getElem? (i := 4) rfl)
theorem m_285 : (.methodLink "StandInMill$UnitWriter" 95 y_Uw_putType : Cond) ∈ WG := in_WG 17 rfl (List.mem_of_getElem? (i := 5) rfl)
theorem m_286 : (.instanceMethod y_Uw_putType : Cond) ∈ WG := in_WG 17 rfl (List.mem_of_getElem? (i := 6) rfl)
theorem m_287 : (.selects "StandInMill$UnitWriter" y_Uw_putType y_Uw_putType : Cond) ∈ WG := in_WG 17 rfl (List.mem_of_getElem? (i := 7) rfl)
theorem m_288 : (.methodLink "StandInMill$UnitWriter" 126 y_Rw_at : Cond) ∈ WG := in_WG 17 rfl (List.mem_of_getElem? (i := 8) rfl)
theorem m_289 : (.methodLink "StandInMill$UnitWriter" 133 y_Om_parameterCount : Cond) ∈ WG := in_WG 17 rfl (List.mem_of_getElem? (i := 9) rfl)
theorem m_290 : (.instanceMethod y_Om_parameterCount : Cond) ∈ WG := in_WG 17 rfl (List.mem_of_getElem? (i := 10) rfl)
theorem m_291 : (.selects "StandInMill$OwnMethod" y_Om_parameterCount y_Om_parameterCount : Cond) ∈ WG := in_WG 17 rfl (List.mem_of_getElem? (i := 11) rfl)
theorem m_292 : (.methodLink "StandInMill$UnitWriter" 129 y_Uw_putMethodEntry : Cond) ∈ WG := in_WG 17 rfl (List.mem_of_getElem? (i := 12) rfl)
theorem m_293 : (.instanceMethod y_Uw_putMethodEntry : Cond) ∈ WG := in_WG 17 rfl (List.mem_of_getElem? (i := 13) rfl)
theorem m_294 : (.selects "StandInMill$UnitWriter" y_Uw_putMethodEntry y_Uw_putMethodEntry : Cond) ∈ WG := in_WG 17 rfl (List.mem_of_getElem? (i := 14) rfl)
theorem m_295 : (.methodLink "StandInMill$UnitWriter" 137 y_Uw_putParameterCode : Cond) ∈ WG := in_WG 17 rfl (List.mem_of_getElem? (i := 15) rfl)
theorem m_296 : (.instanceMethod y_Uw_putParameterCode : Cond) ∈ WG := in_WG 17 rfl (List.mem_of_getElem? (i := 16) rfl)
theorem m_297 : (.selects "StandInMill$UnitWriter" y_Uw_putParameterCode y_Uw_putParameterCode : Cond) ∈ WG := in_WG 17 rfl (List.mem_of_getElem? (i := 17) rfl)
theorem m_298 : (.methodLink "StandInMill$UnitWriter" 140 y_Uw_putResultCode : Cond) ∈ WG := in_WG 17 rfl (List.mem_of_getElem? (i := 18) rfl)
theorem m_299 : (.instanceMethod y_Uw_putResultCode : Cond) ∈ WG := in_WG 17 rfl (List.mem_of_getElem? (i := 19) rfl)
theorem m_300 : (.selects "StandInMill$UnitWriter" y_Uw_putResultCode y_Uw_putResultCode : Cond) ∈ WG := in_WG 17 rfl (List.mem_of_getElem? (i := 20) rfl)
theorem m_301 : (.methodLink "StandInMill$UnitWriter" 53 y_Uw_putTypes : Cond) ∈ WG := in_WG 17 rfl (List.mem_of_getElem? (i := 21) rfl)
theorem m_302 : (.instanceMethod y_Uw_putTypes : Cond) ∈ WG := in_WG 17 rfl (List.mem_of_getElem? (i := 22) rfl)
theorem m_303 : (.selects "StandInMill$UnitWriter" y_Uw_putTypes y_Uw_putTypes : Cond) ∈ WG := in_WG 17 rfl (List.mem_of_getElem? (i := 23) rfl)
theorem m_304 : (.methodLink "StandInMill$UnitWriter" 102 y_Uw_putRow : Cond) ∈ WG := in_WG 17 rfl (List.mem_of_getElem? (i := 24) rfl)
theorem m_305 : (.instanceMethod y_Uw_putRow : Cond) ∈ WG := in_WG 17 rfl (List.mem_of_getElem? (i := 25) rfl)
theorem m_306 : (.selects "StandInMill$UnitWriter" y_Uw_putRow y_Uw_putRow : Cond) ∈ WG := in_WG 17 rfl (List.mem_of_getElem? (i := 26) rfl)
theorem m_307 : (.methodLink "StandInMill$UnitWriter" 114 y_Uw_putCode : Cond) ∈ WG := in_WG 17 rfl (List.mem_of_getElem? (i := 27) rfl)
theorem m_308 : (.instanceMethod y_Uw_putCode : Cond) ∈ WG := in_WG 17 rfl (List.mem_of_getElem? (i := 28) rfl)
theorem m_309 : (.selects "StandInMill$UnitWriter" y_Uw_putCode y_Uw_putCode : Cond) ∈ WG := in_WG 17 rfl (List.mem_of_getElem? (i := 29) rfl)
theorem m_310 : (.methodLink "StandInMill$UnitWriter" 68 arraycopyName : Cond) ∈ WG := in_WG 17 rfl (List.mem_of_getElem? (i := 30) rfl)
theorem m_311 : (.native arraycopyName : Cond) ∈ WG := in_WG 17 rfl (List.mem_of_getElem? (i := 31) rfl)
theorem m_312 : (.static arraycopyName : Cond) ∈ WG := in_WG 17 rfl (List.mem_of_getElem? (i := 32) rfl)
theorem m_313 : (.initialized "java/lang/System" : Cond) ∈ WG := in_WG 17 rfl (List.mem_of_getElem? (i := 33) rfl)
theorem m_314 : (.methodLink "StandInMill$UnitWriter" 22 y_Ar_fillI : Cond) ∈ WG := in_WG 17 rfl (List.mem_of_getElem? (i := 34) rfl)
theorem m_315 : (.static y_Ar_fillI : Cond) ∈ WG := in_WG 17 rfl (List.mem_of_getElem? (i := 35) rfl)
theorem m_316 : (.methodLink "StandInMill$UnitWriter" 60 y_Uw_putMethod : Cond) ∈ WG := in_WG 17 rfl (List.mem_of_getElem? (i := 36) rfl)
theorem m_317 : (.instanceMethod y_Uw_putMethod : Cond) ∈ WG := in_WG 17 rfl (List.mem_of_getElem? (i := 37) rfl)
theorem m_318 : (.selects "StandInMill$UnitWriter" y_Uw_putMethod y_Uw_putMethod : Cond) ∈ WG := in_WG 17 rfl (List.mem_of_getElem? (i := 38) rfl)
theorem m_319 : (.methodLink "StandInMill$UnitWriter" 64 y_Uw_joined : Cond) ∈ WG := in_WG 17 rfl (List.mem_of_getElem? (i := 39) rfl)
theorem m_320 : (.instanceMethod y_Uw_joined : Cond) ∈ WG := in_WG 18 rfl (List.mem_of_getElem? (i := 0) rfl)
theorem m_321 : (.selects "StandInMill$UnitWriter" y_Uw_joined y_Uw_joined : Cond) ∈ WG := in_WG 18 rfl (List.mem_of_getElem? (i := 1) rfl)
theorem m_322 : (.fieldLink "StandInMill" 194 "StandInMill" "latestFault" "I" : Cond) ∈ WG := in_WG 18 rfl (List.mem_of_getElem? (i := 2) rfl)
theorem m_323 : (.methodLink "StandInMill" 197 y_M_areFaces : Cond) ∈ WG := in_WG 18 rfl (List.mem_of_getElem? (i := 3) rfl)
theorem m_324 : (.instanceMethod y_M_areFaces : Cond) ∈ WG := in_WG 18 rfl (List.mem_of_getElem? (i := 4) rfl)
theorem m_325 : (.selects "StandInMill" y_M_areFaces y_M_areFaces : Cond) ∈ WG := in_WG 18 rfl (List.mem_of_getElem? (i := 5) rfl)
theorem m_326 : (.methodLink "StandInMill" 207 y_M_standMadeFor : Cond) ∈ WG := in_WG 18 rfl (List.mem_of_getElem? (i := 6) rfl)
theorem m_327 : (.instanceMethod y_M_standMadeFor : Cond) ∈ WG := in_WG 18 rfl (List.mem_of_getElem? (i := 7) rfl)
theorem m_328 : (.selects "StandInMill" y_M_standMadeFor y_M_standMadeFor : Cond) ∈ WG := in_WG 18 rfl (List.mem_of_getElem? (i := 8) rfl)
theorem m_329 : (.methodLink "StandInMill" 211 y_M_faultOfList : Cond) ∈ WG := in_WG 18 rfl (List.mem_of_getElem? (i := 9) rfl)
theorem m_330 : (.instanceMethod y_M_faultOfList : Cond) ∈ WG := in_WG 18 rfl (List.mem_of_getElem? (i := 10) rfl)
theorem m_331 : (.selects "StandInMill" y_M_faultOfList y_M_faultOfList : Cond) ∈ WG := in_WG 18 rfl (List.mem_of_getElem? (i := 11) rfl)
theorem m_332 : (.methodLink "StandInMill" 226 y_M_madeOfDraft : Cond) ∈ WG := in_WG 18 rfl (List.mem_of_getElem? (i := 12) rfl)
theorem m_333 : (.instanceMethod y_M_madeOfDraft : Cond) ∈ WG := in_WG 18 rfl (List.mem_of_getElem? (i := 13) rfl)
theorem m_334 : (.selects "StandInMill" y_M_madeOfDraft y_M_madeOfDraft : Cond) ∈ WG := in_WG 18 rfl (List.mem_of_getElem? (i := 14) rfl)
theorem m_335 : (.methodLink "StandInMill" 230 y_Uw_write : Cond) ∈ WG := in_WG 18 rfl (List.mem_of_getElem? (i := 15) rfl)
theorem m_336 : (.instanceMethod y_Uw_write : Cond) ∈ WG := in_WG 18 rfl (List.mem_of_getElem? (i := 16) rfl)
theorem m_337 : (.selects "StandInMill$UnitWriter" y_Uw_write y_Uw_write : Cond) ∈ WG := in_WG 18 rfl (List.mem_of_getElem? (i := 17) rfl)
theorem m_338 : (.methodLink "StandInMill" 214 y_M_fillDraft : Cond) ∈ WG := in_WG 18 rfl (List.mem_of_getElem? (i := 18) rfl)
theorem m_339 : (.instanceMethod y_M_fillDraft : Cond) ∈ WG := in_WG 18 rfl (List.mem_of_getElem? (i := 19) rfl)
theorem m_340 : (.selects "StandInMill" y_M_fillDraft y_M_fillDraft : Cond) ∈ WG := in_WG 18 rfl (List.mem_of_getElem? (i := 20) rfl)
theorem m_341 : (.methodLink "StandInMill" 217 y_M_faultOfDraft : Cond) ∈ WG := in_WG 18 rfl (List.mem_of_getElem? (i := 21) rfl)
theorem m_342 : (.instanceMethod y_M_faultOfDraft : Cond) ∈ WG := in_WG 18 rfl (List.mem_of_getElem? (i := 22) rfl)
theorem m_343 : (.selects "StandInMill" y_M_faultOfDraft y_M_faultOfDraft : Cond) ∈ WG := in_WG 18 rfl (List.mem_of_getElem? (i := 23) rfl)
theorem m_344 : (.classLink "StandInMill" 200 "java/lang/IndexOutOfBoundsException" : Cond) ∈ WG := in_WG 18 rfl (List.mem_of_getElem? (i := 24) rfl)
theorem m_345 : (.instantiable "java/lang/IndexOutOfBoundsException" 6 : Cond) ∈ WG := in_WG 18 rfl (List.mem_of_getElem? (i := 25) rfl)
theorem m_346 : (.initialized "java/lang/IndexOutOfBoundsException" : Cond) ∈ WG := in_WG 18 rfl (List.mem_of_getElem? (i := 26) rfl)
theorem m_347 : (.classLink "StandInMill" 221 "java/lang/IllegalArgumentException" : Cond) ∈ WG := in_WG 18 rfl (List.mem_of_getElem? (i := 27) rfl)
theorem m_348 : (.instantiable "java/lang/IllegalArgumentException" 6 : Cond) ∈ WG := in_WG 18 rfl (List.mem_of_getElem? (i := 28) rfl)
theorem m_349 : (.initialized "java/lang/IllegalArgumentException" : Cond) ∈ WG := in_WG 18 rfl (List.mem_of_getElem? (i := 29) rfl)
theorem m_350 : (.methodLink "StandInMill" 249 y_M_hasMethod : Cond) ∈ WG := in_WG 18 rfl (List.mem_of_getElem? (i := 30) rfl)
theorem m_351 : (.instanceMethod y_M_hasMethod : Cond) ∈ WG := in_WG 18 rfl (List.mem_of_getElem? (i := 31) rfl)
theorem m_352 : (.selects "StandInMill" y_M_hasMethod y_M_hasMethod : Cond) ∈ WG := in_WG 18 rfl (List.mem_of_getElem? (i := 32) rfl)
theorem m_353 : (.methodLink "StandInMill" 261 y_Rw_at : Cond) ∈ WG := in_WG 18 rfl (List.mem_of_getElem? (i := 33) rfl)
theorem m_354 : (.methodLink "StandInMill" 372 y_Om_parameterCount : Cond) ∈ WG := in_WG 18 rfl (List.mem_of_getElem? (i := 34) rfl)
theorem m_355 : (.methodLink "StandInMill" 375 y_M_isPlain : Cond) ∈ WG := in_WG 18 rfl (List.mem_of_getElem? (i := 35) rfl)
theorem m_356 : (.methodLink "StandInMill" 378 y_M_isObjectBelow : Cond) ∈ WG := in_WG 18 rfl (List.mem_of_getElem? (i := 36) rfl)
theorem m_357 : (.instanceMethod y_M_isObjectBelow : Cond) ∈ WG := in_WG 18 rfl (List.mem_of_getElem? (i := 37) rfl)
theorem m_358 : (.selects "StandInMill" y_M_isObjectBelow y_M_isObjectBelow : Cond) ∈ WG := in_WG 18 rfl (List.mem_of_getElem? (i := 38) rfl)
theorem m_359 : (.methodLink "StandInMill" 382 y_M_showObject : Cond) ∈ WG := in_WG 18 rfl (List.mem_of_getElem? (i := 39) rfl)
theorem m_360 : (.instanceMethod y_M_showObject : Cond) ∈ WG := in_WG 19 rfl (List.mem_of_getElem? (i := 0) rfl)
theorem m_361 : (.selects "StandInMill" y_M_showObject y_M_showObject : Cond) ∈ WG := in_WG 19 rfl (List.mem_of_getElem? (i := 1) rfl)
theorem m_362 : (.methodLink "StandInMill" 385 y_Ty_isBelowOneOf : Cond) ∈ WG := in_WG 19 rfl (List.mem_of_getElem? (i := 2) rfl)
theorem m_363 : (.methodLink "StandInMill" 289 y_M_takesGiven : Cond) ∈ WG := in_WG 19 rfl (List.mem_of_getElem? (i := 3) rfl)
theorem m_364 : (.instanceMethod y_M_takesGiven : Cond) ∈ WG := in_WG 19 rfl (List.mem_of_getElem? (i := 4) rfl)
theorem m_365 : (.selects "StandInMill" y_M_takesGiven y_M_takesGiven : Cond) ∈ WG := in_WG 19 rfl (List.mem_of_getElem? (i := 5) rfl)
theorem m_366 : (.methodLink "StandInMill" 295 y_M_showHandler : Cond) ∈ WG := in_WG 19 rfl (List.mem_of_getElem? (i := 6) rfl)
theorem m_367 : (.instanceMethod y_M_showHandler : Cond) ∈ WG := in_WG 19 rfl (List.mem_of_getElem? (i := 7) rfl)
theorem m_368 : (.selects "StandInMill" y_M_showHandler y_M_showHandler : Cond) ∈ WG := in_WG 19 rfl (List.mem_of_getElem? (i := 8) rfl)
theorem m_369 : (.methodLink "StandInMill" 302 y_M_fitAnswer : Cond) ∈ WG := in_WG 19 rfl (List.mem_of_getElem? (i := 9) rfl)
theorem m_370 : (.instanceMethod y_M_fitAnswer : Cond) ∈ WG := in_WG 19 rfl (List.mem_of_getElem? (i := 10) rfl)
theorem m_371 : (.selects "StandInMill" y_M_fitAnswer y_M_fitAnswer : Cond) ∈ WG := in_WG 19 rfl (List.mem_of_getElem? (i := 11) rfl)
theorem m_372 : (.methodLink "StandInMill" 298 y_M_fitThrown : Cond) ∈ WG := in_WG 19 rfl (List.mem_of_getElem? (i := 12) rfl)
theorem m_373 : (.instanceMethod y_M_fitThrown : Cond) ∈ WG := in_WG 19 rfl (List.mem_of_getElem? (i := 13) rfl)
theorem m_374 : (.selects "StandInMill" y_M_fitThrown y_M_fitThrown : Cond) ∈ WG := in_WG 19 rfl (List.mem_of_getElem? (i := 14) rfl)
theorem m_375 : (.methodLink "StandInMillModel" 1 objectInit : Cond) ∈ WG := in_WG 19 rfl (List.mem_of_getElem? (i := 15) rfl)
theorem m_376 : (.fieldLink "StandInMillModel" 7 "StandInMillModel" "thrownCode" "I" : Cond) ∈ WG := in_WG 19 rfl (List.mem_of_getElem? (i := 16) rfl)
theorem m_377 : (.fieldLink "StandInMillModel" 13 "StandInMillModel" "loaders" "I" : Cond) ∈ WG := in_WG 19 rfl (List.mem_of_getElem? (i := 17) rfl)
theorem m_378 : (.fieldLink "StandInMillModel" 16 "StandInMillModel" "parentLoader" "[I" : Cond) ∈ WG := in_WG 19 rfl (List.mem_of_getElem? (i := 18) rfl)
theorem m_379 : (.fieldLink "StandInMillModel" 20 "StandInMillModel" "classes" "I" : Cond) ∈ WG := in_WG 19 rfl (List.mem_of_getElem? (i := 19) rfl)
theorem m_380 : (.fieldLink "StandInMillModel" 23 "StandInMillModel" "parentClass" "[I" : Cond) ∈ WG := in_WG 19 rfl (List.mem_of_getElem? (i := 20) rfl)
theorem m_381 : (.fieldLink "StandInMillModel" 26 "StandInMillModel" "faces" "I" : Cond) ∈ WG := in_WG 19 rfl (List.mem_of_getElem? (i := 21) rfl)
theorem m_382 : (.fieldLink "StandInMillModel" 29 "StandInMillModel" "faceLoader" "[I" : Cond) ∈ WG := in_WG 19 rfl (List.mem_of_getElem? (i := 22) rfl)
theorem m_383 : (.fieldLink "StandInMillModel" 32 "StandInMillModel" "faceName" "[I" : Cond) ∈ WG := in_WG 19 rfl (List.mem_of_getElem? (i := 23) rfl)
theorem m_384 : (.fieldLink "StandInMillModel" 35 "StandInMillModel" "facePack" "[I" : Cond) ∈ WG := in_WG 19 rfl (List.mem_of_getElem? (i := 24) rfl)
theorem m_385 : (.arrayClass (.boolean) : Cond) ∈ WG := in_WG 19 rfl (List.mem_of_getElem? (i := 25) rfl)
theorem m_386 : (.fieldLink "StandInMillModel" 38 "StandInMillModel" "faceOpen" "[Z" : Cond) ∈ WG := in_WG 19 rfl (List.mem_of_getElem? (i := 26) rfl)
theorem m_387 : (.fieldLink "StandInMillModel" 42 "StandInMillModel" "faceParents" "[I" : Cond) ∈ WG := in_WG 19 rfl (List.mem_of_getElem? (i := 27) rfl)
theorem m_388 : (.fieldLink "StandInMillModel" 45 "StandInMillModel" "parentCount" "[I" : Cond) ∈ WG := in_WG 19 rfl (List.mem_of_getElem? (i := 28) rfl)
theorem m_389 : (.fieldLink "StandInMillModel" 48 "StandInMillModel" "ownCount" "[I" : Cond) ∈ WG := in_WG 19 rfl (List.mem_of_getElem? (i := 29) rfl)
theorem m_390 : (.fieldLink "StandInMillModel" 51 "StandInMillModel" "name" "[I" : Cond) ∈ WG := in_WG 19 rfl (List.mem_of_getElem? (i := 30) rfl)
theorem m_391 : (.fieldLink "StandInMillModel" 54 "StandInMillModel" "result" "[I" : Cond) ∈ WG := in_WG 19 rfl (List.mem_of_getElem? (i := 31) rfl)
theorem m_392 : (.fieldLink "StandInMillModel" 57 "StandInMillModel" "takes" "[I" : Cond) ∈ WG := in_WG 19 rfl (List.mem_of_getElem? (i := 32) rfl)
theorem m_393 : (.fieldLink "StandInMillModel" 60 "StandInMillModel" "throwCount" "[I" : Cond) ∈ WG := in_WG 19 rfl (List.mem_of_getElem? (i := 33) rfl)
theorem m_394 : (.fieldLink "StandInMillModel" 63 "StandInMillModel" "throwsOf" "[I" : Cond) ∈ WG := in_WG 19 rfl (List.mem_of_getElem? (i := 34) rfl)
theorem m_395 : (.fieldLink "StandInMillModel" 66 "StandInMillModel" "objects" "I" : Cond) ∈ WG := in_WG 19 rfl (List.mem_of_getElem? (i := 35) rfl)
theorem m_396 : (.fieldLink "StandInMillModel" 69 "StandInMillModel" "objectType" "[I" : Cond) ∈ WG := in_WG 19 rfl (List.mem_of_getElem? (i := 36) rfl)
theorem m_397 : (.fieldLink "StandInMillModel" 72 "StandInMillModel" "objectValue" "[J" : Cond) ∈ WG := in_WG 19 rfl (List.mem_of_getElem? (i := 37) rfl)
theorem m_398 : (.fieldLink "StandInMillModel" 76 "StandInMillModel" "stands" "I" : Cond) ∈ WG := in_WG 19 rfl (List.mem_of_getElem? (i := 38) rfl)
theorem m_399 : (.fieldLink "StandInMillModel" 79 "StandInMillModel" "standLoader" "[I" : Cond) ∈ WG := in_WG 19 rfl (List.mem_of_getElem? (i := 39) rfl)
theorem m_400 : (.fieldLink "StandInMillModel" 82 "StandInMillModel" "standList" "[I" : Cond) ∈ WG := in_WG 20 rfl (List.mem_of_getElem? (i := 0) rfl)
theorem m_401 : (.fieldLink "StandInMillModel" 85 "StandInMillModel" "standPack" "[I" : Cond) ∈ WG := in_WG 20 rfl (List.mem_of_getElem? (i := 1) rfl)
theorem m_402 : (.fieldLink "StandInMillModel" 88 "StandInMillModel" "standNumber" "[I" : Cond) ∈ WG := in_WG 20 rfl (List.mem_of_getElem? (i := 2) rfl)
theorem m_403 : (.fieldLink "StandInMillModel" 91 "StandInMillModel" "handler" "[I" : Cond) ∈ WG := in_WG 20 rfl (List.mem_of_getElem? (i := 3) rfl)
theorem m_404 : (.fieldLink "StandInMillModel" 94 "StandInMillModel" "handlerThrows" "[Z" : Cond) ∈ WG := in_WG 20 rfl (List.mem_of_getElem? (i := 4) rfl)
theorem m_405 : (.fieldLink "StandInMillModel" 97 "StandInMillModel" "faultNow" "I" : Cond) ∈ WG := in_WG 20 rfl (List.mem_of_getElem? (i := 5) rfl)
theorem m_406 : (.fieldLink "StandInMillModel" 100 "StandInMillModel" "all" "[I" : Cond) ∈ WG := in_WG 20 rfl (List.mem_of_getElem? (i := 6) rfl)
theorem m_407 : (.fieldLink "StandInMillModel" 103 "StandInMillModel" "allCount" "[I" : Cond) ∈ WG := in_WG 20 rfl (List.mem_of_getElem? (i := 7) rfl)
theorem m_408 : (.fieldLink "StandInMillModel" 106 "StandInMillModel" "founds" "I" : Cond) ∈ WG := in_WG 20 rfl (List.mem_of_getElem? (i := 8) rfl)
theorem m_409 : (.fieldLink "StandInMillModel" 109 "StandInMillModel" "found" "[I" : Cond) ∈ WG := in_WG 20 rfl (List.mem_of_getElem? (i := 9) rfl)
theorem m_410 : (.fieldLink "StandInMillModel" 112 "StandInMillModel" "may" "[I" : Cond) ∈ WG := in_WG 20 rfl (List.mem_of_getElem? (i := 10) rfl)
theorem m_411 : (.fieldLink "StandInMillModel" 115 "StandInMillModel" "mayCount" "[I" : Cond) ∈ WG := in_WG 20 rfl (List.mem_of_getElem? (i := 11) rfl)
theorem m_412 : (.fieldLink "StandInMillModel" 118 "StandInMillModel" "before" "[I" : Cond) ∈ WG := in_WG 20 rfl (List.mem_of_getElem? (i := 12) rfl)
theorem m_413 : (.fieldLink "StandInMillModel" 121 "StandInMillModel" "order" "[I" : Cond) ∈ WG := in_WG 20 rfl (List.mem_of_getElem? (i := 13) rfl)
theorem m_414 : (.fieldLink "StandInMillModel" 124 "StandInMillModel" "caughts" "I" : Cond) ∈ WG := in_WG 20 rfl (List.mem_of_getElem? (i := 14) rfl)
theorem m_415 : (.fieldLink "StandInMillModel" 127 "StandInMillModel" "caught" "[I" : Cond) ∈ WG := in_WG 20 rfl (List.mem_of_getElem? (i := 15) rfl)
theorem m_416 : (.fieldLink "StandInMillModel" 130 "StandInMillModel" "behind" "[I" : Cond) ∈ WG := in_WG 20 rfl (List.mem_of_getElem? (i := 16) rfl)
theorem m_417 : (.fieldLink "StandInMillModel" 133 "StandInMillModel" "behinds" "I" : Cond) ∈ WG := in_WG 20 rfl (List.mem_of_getElem? (i := 17) rfl)
theorem m_418 : (.fieldLink "StandInMillModel" 136 "StandInMillModel" "pool" "[I" : Cond) ∈ WG := in_WG 20 rfl (List.mem_of_getElem? (i := 18) rfl)
theorem m_419 : (.fieldLink "StandInMillModel" 139 "StandInMillModel" "pools" "I" : Cond) ∈ WG := in_WG 20 rfl (List.mem_of_getElem? (i := 19) rfl)
theorem m_420 : (.constantLong "StandInMillModel" 142 (-1) : Cond) ∈ WG := in_WG 20 rfl (List.mem_of_getElem? (i := 20) rfl)
theorem m_421 : (.fieldLink "StandInMillModel" 144 "StandInMillModel" "outcomeNow" "J" : Cond) ∈ WG := in_WG 20 rfl (List.mem_of_getElem? (i := 21) rfl)
theorem m_422 : (.fieldLink "StandInMillModel" 148 "StandInMillModel" "seenNow" "[J" : Cond) ∈ WG := in_WG 20 rfl (List.mem_of_getElem? (i := 22) rfl)
theorem m_423 : (.fieldLink "StandInMillModel" 151 "StandInMillModel" "argType" "[I" : Cond) ∈ WG := in_WG 20 rfl (List.mem_of_getElem? (i := 23) rfl)
theorem m_424 : (.fieldLink "StandInMillModel" 154 "StandInMillModel" "argValue" "[J" : Cond) ∈ WG := in_WG 20 rfl (List.mem_of_getElem? (i := 24) rfl)
theorem m_425 : (.methodLink "StandInMillModel" 157 y_R_isPlain : Cond) ∈ WG := in_WG 20 rfl (List.mem_of_getElem? (i := 25) rfl)
theorem m_426 : (.static y_R_isPlain : Cond) ∈ WG := in_WG 20 rfl (List.mem_of_getElem? (i := 26) rfl)
theorem m_427 : (.methodLink "StandInMillModel" 161 y_R_isClass : Cond) ∈ WG := in_WG 20 rfl (List.mem_of_getElem? (i := 27) rfl)
theorem m_428 : (.instanceMethod y_R_isClass : Cond) ∈ WG := in_WG 20 rfl (List.mem_of_getElem? (i := 28) rfl)
theorem m_429 : (.selects "StandInMillModel" y_R_isClass y_R_isClass : Cond) ∈ WG := in_WG 20 rfl (List.mem_of_getElem? (i := 29) rfl)
theorem m_430 : (.methodLink "StandInMillModel" 164 y_R_isFace : Cond) ∈ WG := in_WG 20 rfl (List.mem_of_getElem? (i := 30) rfl)
theorem m_431 : (.instanceMethod y_R_isFace : Cond) ∈ WG := in_WG 20 rfl (List.mem_of_getElem? (i := 31) rfl)
theorem m_432 : (.selects "StandInMillModel" y_R_isFace y_R_isFace : Cond) ∈ WG := in_WG 20 rfl (List.mem_of_getElem? (i := 32) rfl)
theorem m_433 : (.methodLink "StandInMillModel" 167 y_R_isBox : Cond) ∈ WG := in_WG 20 rfl (List.mem_of_getElem? (i := 33) rfl)
theorem m_434 : (.static y_R_isBox : Cond) ∈ WG := in_WG 20 rfl (List.mem_of_getElem? (i := 34) rfl)
theorem m_435 : (.methodLink "StandInMillModel" 170 y_R_there : Cond) ∈ WG := in_WG 20 rfl (List.mem_of_getElem? (i := 35) rfl)
theorem m_436 : (.instanceMethod y_R_there : Cond) ∈ WG := in_WG 20 rfl (List.mem_of_getElem? (i := 36) rfl)
theorem m_437 : (.selects "StandInMillModel" y_R_there y_R_there : Cond) ∈ WG := in_WG 20 rfl (List.mem_of_getElem? (i := 37) rfl)
theorem m_438 : (.methodLink "StandInMillModel" 173 y_R_madeBy : Cond) ∈ WG := in_WG 20 rfl (List.mem_of_getElem? (i := 38) rfl)
theorem m_439 : (.instanceMethod y_R_madeBy : Cond) ∈ WG := in_WG 20 rfl (List.mem_of_getElem? (i := 39) rfl)
theorem m_440 : (.selects "StandInMillModel" y_R_madeBy y_R_madeBy : Cond) ∈ WG := in_WG 21 rfl (List.mem_of_getElem? (i := 0) rfl)
theorem m_441 : (.methodLink "StandInMillModel" 177 y_R_finds : Cond) ∈ WG := in_WG 21 rfl (List.mem_of_getElem? (i := 1) rfl)
theorem m_442 : (.instanceMethod y_R_finds : Cond) ∈ WG := in_WG 21 rfl (List.mem_of_getElem? (i := 2) rfl)
theorem m_443 : (.selects "StandInMillModel" y_R_finds y_R_finds : Cond) ∈ WG := in_WG 21 rfl (List.mem_of_getElem? (i := 3) rfl)
theorem m_444 : (.methodLink "StandInMillModel" 180 y_R_sameSignature : Cond) ∈ WG := in_WG 21 rfl (List.mem_of_getElem? (i := 4) rfl)
theorem m_445 : (.instanceMethod y_R_sameSignature : Cond) ∈ WG := in_WG 21 rfl (List.mem_of_getElem? (i := 5) rfl)
theorem m_446 : (.selects "StandInMillModel" y_R_sameSignature y_R_sameSignature : Cond) ∈ WG := in_WG 21 rfl (List.mem_of_getElem? (i := 6) rfl)
theorem m_447 : (.methodLink "StandInMillModel" 184 y_R_isBelow : Cond) ∈ WG := in_WG 21 rfl (List.mem_of_getElem? (i := 7) rfl)
theorem m_448 : (.instanceMethod y_R_isBelow : Cond) ∈ WG := in_WG 21 rfl (List.mem_of_getElem? (i := 8) rfl)
theorem m_449 : (.selects "StandInMillModel" y_R_isBelow y_R_isBelow : Cond) ∈ WG := in_WG 21 rfl (List.mem_of_getElem? (i := 9) rfl)
theorem m_450 : (.methodLink "StandInMillModel" 187 y_R_belowOneOf : Cond) ∈ WG := in_WG 21 rfl (List.mem_of_getElem? (i := 10) rfl)
theorem m_451 : (.instanceMethod y_R_belowOneOf : Cond) ∈ WG := in_WG 21 rfl (List.mem_of_getElem? (i := 11) rfl)
theorem m_452 : (.selects "StandInMillModel" y_R_belowOneOf y_R_belowOneOf : Cond) ∈ WG := in_WG 21 rfl (List.mem_of_getElem? (i := 12) rfl)
theorem m_453 : (.methodLink "StandInMillModel" 190 y_R_listMethods : Cond) ∈ WG := in_WG 21 rfl (List.mem_of_getElem? (i := 13) rfl)
theorem m_454 : (.instanceMethod y_R_listMethods : Cond) ∈ WG := in_WG 21 rfl (List.mem_of_getElem? (i := 14) rfl)
theorem m_455 : (.selects "StandInMillModel" y_R_listMethods y_R_listMethods : Cond) ∈ WG := in_WG 21 rfl (List.mem_of_getElem? (i := 15) rfl)
theorem m_456 : (.methodLink "StandInMillModel" 193 y_R_add : Cond) ∈ WG := in_WG 21 rfl (List.mem_of_getElem? (i := 16) rfl)
theorem m_457 : (.instanceMethod y_R_add : Cond) ∈ WG := in_WG 21 rfl (List.mem_of_getElem? (i := 17) rfl)
theorem m_458 : (.selects "StandInMillModel" y_R_add y_R_add : Cond) ∈ WG := in_WG 21 rfl (List.mem_of_getElem? (i := 18) rfl)
theorem m_459 : (.methodLink "StandInMillModel" 197 y_R_merge : Cond) ∈ WG := in_WG 21 rfl (List.mem_of_getElem? (i := 19) rfl)
theorem m_460 : (.instanceMethod y_R_merge : Cond) ∈ WG := in_WG 21 rfl (List.mem_of_getElem? (i := 20) rfl)
theorem m_461 : (.selects "StandInMillModel" y_R_merge y_R_merge : Cond) ∈ WG := in_WG 21 rfl (List.mem_of_getElem? (i := 21) rfl)
theorem m_462 : (.methodLink "StandInMillModel" 201 y_R_visible : Cond) ∈ WG := in_WG 21 rfl (List.mem_of_getElem? (i := 22) rfl)
theorem m_463 : (.instanceMethod y_R_visible : Cond) ∈ WG := in_WG 21 rfl (List.mem_of_getElem? (i := 23) rfl)
theorem m_464 : (.selects "StandInMillModel" y_R_visible y_R_visible : Cond) ∈ WG := in_WG 21 rfl (List.mem_of_getElem? (i := 24) rfl)
theorem m_465 : (.methodLink "StandInMillModel" 204 y_R_describe : Cond) ∈ WG := in_WG 21 rfl (List.mem_of_getElem? (i := 25) rfl)
theorem m_466 : (.instanceMethod y_R_describe : Cond) ∈ WG := in_WG 21 rfl (List.mem_of_getElem? (i := 26) rfl)
theorem m_467 : (.selects "StandInMillModel" y_R_describe y_R_describe : Cond) ∈ WG := in_WG 21 rfl (List.mem_of_getElem? (i := 27) rfl)
theorem m_468 : (.methodLink "StandInMillModel" 207 y_R_wrongResults : Cond) ∈ WG := in_WG 21 rfl (List.mem_of_getElem? (i := 28) rfl)
theorem m_469 : (.instanceMethod y_R_wrongResults : Cond) ∈ WG := in_WG 21 rfl (List.mem_of_getElem? (i := 29) rfl)
theorem m_470 : (.selects "StandInMillModel" y_R_wrongResults y_R_wrongResults : Cond) ∈ WG := in_WG 21 rfl (List.mem_of_getElem? (i := 30) rfl)
theorem m_471 : (.methodLink "StandInMillModel" 210 y_R_say : Cond) ∈ WG := in_WG 21 rfl (List.mem_of_getElem? (i := 31) rfl)
theorem m_472 : (.instanceMethod y_R_say : Cond) ∈ WG := in_WG 21 rfl (List.mem_of_getElem? (i := 32) rfl)
theorem m_473 : (.selects "StandInMillModel" y_R_say y_R_say : Cond) ∈ WG := in_WG 21 rfl (List.mem_of_getElem? (i := 33) rfl)
theorem m_474 : (.methodLink "StandInMillModel" 213 y_R_owner : Cond) ∈ WG := in_WG 21 rfl (List.mem_of_getElem? (i := 34) rfl)
theorem m_475 : (.static y_R_owner : Cond) ∈ WG := in_WG 21 rfl (List.mem_of_getElem? (i := 35) rfl)
theorem m_476 : (.methodLink "StandInMillModel" 217 y_R_numberOf : Cond) ∈ WG := in_WG 21 rfl (List.mem_of_getElem? (i := 36) rfl)
theorem m_477 : (.static y_R_numberOf : Cond) ∈ WG := in_WG 21 rfl (List.mem_of_getElem? (i := 37) rfl)
theorem m_478 : (.methodLink "StandInMillModel" 220 y_R_entry : Cond) ∈ WG := in_WG 21 rfl (List.mem_of_getElem? (i := 38) rfl)
theorem m_479 : (.instanceMethod y_R_entry : Cond) ∈ WG := in_WG 21 rfl (List.mem_of_getElem? (i := 39) rfl)
theorem m_480 : (.selects "StandInMillModel" y_R_entry y_R_entry : Cond) ∈ WG := in_WG 22 rfl (List.mem_of_getElem? (i := 0) rfl)
theorem m_481 : (.methodLink "StandInMillModel" 223 y_R_takesCount : Cond) ∈ WG := in_WG 22 rfl (List.mem_of_getElem? (i := 1) rfl)
theorem m_482 : (.instanceMethod y_R_takesCount : Cond) ∈ WG := in_WG 22 rfl (List.mem_of_getElem? (i := 2) rfl)
theorem m_483 : (.selects "StandInMillModel" y_R_takesCount y_R_takesCount : Cond) ∈ WG := in_WG 22 rfl (List.mem_of_getElem? (i := 3) rfl)
theorem m_484 : (.methodLink "StandInMillModel" 226 y_R_sayCode : Cond) ∈ WG := in_WG 22 rfl (List.mem_of_getElem? (i := 4) rfl)
theorem m_485 : (.instanceMethod y_R_sayCode : Cond) ∈ WG := in_WG 22 rfl (List.mem_of_getElem? (i := 5) rfl)
theorem m_486 : (.selects "StandInMillModel" y_R_sayCode y_R_sayCode : Cond) ∈ WG := in_WG 22 rfl (List.mem_of_getElem? (i := 6) rfl)
theorem m_487 : (.methodLink "StandInMillModel" 229 y_R_catchFor : Cond) ∈ WG := in_WG 22 rfl (List.mem_of_getElem? (i := 7) rfl)
theorem m_488 : (.instanceMethod y_R_catchFor : Cond) ∈ WG := in_WG 22 rfl (List.mem_of_getElem? (i := 8) rfl)
theorem m_489 : (.selects "StandInMillModel" y_R_catchFor y_R_catchFor : Cond) ∈ WG := in_WG 22 rfl (List.mem_of_getElem? (i := 9) rfl)
theorem m_490 : (.methodLink "StandInMillModel" 232 y_R_sayMethod : Cond) ∈ WG := in_WG 22 rfl (List.mem_of_getElem? (i := 10) rfl)
theorem m_491 : (.instanceMethod y_R_sayMethod : Cond) ∈ WG := in_WG 22 rfl (List.mem_of_getElem? (i := 11) rfl)
theorem m_492 : (.selects "StandInMillModel" y_R_sayMethod y_R_sayMethod : Cond) ∈ WG := in_WG 22 rfl (List.mem_of_getElem? (i := 12) rfl)
theorem m_493 : (.methodLink "StandInMillModel" 235 y_R_fitted : Cond) ∈ WG := in_WG 22 rfl (List.mem_of_getElem? (i := 13) rfl)
theorem m_494 : (.static y_R_fitted : Cond) ∈ WG := in_WG 22 rfl (List.mem_of_getElem? (i := 14) rfl)
theorem m_495 : (.methodLink "StandInMillModel" 239 y_R_cleaned : Cond) ∈ WG := in_WG 22 rfl (List.mem_of_getElem? (i := 15) rfl)
theorem m_496 : (.instanceMethod y_R_cleaned : Cond) ∈ WG := in_WG 22 rfl (List.mem_of_getElem? (i := 16) rfl)
theorem m_497 : (.selects "StandInMillModel" y_R_cleaned y_R_cleaned : Cond) ∈ WG := in_WG 22 rfl (List.mem_of_getElem? (i := 17) rfl)
theorem m_498 : (.methodLink "StandInMillModel" 242 y_R_faultOf : Cond) ∈ WG := in_WG 22 rfl (List.mem_of_getElem? (i := 18) rfl)
theorem m_499 : (.instanceMethod y_R_faultOf : Cond) ∈ WG := in_WG 22 rfl (List.mem_of_getElem? (i := 19) rfl)
theorem m_500 : (.selects "StandInMillModel" y_R_faultOf y_R_faultOf : Cond) ∈ WG := in_WG 22 rfl (List.mem_of_getElem? (i := 20) rfl)
theorem m_501 : (.methodLink "StandInMillModel" 246 y_R_isStand : Cond) ∈ WG := in_WG 22 rfl (List.mem_of_getElem? (i := 21) rfl)
theorem m_502 : (.instanceMethod y_R_isStand : Cond) ∈ WG := in_WG 22 rfl (List.mem_of_getElem? (i := 22) rfl)
theorem m_503 : (.selects "StandInMillModel" y_R_isStand y_R_isStand : Cond) ∈ WG := in_WG 22 rfl (List.mem_of_getElem? (i := 23) rfl)
theorem m_504 : (.methodLink "StandInMillModel" 249 y_R_unit : Cond) ∈ WG := in_WG 22 rfl (List.mem_of_getElem? (i := 24) rfl)
theorem m_505 : (.instanceMethod y_R_unit : Cond) ∈ WG := in_WG 22 rfl (List.mem_of_getElem? (i := 25) rfl)
theorem m_506 : (.selects "StandInMillModel" y_R_unit y_R_unit : Cond) ∈ WG := in_WG 22 rfl (List.mem_of_getElem? (i := 26) rfl)
theorem m_507 : (.methodLink "StandInMillModel" 252 y_R_poolBytes : Cond) ∈ WG := in_WG 22 rfl (List.mem_of_getElem? (i := 27) rfl)
theorem m_508 : (.instanceMethod y_R_poolBytes : Cond) ∈ WG := in_WG 22 rfl (List.mem_of_getElem? (i := 28) rfl)
theorem m_509 : (.selects "StandInMillModel" y_R_poolBytes y_R_poolBytes : Cond) ∈ WG := in_WG 22 rfl (List.mem_of_getElem? (i := 29) rfl)
theorem m_510 : (.methodLink "StandInMillModel" 256 y_R_unitByte : Cond) ∈ WG := in_WG 22 rfl (List.mem_of_getElem? (i := 30) rfl)
theorem m_511 : (.instanceMethod y_R_unitByte : Cond) ∈ WG := in_WG 22 rfl (List.mem_of_getElem? (i := 31) rfl)
theorem m_512 : (.selects "StandInMillModel" y_R_unitByte y_R_unitByte : Cond) ∈ WG := in_WG 22 rfl (List.mem_of_getElem? (i := 32) rfl)
theorem m_513 : (.methodLink "StandInMillModel" 263 y_R_fit : Cond) ∈ WG := in_WG 22 rfl (List.mem_of_getElem? (i := 33) rfl)
theorem m_514 : (.instanceMethod y_R_fit : Cond) ∈ WG := in_WG 22 rfl (List.mem_of_getElem? (i := 34) rfl)
theorem m_515 : (.selects "StandInMillModel" y_R_fit y_R_fit : Cond) ∈ WG := in_WG 22 rfl (List.mem_of_getElem? (i := 35) rfl)
theorem m_516 : (.methodLink "StandInMillModel" 259 y_R_takesAs : Cond) ∈ WG := in_WG 22 rfl (List.mem_of_getElem? (i := 36) rfl)
theorem m_517 : (.instanceMethod y_R_takesAs : Cond) ∈ WG := in_WG 22 rfl (List.mem_of_getElem? (i := 37) rfl)
theorem m_518 : (.selects "StandInMillModel" y_R_takesAs y_R_takesAs : Cond) ∈ WG := in_WG 22 rfl (List.mem_of_getElem? (i := 38) rfl)
theorem m_519 : (.classLink "StandInMillLaw" 8 "StandInMill" : Cond) ∈ WG := in_WG 22 rfl (List.mem_of_getElem? (i := 39) rfl)
theorem m_520 : (.instantiable "StandInMill" 18 : Cond) ∈ WG := in_WG 23 rfl (List.mem_of_getElem? (i := 0) rfl)
theorem m_521 : (.initialized "StandInMill" : Cond) ∈ WG := in_WG 23 rfl (List.mem_of_getElem? (i := 1) rfl)
theorem m_522 : (.methodLink "StandInMillLaw" 21 y_M_init : Cond) ∈ WG := in_WG 23 rfl (List.mem_of_getElem? (i := 2) rfl)
theorem m_523 : (.instanceMethod y_M_init : Cond) ∈ WG := in_WG 23 rfl (List.mem_of_getElem? (i := 3) rfl)
theorem m_524 : (.classLink "StandInMillLaw" 22 "StandInMillModel" : Cond) ∈ WG := in_WG 23 rfl (List.mem_of_getElem? (i := 4) rfl)
theorem m_525 : (.instantiable "StandInMillModel" 47 : Cond) ∈ WG := in_WG 23 rfl (List.mem_of_getElem? (i := 5) rfl)
theorem m_526 : (.initialized "StandInMillModel" : Cond) ∈ WG := in_WG 23 rfl (List.mem_of_getElem? (i := 6) rfl)
theorem m_527 : (.methodLink "StandInMillLaw" 24 y_R_init : Cond) ∈ WG := in_WG 23 rfl (List.mem_of_getElem? (i := 7) rfl)
theorem m_528 : (.instanceMethod y_R_init : Cond) ∈ WG := in_WG 23 rfl (List.mem_of_getElem? (i := 8) rfl)
theorem m_529 : (.methodLink "StandInMillLaw" 25 y_M_loader : Cond) ∈ WG := in_WG 23 rfl (List.mem_of_getElem? (i := 9) rfl)
theorem m_530 : (.instanceMethod y_M_loader : Cond) ∈ WG := in_WG 23 rfl (List.mem_of_getElem? (i := 10) rfl)
theorem m_531 : (.selects "StandInMill" y_M_loader y_M_loader : Cond) ∈ WG := in_WG 23 rfl (List.mem_of_getElem? (i := 11) rfl)
theorem m_532 : (.methodLink "StandInMillLaw" 29 y_R_loader : Cond) ∈ WG := in_WG 23 rfl (List.mem_of_getElem? (i := 12) rfl)
theorem m_533 : (.instanceMethod y_R_loader : Cond) ∈ WG := in_WG 23 rfl (List.mem_of_getElem? (i := 13) rfl)
theorem m_534 : (.selects "StandInMillModel" y_R_loader y_R_loader : Cond) ∈ WG := in_WG 23 rfl (List.mem_of_getElem? (i := 14) rfl)
theorem m_535 : (.methodLink "StandInMillLaw" 30 y_M_type : Cond) ∈ WG := in_WG 23 rfl (List.mem_of_getElem? (i := 15) rfl)
theorem m_536 : (.instanceMethod y_M_type : Cond) ∈ WG := in_WG 23 rfl (List.mem_of_getElem? (i := 16) rfl)
theorem m_537 : (.selects "StandInMill" y_M_type y_M_type : Cond) ∈ WG := in_WG 23 rfl (List.mem_of_getElem? (i := 17) rfl)
theorem m_538 : (.methodLink "StandInMillLaw" 33 y_R_type : Cond) ∈ WG := in_WG 23 rfl (List.mem_of_getElem? (i := 18) rfl)
theorem m_539 : (.instanceMethod y_R_type : Cond) ∈ WG := in_WG 23 rfl (List.mem_of_getElem? (i := 19) rfl)
theorem m_540 : (.selects "StandInMillModel" y_R_type y_R_type : Cond) ∈ WG := in_WG 23 rfl (List.mem_of_getElem? (i := 20) rfl)
theorem m_541 : (.methodLink "StandInMillLaw" 34 y_M_face : Cond) ∈ WG := in_WG 23 rfl (List.mem_of_getElem? (i := 21) rfl)
theorem m_542 : (.instanceMethod y_M_face : Cond) ∈ WG := in_WG 23 rfl (List.mem_of_getElem? (i := 22) rfl)
theorem m_543 : (.selects "StandInMill" y_M_face y_M_face : Cond) ∈ WG := in_WG 23 rfl (List.mem_of_getElem? (i := 23) rfl)
theorem m_544 : (.methodLink "StandInMillLaw" 38 y_R_face : Cond) ∈ WG := in_WG 23 rfl (List.mem_of_getElem? (i := 24) rfl)
theorem m_545 : (.instanceMethod y_R_face : Cond) ∈ WG := in_WG 23 rfl (List.mem_of_getElem? (i := 25) rfl)
theorem m_546 : (.selects "StandInMillModel" y_R_face y_R_face : Cond) ∈ WG := in_WG 23 rfl (List.mem_of_getElem? (i := 26) rfl)
theorem m_547 : (.methodLink "StandInMillLaw" 39 y_M_extend : Cond) ∈ WG := in_WG 23 rfl (List.mem_of_getElem? (i := 27) rfl)
theorem m_548 : (.instanceMethod y_M_extend : Cond) ∈ WG := in_WG 23 rfl (List.mem_of_getElem? (i := 28) rfl)
theorem m_549 : (.selects "StandInMill" y_M_extend y_M_extend : Cond) ∈ WG := in_WG 23 rfl (List.mem_of_getElem? (i := 29) rfl)
theorem m_550 : (.methodLink "StandInMillLaw" 43 y_R_extend : Cond) ∈ WG := in_WG 23 rfl (List.mem_of_getElem? (i := 30) rfl)
theorem m_551 : (.instanceMethod y_R_extend : Cond) ∈ WG := in_WG 23 rfl (List.mem_of_getElem? (i := 31) rfl)
theorem m_552 : (.selects "StandInMillModel" y_R_extend y_R_extend : Cond) ∈ WG := in_WG 23 rfl (List.mem_of_getElem? (i := 32) rfl)
theorem m_553 : (.methodLink "StandInMillLaw" 44 y_M_method : Cond) ∈ WG := in_WG 23 rfl (List.mem_of_getElem? (i := 33) rfl)
theorem m_554 : (.instanceMethod y_M_method : Cond) ∈ WG := in_WG 23 rfl (List.mem_of_getElem? (i := 34) rfl)
theorem m_555 : (.selects "StandInMill" y_M_method y_M_method : Cond) ∈ WG := in_WG 23 rfl (List.mem_of_getElem? (i := 35) rfl)
theorem m_556 : (.methodLink "StandInMillLaw" 48 y_R_method : Cond) ∈ WG := in_WG 23 rfl (List.mem_of_getElem? (i := 36) rfl)
theorem m_557 : (.instanceMethod y_R_method : Cond) ∈ WG := in_WG 23 rfl (List.mem_of_getElem? (i := 37) rfl)
theorem m_558 : (.selects "StandInMillModel" y_R_method y_R_method : Cond) ∈ WG := in_WG 23 rfl (List.mem_of_getElem? (i := 38) rfl)
theorem m_559 : (.methodLink "StandInMillLaw" 49 y_M_throwing : Cond) ∈ WG := in_WG 23 rfl (List.mem_of_getElem? (i := 39) rfl)
theorem m_560 : (.instanceMethod y_M_throwing : Cond) ∈ WG := in_WG 24 rfl (List.mem_of_getElem? (i := 0) rfl)
theorem m_561 : (.selects "StandInMill" y_M_throwing y_M_throwing : Cond) ∈ WG := in_WG 24 rfl (List.mem_of_getElem? (i := 1) rfl)
theorem m_562 : (.methodLink "StandInMillLaw" 53 y_R_throwing : Cond) ∈ WG := in_WG 24 rfl (List.mem_of_getElem? (i := 2) rfl)
theorem m_563 : (.instanceMethod y_R_throwing : Cond) ∈ WG := in_WG 24 rfl (List.mem_of_getElem? (i := 3) rfl)
theorem m_564 : (.selects "StandInMillModel" y_R_throwing y_R_throwing : Cond) ∈ WG := in_WG 24 rfl (List.mem_of_getElem? (i := 4) rfl)
theorem m_565 : (.constantLong "StandInMillLaw" 54 4294967295 : Cond) ∈ WG := in_WG 24 rfl (List.mem_of_getElem? (i := 5) rfl)
theorem m_566 : (.methodLink "StandInMillLaw" 56 y_M_object : Cond) ∈ WG := in_WG 24 rfl (List.mem_of_getElem? (i := 6) rfl)
theorem m_567 : (.instanceMethod y_M_object : Cond) ∈ WG := in_WG 24 rfl (List.mem_of_getElem? (i := 7) rfl)
theorem m_568 : (.selects "StandInMill" y_M_object y_M_object : Cond) ∈ WG := in_WG 24 rfl (List.mem_of_getElem? (i := 8) rfl)
theorem m_569 : (.methodLink "StandInMillLaw" 60 y_R_object : Cond) ∈ WG := in_WG 24 rfl (List.mem_of_getElem? (i := 9) rfl)
theorem m_570 : (.instanceMethod y_R_object : Cond) ∈ WG := in_WG 24 rfl (List.mem_of_getElem? (i := 10) rfl)
theorem m_571 : (.selects "StandInMillModel" y_R_object y_R_object : Cond) ∈ WG := in_WG 24 rfl (List.mem_of_getElem? (i := 11) rfl)
theorem m_572 : (.methodLink "StandInMillLaw" 61 y_M_value : Cond) ∈ WG := in_WG 24 rfl (List.mem_of_getElem? (i := 12) rfl)
theorem m_573 : (.instanceMethod y_M_value : Cond) ∈ WG := in_WG 24 rfl (List.mem_of_getElem? (i := 13) rfl)
theorem m_574 : (.selects "StandInMill" y_M_value y_M_value : Cond) ∈ WG := in_WG 24 rfl (List.mem_of_getElem? (i := 14) rfl)
theorem m_575 : (.methodLink "StandInMillLaw" 65 y_R_value : Cond) ∈ WG := in_WG 24 rfl (List.mem_of_getElem? (i := 15) rfl)
theorem m_576 : (.instanceMethod y_R_value : Cond) ∈ WG := in_WG 24 rfl (List.mem_of_getElem? (i := 16) rfl)
theorem m_577 : (.selects "StandInMillModel" y_R_value y_R_value : Cond) ∈ WG := in_WG 24 rfl (List.mem_of_getElem? (i := 17) rfl)
theorem m_578 : (.methodLink "StandInMillLaw" 66 y_M_below : Cond) ∈ WG := in_WG 24 rfl (List.mem_of_getElem? (i := 18) rfl)
theorem m_579 : (.instanceMethod y_M_below : Cond) ∈ WG := in_WG 24 rfl (List.mem_of_getElem? (i := 19) rfl)
theorem m_580 : (.selects "StandInMill" y_M_below y_M_below : Cond) ∈ WG := in_WG 24 rfl (List.mem_of_getElem? (i := 20) rfl)
theorem m_581 : (.methodLink "StandInMillLaw" 69 y_R_below : Cond) ∈ WG := in_WG 24 rfl (List.mem_of_getElem? (i := 21) rfl)
theorem m_582 : (.instanceMethod y_R_below : Cond) ∈ WG := in_WG 24 rfl (List.mem_of_getElem? (i := 22) rfl)
theorem m_583 : (.selects "StandInMillModel" y_R_below y_R_below : Cond) ∈ WG := in_WG 24 rfl (List.mem_of_getElem? (i := 23) rfl)
theorem m_584 : (.methodLink "StandInMillLaw" 70 y_M_find : Cond) ∈ WG := in_WG 24 rfl (List.mem_of_getElem? (i := 24) rfl)
theorem m_585 : (.instanceMethod y_M_find : Cond) ∈ WG := in_WG 24 rfl (List.mem_of_getElem? (i := 25) rfl)
theorem m_586 : (.selects "StandInMill" y_M_find y_M_find : Cond) ∈ WG := in_WG 24 rfl (List.mem_of_getElem? (i := 26) rfl)
theorem m_587 : (.methodLink "StandInMillLaw" 73 y_R_find : Cond) ∈ WG := in_WG 24 rfl (List.mem_of_getElem? (i := 27) rfl)
theorem m_588 : (.instanceMethod y_R_find : Cond) ∈ WG := in_WG 24 rfl (List.mem_of_getElem? (i := 28) rfl)
theorem m_589 : (.selects "StandInMillModel" y_R_find y_R_find : Cond) ∈ WG := in_WG 24 rfl (List.mem_of_getElem? (i := 29) rfl)
theorem m_590 : (.code y_Ty_bit b_Ty_bit 1 (some (.long)) : Cond) ∈ WG := in_WG 24 rfl (List.mem_of_getElem? (i := 30) rfl)
theorem m_591 : (.code y_Ty_init b_Ty_init 2 none : Cond) ∈ WG := in_WG 24 rfl (List.mem_of_getElem? (i := 31) rfl)
theorem m_592 : (.code y_Rw_init b_Rw_init 2 none : Cond) ∈ WG := in_WG 24 rfl (List.mem_of_getElem? (i := 32) rfl)
theorem m_593 : (.code y_Dr_init b_Dr_init 2 none : Cond) ∈ WG := in_WG 24 rfl (List.mem_of_getElem? (i := 33) rfl)
theorem m_594 : (.code y_Uw_init b_Uw_init 1 none : Cond) ∈ WG := in_WG 24 rfl (List.mem_of_getElem? (i := 34) rfl)
theorem m_595 : (.code y_Om_init b_Om_init 6 none : Cond) ∈ WG := in_WG 24 rfl (List.mem_of_getElem? (i := 35) rfl)
theorem m_596 : (.code y_Ar_fillJ b_Ar_fillJ 5 none : Cond) ∈ WG := in_WG 24 rfl (List.mem_of_getElem? (i := 36) rfl)
theorem m_597 : (.initialized "java/util/Arrays" : Cond) ∈ WG := in_WG 24 rfl (List.mem_of_getElem? (i := 37) rfl)
theorem m_598 : (.code y_M_init b_M_init 1 none : Cond) ∈ WG := in_WG 24 rfl (List.mem_of_getElem? (i := 38) rfl)
theorem m_599 : (.code y_M_isWithin b_M_isWithin 2 (some (.boolean)) : Cond) ∈ WG := in_WG 24 rfl (List.mem_of_getElem? (i := 39) rfl)
theorem m_600 : (.code y_M_isLoader b_M_isLoader 2 (some (.boolean)) : Cond) ∈ WG := in_WG 25 rfl (List.mem_of_getElem? (i := 0) rfl)
theorem m_601 : (.code y_M_loader b_M_loader 2 (some (.int)) : Cond) ∈ WG := in_WG 25 rfl (List.mem_of_getElem? (i := 1) rfl)
theorem m_602 : (.code y_Ty_isClass b_Ty_isClass 2 (some (.boolean)) : Cond) ∈ WG := in_WG 25 rfl (List.mem_of_getElem? (i := 2) rfl)
theorem m_603 : (.code y_Ty_addClass b_Ty_addClass 2 (some (.int)) : Cond) ∈ WG := in_WG 25 rfl (List.mem_of_getElem? (i := 3) rfl)
theorem m_604 : (.code y_M_type b_M_type 2 (some (.int)) : Cond) ∈ WG := in_WG 25 rfl (List.mem_of_getElem? (i := 4) rfl)
theorem m_605 : (.code y_M_faceMadeBy b_M_faceMadeBy 5 (some (.int)) : Cond) ∈ WG := in_WG 25 rfl (List.mem_of_getElem? (i := 5) rfl)
theorem m_606 : (.code y_M_faceFoundBy b_M_faceFoundBy 8 (some (.int)) : Cond) ∈ WG := in_WG 25 rfl (List.mem_of_getElem? (i := 6) rfl)
theorem m_607 : (.code y_Fc_init b_Fc_init 5 none : Cond) ∈ WG := in_WG 25 rfl (List.mem_of_getElem? (i := 7) rfl)
theorem m_608 : (.code y_Ty_addFace b_Ty_addFace 2 none : Cond) ∈ WG := in_WG 25 rfl (List.mem_of_getElem? (i := 8) rfl)
theorem m_609 : (.code y_M_face b_M_face 6 (some (.int)) : Cond) ∈ WG := in_WG 25 rfl (List.mem_of_getElem? (i := 9) rfl)
theorem m_610 : (.code y_M_isFace b_M_isFace 2 (some (.boolean)) : Cond) ∈ WG := in_WG 25 rfl (List.mem_of_getElem? (i := 10) rfl)
theorem m_611 : (.code y_Fc_hasParent b_Fc_hasParent 3 (some (.boolean)) : Cond) ∈ WG := in_WG 25 rfl (List.mem_of_getElem? (i := 11) rfl)
theorem m_612 : (.code y_M_isVisible b_M_isVisible 4 (some (.boolean)) : Cond) ∈ WG := in_WG 25 rfl (List.mem_of_getElem? (i := 12) rfl)
theorem m_613 : (.code y_Fc_addParent b_Fc_addParent 2 none : Cond) ∈ WG := in_WG 25 rfl (List.mem_of_getElem? (i := 13) rfl)
theorem m_614 : (.code y_Ty_isBelow b_Ty_isBelow 3 (some (.boolean)) : Cond) ∈ WG := in_WG 25 rfl (List.mem_of_getElem? (i := 14) rfl)
theorem m_615 : (.code y_Ty_putBelow b_Ty_putBelow 4 none : Cond) ∈ WG := in_WG 25 rfl (List.mem_of_getElem? (i := 15) rfl)
theorem m_616 : (.code y_M_extend b_M_extend 4 (some (.boolean)) : Cond) ∈ WG := in_WG 25 rfl (List.mem_of_getElem? (i := 16) rfl)
theorem m_617 : (.code y_M_byteOf b_M_byteOf 2 (some (.int)) : Cond) ∈ WG := in_WG 25 rfl (List.mem_of_getElem? (i := 17) rfl)
theorem m_618 : (.code y_M_cutAtZero b_M_cutAtZero 3 (some (.int)) : Cond) ∈ WG := in_WG 25 rfl (List.mem_of_getElem? (i := 18) rfl)
theorem m_619 : (.code y_M_isPlain b_M_isPlain 1 (some (.boolean)) : Cond) ∈ WG := in_WG 25 rfl (List.mem_of_getElem? (i := 19) rfl)
theorem m_620 : (.code y_Ty_isThere b_Ty_isThere 2 (some (.boolean)) : Cond) ∈ WG := in_WG 25 rfl (List.mem_of_getElem? (i := 20) rfl)
theorem m_621 : (.code y_M_isResult b_M_isResult 2 (some (.boolean)) : Cond) ∈ WG := in_WG 25 rfl (List.mem_of_getElem? (i := 21) rfl)
theorem m_622 : (.code y_M_lengthOf b_M_lengthOf 2 (some (.int)) : Cond) ∈ WG := in_WG 25 rfl (List.mem_of_getElem? (i := 22) rfl)
theorem m_623 : (.code y_M_areParameters b_M_areParameters 3 (some (.boolean)) : Cond) ∈ WG := in_WG 25 rfl (List.mem_of_getElem? (i := 23) rfl)
theorem m_624 : (.code y_Fc_hasOwn b_Fc_hasOwn 4 (some (.boolean)) : Cond) ∈ WG := in_WG 25 rfl (List.mem_of_getElem? (i := 24) rfl)
theorem m_625 : (.code y_Fc_addOwn b_Fc_addOwn 2 none : Cond) ∈ WG := in_WG 25 rfl (List.mem_of_getElem? (i := 25) rfl)
theorem m_626 : (.code y_M_method b_M_method 7 (some (.int)) : Cond) ∈ WG := in_WG 25 rfl (List.mem_of_getElem? (i := 26) rfl)
theorem m_627 : (.code y_Rw_has b_Rw_has 3 (some (.boolean)) : Cond) ∈ WG := in_WG 25 rfl (List.mem_of_getElem? (i := 27) rfl)
theorem m_628 : (.code y_Rw_add b_Rw_add 2 none : Cond) ∈ WG := in_WG 25 rfl (List.mem_of_getElem? (i := 28) rfl)
theorem m_629 : (.code y_M_throwing b_M_throwing 6 (some (.boolean)) : Cond) ∈ WG := in_WG 25 rfl (List.mem_of_getElem? (i := 29) rfl)
theorem m_630 : (.code y_M_isBox b_M_isBox 1 (some (.boolean)) : Cond) ∈ WG := in_WG 25 rfl (List.mem_of_getElem? (i := 30) rfl)
theorem m_631 : (.code y_M_fitted b_M_fitted 3 (some (.long)) : Cond) ∈ WG := in_WG 25 rfl (List.mem_of_getElem? (i := 31) rfl)
theorem m_632 : (.code y_M_object b_M_object 4 (some (.int)) : Cond) ∈ WG := in_WG 25 rfl (List.mem_of_getElem? (i := 32) rfl)
theorem m_633 : (.code y_M_value b_M_value 3 (some (.long)) : Cond) ∈ WG := in_WG 25 rfl (List.mem_of_getElem? (i := 33) rfl)
theorem m_634 : (.code y_M_below b_M_below 3 (some (.boolean)) : Cond) ∈ WG := in_WG 25 rfl (List.mem_of_getElem? (i := 34) rfl)
theorem m_635 : (.code y_M_find b_M_find 4 (some (.int)) : Cond) ∈ WG := in_WG 25 rfl (List.mem_of_getElem? (i := 35) rfl)
theorem m_636 : (.code y_M_areFaces b_M_areFaces 3 (some (.boolean)) : Cond) ∈ WG := in_WG 25 rfl (List.mem_of_getElem? (i := 36) rfl)
theorem m_637 : (.code y_M_standMadeFor b_M_standMadeFor 4 (some (.int)) : Cond) ∈ WG := in_WG 25 rfl (List.mem_of_getElem? (i := 37) rfl)
theorem m_638 : (.code y_M_areVisible b_M_areVisible 4 (some (.boolean)) : Cond) ∈ WG := in_WG 25 rfl (List.mem_of_getElem? (i := 38) rfl)
theorem m_639 : (.code y_M_hasTwice b_M_hasTwice 3 (some (.boolean)) : Cond) ∈ WG := in_WG 25 rfl (List.mem_of_getElem? (i := 39) rfl)
theorem m_640 : (.code y_M_packageOf b_M_packageOf 4 (some (.int)) : Cond) ∈ WG := in_WG 26 rfl (List.mem_of_getElem? (i := 0) rfl)
theorem m_641 : (.code y_M_isInTwoPackages b_M_isInTwoPackages 5 (some (.boolean)) : Cond) ∈ WG := in_WG 26 rfl (List.mem_of_getElem? (i := 1) rfl)
theorem m_642 : (.code y_M_faultOfList b_M_faultOfList 3 (some (.int)) : Cond) ∈ WG := in_WG 26 rfl (List.mem_of_getElem? (i := 2) rfl)
theorem m_643 : (.code y_Fc_gather b_Fc_gather 3 none : Cond) ∈ WG := in_WG 26 rfl (List.mem_of_getElem? (i := 3) rfl)
theorem m_644 : (.code y_Fc_gatherOwn b_Fc_gatherOwn 2 none : Cond) ∈ WG := in_WG 26 rfl (List.mem_of_getElem? (i := 4) rfl)
theorem m_645 : (.code y_Fc_gatherFrom b_Fc_gatherFrom 4 none : Cond) ∈ WG := in_WG 26 rfl (List.mem_of_getElem? (i := 5) rfl)
theorem m_646 : (.code y_M_gatherMethods b_M_gatherMethods 4 none : Cond) ∈ WG := in_WG 26 rfl (List.mem_of_getElem? (i := 6) rfl)
theorem m_647 : (.code y_Dr_clear b_Dr_clear 1 none : Cond) ∈ WG := in_WG 26 rfl (List.mem_of_getElem? (i := 7) rfl)
theorem m_648 : (.code y_Om_hasSignatureOf b_Om_hasSignatureOf 2 (some (.boolean)) : Cond) ∈ WG := in_WG 26 rfl (List.mem_of_getElem? (i := 8) rfl)
theorem m_649 : (.code y_Rw_clear b_Rw_clear 1 none : Cond) ∈ WG := in_WG 26 rfl (List.mem_of_getElem? (i := 9) rfl)
theorem m_650 : (.code y_Rw_copyFrom b_Rw_copyFrom 3 none : Cond) ∈ WG := in_WG 26 rfl (List.mem_of_getElem? (i := 10) rfl)
theorem m_651 : (.code y_Ty_isBelowOneOf b_Ty_isBelowOneOf 4 (some (.boolean)) : Cond) ∈ WG := in_WG 26 rfl (List.mem_of_getElem? (i := 11) rfl)
theorem m_652 : (.code y_Ty_addBelow b_Ty_addBelow 5 none : Cond) ∈ WG := in_WG 26 rfl (List.mem_of_getElem? (i := 12) rfl)
theorem m_653 : (.code y_Dr_narrow b_Dr_narrow 3 none : Cond) ∈ WG := in_WG 26 rfl (List.mem_of_getElem? (i := 13) rfl)
theorem m_654 : (.code y_Sm_init b_Sm_init 1 none : Cond) ∈ WG := in_WG 26 rfl (List.mem_of_getElem? (i := 14) rfl)
theorem m_655 : (.code y_Dr_insert b_Dr_insert 5 none : Cond) ∈ WG := in_WG 26 rfl (List.mem_of_getElem? (i := 15) rfl)
theorem m_656 : (.code y_Dr_take b_Dr_take 4 none : Cond) ∈ WG := in_WG 26 rfl (List.mem_of_getElem? (i := 16) rfl)
theorem m_657 : (.code y_M_fillDraft b_M_fillDraft 5 none : Cond) ∈ WG := in_WG 26 rfl (List.mem_of_getElem? (i := 17) rfl)
theorem m_658 : (.code y_Dr_endOfSignature b_Dr_endOfSignature 3 (some (.int)) : Cond) ∈ WG := in_WG 26 rfl (List.mem_of_getElem? (i := 18) rfl)
theorem m_659 : (.code y_Dr_isBelowAll b_Dr_isBelowAll 5 (some (.boolean)) : Cond) ∈ WG := in_WG 26 rfl (List.mem_of_getElem? (i := 19) rfl)
theorem m_660 : (.code y_Dr_resultsAgreeWithin b_Dr_resultsAgreeWithin 6 (some (.boolean)) : Cond) ∈ WG := in_WG 26 rfl (List.mem_of_getElem? (i := 20) rfl)
theorem m_661 : (.code y_Dr_resultsAgree b_Dr_resultsAgree 3 (some (.boolean)) : Cond) ∈ WG := in_WG 26 rfl (List.mem_of_getElem? (i := 21) rfl)
theorem m_662 : (.code y_M_faultOfDraft b_M_faultOfDraft 1 (some (.int)) : Cond) ∈ WG := in_WG 26 rfl (List.mem_of_getElem? (i := 22) rfl)
theorem m_663 : (.code y_M_standsOfPackage b_M_standsOfPackage 4 (some (.int)) : Cond) ∈ WG := in_WG 26 rfl (List.mem_of_getElem? (i := 23) rfl)
theorem m_664 : (.code y_Si_init b_Si_init 6 none : Cond) ∈ WG := in_WG 26 rfl (List.mem_of_getElem? (i := 24) rfl)
theorem m_665 : (.code y_Rw_at b_Rw_at 2 (some (.int)) : Cond) ∈ WG := in_WG 26 rfl (List.mem_of_getElem? (i := 25) rfl)
theorem m_666 : (.code y_Ty_dropBelow b_Ty_dropBelow 5 none : Cond) ∈ WG := in_WG 26 rfl (List.mem_of_getElem? (i := 26) rfl)
theorem m_667 : (.code y_Dr_fillCaught b_Dr_fillCaught 5 none : Cond) ∈ WG := in_WG 26 rfl (List.mem_of_getElem? (i := 27) rfl)
theorem m_668 : (.code y_Dr_handOver b_Dr_handOver 3 none : Cond) ∈ WG := in_WG 26 rfl (List.mem_of_getElem? (i := 28) rfl)
theorem m_669 : (.code y_M_madeOfDraft b_M_madeOfDraft 5 (some (.object "StandInMill$StandIn")) : Cond) ∈ WG := in_WG 26 rfl (List.mem_of_getElem? (i := 29) rfl)
theorem m_670 : (.code y_Ar_fillI b_Ar_fillI 4 none : Cond) ∈ WG := in_WG 26 rfl (List.mem_of_getElem? (i := 30) rfl)
theorem m_671 : (.code y_Uw_put b_Uw_put 2 none : Cond) ∈ WG := in_WG 26 rfl (List.mem_of_getElem? (i := 31) rfl)
theorem m_672 : (.code y_Uw_putInPool b_Uw_putInPool 2 none : Cond) ∈ WG := in_WG 26 rfl (List.mem_of_getElem? (i := 32) rfl)
theorem m_673 : (.code y_Uw_putEntry b_Uw_putEntry 5 (some (.boolean)) : Cond) ∈ WG := in_WG 26 rfl (List.mem_of_getElem? (i := 33) rfl)
theorem m_674 : (.code y_Uw_putType b_Uw_putType 2 none : Cond) ∈ WG := in_WG 26 rfl (List.mem_of_getElem? (i := 34) rfl)
theorem m_675 : (.code y_Uw_putTypes b_Uw_putTypes 3 none : Cond) ∈ WG := in_WG 26 rfl (List.mem_of_getElem? (i := 35) rfl)
theorem m_676 : (.code y_Uw_putRow b_Uw_putRow 3 none : Cond) ∈ WG := in_WG 26 rfl (List.mem_of_getElem? (i := 36) rfl)
theorem m_677 : (.code y_Uw_putMethodEntry b_Uw_putMethodEntry 3 none : Cond) ∈ WG := in_WG 26 rfl (List.mem_of_getElem? (i := 37) rfl)
theorem m_678 : (.code y_Om_parameterCount b_Om_parameterCount 1 (some (.int)) : Cond) ∈ WG := in_WG 26 rfl (List.mem_of_getElem? (i := 38) rfl)
theorem m_679 : (.code y_Uw_putParameterCode b_Uw_putParameterCode 5 none : Cond) ∈ WG := in_WG 26 rfl (List.mem_of_getElem? (i := 39) rfl)
theorem m_680 : (.code y_Uw_putResultCode b_Uw_putResultCode 2 none : Cond) ∈ WG := in_WG 27 rfl (List.mem_of_getElem? (i := 0) rfl)
theorem m_681 : (.code y_Uw_putCode b_Uw_putCode 3 none : Cond) ∈ WG := in_WG 27 rfl (List.mem_of_getElem? (i := 1) rfl)
theorem m_682 : (.code y_Uw_putMethod b_Uw_putMethod 4 none : Cond) ∈ WG := in_WG 27 rfl (List.mem_of_getElem? (i := 2) rfl)
theorem m_683 : (.code y_Uw_joined b_Uw_joined 2 (some (.array (.byte))) : Cond) ∈ WG := in_WG 27 rfl (List.mem_of_getElem? (i := 3) rfl)
theorem m_684 : (.code y_Uw_write b_Uw_write 3 (some (.array (.byte))) : Cond) ∈ WG := in_WG 27 rfl (List.mem_of_getElem? (i := 4) rfl)
theorem m_685 : (.code y_M_stand b_M_stand 6 (some (.int)) : Cond) ∈ WG := in_WG 27 rfl (List.mem_of_getElem? (i := 5) rfl)
theorem m_686 : (.code y_M_fault b_M_fault 1 (some (.int)) : Cond) ∈ WG := in_WG 27 rfl (List.mem_of_getElem? (i := 6) rfl)
theorem m_687 : (.code y_M_about b_M_about 4 (some (.int)) : Cond) ∈ WG := in_WG 27 rfl (List.mem_of_getElem? (i := 7) rfl)
theorem m_688 : (.code y_M_hasMethod b_M_hasMethod 3 (some (.boolean)) : Cond) ∈ WG := in_WG 27 rfl (List.mem_of_getElem? (i := 8) rfl)
theorem m_689 : (.code y_M_told b_M_told 6 (some (.int)) : Cond) ∈ WG := in_WG 27 rfl (List.mem_of_getElem? (i := 9) rfl)
theorem m_690 : (.code y_M_octet b_M_octet 3 (some (.int)) : Cond) ∈ WG := in_WG 27 rfl (List.mem_of_getElem? (i := 10) rfl)
theorem m_691 : (.code y_M_handler b_M_handler 4 (some (.boolean)) : Cond) ∈ WG := in_WG 27 rfl (List.mem_of_getElem? (i := 11) rfl)
theorem m_692 : (.code y_M_isObjectBelow b_M_isObjectBelow 4 (some (.boolean)) : Cond) ∈ WG := in_WG 27 rfl (List.mem_of_getElem? (i := 12) rfl)
theorem m_693 : (.code y_M_takesGiven b_M_takesGiven 4 (some (.boolean)) : Cond) ∈ WG := in_WG 27 rfl (List.mem_of_getElem? (i := 13) rfl)
theorem m_694 : (.code y_M_showObject b_M_showObject 4 none : Cond) ∈ WG := in_WG 27 rfl (List.mem_of_getElem? (i := 14) rfl)
theorem m_695 : (.code y_M_showHandler b_M_showHandler 4 none : Cond) ∈ WG := in_WG 27 rfl (List.mem_of_getElem? (i := 15) rfl)
theorem m_696 : (.code y_M_fitThrown b_M_fitThrown 3 (some (.int)) : Cond) ∈ WG := in_WG 27 rfl (List.mem_of_getElem? (i := 16) rfl)
theorem m_697 : (.code y_M_fitAnswer b_M_fitAnswer 4 (some (.int)) : Cond) ∈ WG := in_WG 27 rfl (List.mem_of_getElem? (i := 17) rfl)
theorem m_698 : (.code y_M_call b_M_call 11 (some (.int)) : Cond) ∈ WG := in_WG 27 rfl (List.mem_of_getElem? (i := 18) rfl)
theorem m_699 : (.code y_M_outcome b_M_outcome 1 (some (.long)) : Cond) ∈ WG := in_WG 27 rfl (List.mem_of_getElem? (i := 19) rfl)
theorem m_700 : (.code y_M_seen b_M_seen 2 (some (.long)) : Cond) ∈ WG := in_WG 27 rfl (List.mem_of_getElem? (i := 20) rfl)
theorem m_701 : (.code y_R_init b_R_init 2 none : Cond) ∈ WG := in_WG 27 rfl (List.mem_of_getElem? (i := 21) rfl)
theorem m_702 : (.code y_R_isClass b_R_isClass 2 (some (.boolean)) : Cond) ∈ WG := in_WG 27 rfl (List.mem_of_getElem? (i := 22) rfl)
theorem m_703 : (.code y_R_isFace b_R_isFace 2 (some (.boolean)) : Cond) ∈ WG := in_WG 27 rfl (List.mem_of_getElem? (i := 23) rfl)
theorem m_704 : (.code y_R_isPlain b_R_isPlain 1 (some (.boolean)) : Cond) ∈ WG := in_WG 27 rfl (List.mem_of_getElem? (i := 24) rfl)
theorem m_705 : (.code y_R_isBox b_R_isBox 1 (some (.boolean)) : Cond) ∈ WG := in_WG 27 rfl (List.mem_of_getElem? (i := 25) rfl)
theorem m_706 : (.code y_R_there b_R_there 2 (some (.boolean)) : Cond) ∈ WG := in_WG 27 rfl (List.mem_of_getElem? (i := 26) rfl)
theorem m_707 : (.code y_R_isBelow b_R_isBelow 6 (some (.boolean)) : Cond) ∈ WG := in_WG 27 rfl (List.mem_of_getElem? (i := 27) rfl)
theorem m_708 : (.code y_R_fitted b_R_fitted 3 (some (.long)) : Cond) ∈ WG := in_WG 27 rfl (List.mem_of_getElem? (i := 28) rfl)
theorem m_709 : (.code y_R_madeBy b_R_madeBy 5 (some (.int)) : Cond) ∈ WG := in_WG 27 rfl (List.mem_of_getElem? (i := 29) rfl)
theorem m_710 : (.code y_R_finds b_R_finds 7 (some (.int)) : Cond) ∈ WG := in_WG 27 rfl (List.mem_of_getElem? (i := 30) rfl)
theorem m_711 : (.code y_R_visible b_R_visible 3 (some (.boolean)) : Cond) ∈ WG := in_WG 27 rfl (List.mem_of_getElem? (i := 31) rfl)
theorem m_712 : (.code y_R_sameSignature b_R_sameSignature 3 (some (.boolean)) : Cond) ∈ WG := in_WG 27 rfl (List.mem_of_getElem? (i := 32) rfl)
theorem m_713 : (.code y_R_takesCount b_R_takesCount 3 (some (.int)) : Cond) ∈ WG := in_WG 27 rfl (List.mem_of_getElem? (i := 33) rfl)
theorem m_714 : (.code y_R_listMethods b_R_listMethods 9 none : Cond) ∈ WG := in_WG 27 rfl (List.mem_of_getElem? (i := 34) rfl)
theorem m_715 : (.code y_R_add b_R_add 3 none : Cond) ∈ WG := in_WG 27 rfl (List.mem_of_getElem? (i := 35) rfl)
theorem m_716 : (.code y_R_belowOneOf b_R_belowOneOf 4 (some (.boolean)) : Cond) ∈ WG := in_WG 27 rfl (List.mem_of_getElem? (i := 36) rfl)
theorem m_717 : (.code y_R_merge b_R_merge 10 none : Cond) ∈ WG := in_WG 27 rfl (List.mem_of_getElem? (i := 37) rfl)
theorem m_718 : (.code y_R_describe b_R_describe 7 none : Cond) ∈ WG := in_WG 27 rfl (List.mem_of_getElem? (i := 38) rfl)
theorem m_719 : (.code y_R_wrongResults b_R_wrongResults 9 (some (.boolean)) : Cond) ∈ WG := in_WG 27 rfl (List.mem_of_getElem? (i := 39) rfl)
theorem m_720 : (.code y_R_faultOf b_R_faultOf 9 (some (.int)) : Cond) ∈ WG := in_WG 28 rfl (List.mem_of_getElem? (i := 0) rfl)
theorem m_721 : (.code y_R_catchFor b_R_catchFor 7 none : Cond) ∈ WG := in_WG 28 rfl (List.mem_of_getElem? (i := 1) rfl)
theorem m_722 : (.code y_R_say b_R_say 2 none : Cond) ∈ WG := in_WG 28 rfl (List.mem_of_getElem? (i := 2) rfl)
theorem m_723 : (.code y_R_entry b_R_entry 5 (some (.int)) : Cond) ∈ WG := in_WG 28 rfl (List.mem_of_getElem? (i := 3) rfl)
theorem m_724 : (.code y_R_owner b_R_owner 1 (some (.int)) : Cond) ∈ WG := in_WG 28 rfl (List.mem_of_getElem? (i := 4) rfl)
theorem m_725 : (.code y_R_numberOf b_R_numberOf 1 (some (.int)) : Cond) ∈ WG := in_WG 28 rfl (List.mem_of_getElem? (i := 5) rfl)
theorem m_726 : (.code y_R_sayCode b_R_sayCode 6 none : Cond) ∈ WG := in_WG 28 rfl (List.mem_of_getElem? (i := 6) rfl)
theorem m_727 : (.code y_R_sayMethod b_R_sayMethod 6 none : Cond) ∈ WG := in_WG 28 rfl (List.mem_of_getElem? (i := 7) rfl)
theorem m_728 : (.code y_R_unit b_R_unit 5 none : Cond) ∈ WG := in_WG 28 rfl (List.mem_of_getElem? (i := 8) rfl)
theorem m_729 : (.code y_R_poolBytes b_R_poolBytes 3 (some (.int)) : Cond) ∈ WG := in_WG 28 rfl (List.mem_of_getElem? (i := 9) rfl)
theorem m_730 : (.code y_R_unitByte b_R_unitByte 5 (some (.int)) : Cond) ∈ WG := in_WG 28 rfl (List.mem_of_getElem? (i := 10) rfl)
theorem m_731 : (.code y_R_thrown b_R_thrown 1 (some (.int)) : Cond) ∈ WG := in_WG 28 rfl (List.mem_of_getElem? (i := 11) rfl)
theorem m_732 : (.code y_R_loader b_R_loader 2 (some (.int)) : Cond) ∈ WG := in_WG 28 rfl (List.mem_of_getElem? (i := 12) rfl)
theorem m_733 : (.code y_R_type b_R_type 2 (some (.int)) : Cond) ∈ WG := in_WG 28 rfl (List.mem_of_getElem? (i := 13) rfl)
theorem m_734 : (.code y_R_face b_R_face 5 (some (.int)) : Cond) ∈ WG := in_WG 28 rfl (List.mem_of_getElem? (i := 14) rfl)
theorem m_735 : (.code y_R_extend b_R_extend 5 (some (.boolean)) : Cond) ∈ WG := in_WG 28 rfl (List.mem_of_getElem? (i := 15) rfl)
theorem m_736 : (.code y_R_method b_R_method 10 (some (.int)) : Cond) ∈ WG := in_WG 28 rfl (List.mem_of_getElem? (i := 16) rfl)
theorem m_737 : (.code y_R_throwing b_R_throwing 6 (some (.boolean)) : Cond) ∈ WG := in_WG 28 rfl (List.mem_of_getElem? (i := 17) rfl)
theorem m_738 : (.code y_R_object b_R_object 4 (some (.int)) : Cond) ∈ WG := in_WG 28 rfl (List.mem_of_getElem? (i := 18) rfl)
theorem m_739 : (.code y_R_value b_R_value 3 (some (.long)) : Cond) ∈ WG := in_WG 28 rfl (List.mem_of_getElem? (i := 19) rfl)
theorem m_740 : (.code y_R_below b_R_below 3 (some (.boolean)) : Cond) ∈ WG := in_WG 28 rfl (List.mem_of_getElem? (i := 20) rfl)
theorem m_741 : (.code y_R_find b_R_find 5 (some (.int)) : Cond) ∈ WG := in_WG 28 rfl (List.mem_of_getElem? (i := 21) rfl)
theorem m_742 : (.code y_R_cleaned b_R_cleaned 4 (some (.int)) : Cond) ∈ WG := in_WG 28 rfl (List.mem_of_getElem? (i := 22) rfl)
theorem m_743 : (.code y_R_stand b_R_stand 7 (some (.int)) : Cond) ∈ WG := in_WG 28 rfl (List.mem_of_getElem? (i := 23) rfl)
theorem m_744 : (.code y_R_fault b_R_fault 1 (some (.int)) : Cond) ∈ WG := in_WG 28 rfl (List.mem_of_getElem? (i := 24) rfl)
theorem m_745 : (.code y_R_isStand b_R_isStand 2 (some (.boolean)) : Cond) ∈ WG := in_WG 28 rfl (List.mem_of_getElem? (i := 25) rfl)
theorem m_746 : (.code y_R_about b_R_about 3 (some (.int)) : Cond) ∈ WG := in_WG 28 rfl (List.mem_of_getElem? (i := 26) rfl)
theorem m_747 : (.code y_R_told b_R_told 6 (some (.int)) : Cond) ∈ WG := in_WG 28 rfl (List.mem_of_getElem? (i := 27) rfl)
theorem m_748 : (.code y_R_octet b_R_octet 3 (some (.int)) : Cond) ∈ WG := in_WG 28 rfl (List.mem_of_getElem? (i := 28) rfl)
theorem m_749 : (.code y_R_handler b_R_handler 4 (some (.boolean)) : Cond) ∈ WG := in_WG 28 rfl (List.mem_of_getElem? (i := 29) rfl)
theorem m_750 : (.code y_R_takesAs b_R_takesAs 5 (some (.boolean)) : Cond) ∈ WG := in_WG 28 rfl (List.mem_of_getElem? (i := 30) rfl)
theorem m_751 : (.code y_R_fit b_R_fit 7 (some (.int)) : Cond) ∈ WG := in_WG 28 rfl (List.mem_of_getElem? (i := 31) rfl)
theorem m_752 : (.code y_R_call b_R_call 13 (some (.int)) : Cond) ∈ WG := in_WG 28 rfl (List.mem_of_getElem? (i := 32) rfl)
theorem m_753 : (.code y_R_outcome b_R_outcome 1 (some (.long)) : Cond) ∈ WG := in_WG 28 rfl (List.mem_of_getElem? (i := 33) rfl)
theorem m_754 : (.code y_R_seen b_R_seen 2 (some (.long)) : Cond) ∈ WG := in_WG 28 rfl (List.mem_of_getElem? (i := 34) rfl)
theorem kb_10 : (Int8.ofInt 10).toInt32 = (10 : Int32) := by decide
theorem kb_11 : (Int8.ofInt 11).toInt32 = (11 : Int32) := by decide
theorem kb_12 : (Int8.ofInt 12).toInt32 = (12 : Int32) := by decide
theorem kb_13 : (Int8.ofInt 13).toInt32 = (13 : Int32) := by decide
theorem kb_14 : (Int8.ofInt 14).toInt32 = (14 : Int32) := by decide
theorem kb_15 : (Int8.ofInt 15).toInt32 = (15 : Int32) := by decide
theorem kb_16 : (Int8.ofInt 16).toInt32 = (16 : Int32) := by decide
theorem kb_17 : (Int8.ofInt 17).toInt32 = (17 : Int32) := by decide
theorem kb_18 : (Int8.ofInt 18).toInt32 = (18 : Int32) := by decide
theorem kb_23 : (Int8.ofInt 23).toInt32 = (23 : Int32) := by decide
theorem kb_24 : (Int8.ofInt 24).toInt32 = (24 : Int32) := by decide
theorem kb_25 : (Int8.ofInt 25).toInt32 = (25 : Int32) := by decide
theorem kb_26 : (Int8.ofInt 26).toInt32 = (26 : Int32) := by decide
theorem kb_27 : (Int8.ofInt 27).toInt32 = (27 : Int32) := by decide
theorem kb_28 : (Int8.ofInt 28).toInt32 = (28 : Int32) := by decide
theorem kb_29 : (Int8.ofInt 29).toInt32 = (29 : Int32) := by decide
theorem kb_31 : (Int8.ofInt 31).toInt32 = (31 : Int32) := by decide
theorem kb_32 : (Int8.ofInt 32).toInt32 = (32 : Int32) := by decide
theorem kb_36 : (Int8.ofInt 36).toInt32 = (36 : Int32) := by decide
theorem kb_40 : (Int8.ofInt 40).toInt32 = (40 : Int32) := by decide
theorem kb_41 : (Int8.ofInt 41).toInt32 = (41 : Int32) := by decide
theorem kb_46 : (Int8.ofInt 46).toInt32 = (46 : Int32) := by decide
theorem kb_47 : (Int8.ofInt 47).toInt32 = (47 : Int32) := by decide
theorem kb_6 : (Int8.ofInt 6).toInt32 = (6 : Int32) := by decide
theorem kb_7 : (Int8.ofInt 7).toInt32 = (7 : Int32) := by decide
theorem kb_70 : (Int8.ofInt 70).toInt32 = (70 : Int32) := by decide
theorem kb_72 : (Int8.ofInt 72).toInt32 = (72 : Int32) := by decide
theorem kb_73 : (Int8.ofInt 73).toInt32 = (73 : Int32) := by decide
theorem kb_74 : (Int8.ofInt 74).toInt32 = (74 : Int32) := by decide
theorem kb_75 : (Int8.ofInt 75).toInt32 = (75 : Int32) := by decide
theorem kb_8 : (Int8.ofInt 8).toInt32 = (8 : Int32) := by decide
theorem kb_80 : (Int8.ofInt 80).toInt32 = (80 : Int32) := by decide
theorem kb_9 : (Int8.ofInt 9).toInt32 = (9 : Int32) := by decide
theorem ki_0 : Int32.ofInt 0 = (0 : Int32) := by decide
theorem ki_1 : Int32.ofInt 1 = (1 : Int32) := by decide
theorem ki_2 : Int32.ofInt 2 = (2 : Int32) := by decide
theorem ki_3 : Int32.ofInt 3 = (3 : Int32) := by decide
theorem ki_4 : Int32.ofInt 4 = (4 : Int32) := by decide
theorem ki_5 : Int32.ofInt 5 = (5 : Int32) := by decide
theorem ki_8 : Int32.ofInt 8 = (8 : Int32) := by decide
theorem ki_9 : Int32.ofInt 9 = (9 : Int32) := by decide
theorem ki_m1 : Int32.ofInt (-1) = ((-1) : Int32) := by decide
theorem ks_1280 : (Int16.ofInt 1280).toInt32 = (1280 : Int32) := by decide
theorem ks_219 : (Int16.ofInt 219).toInt32 = (219 : Int32) := by decide
theorem ks_225 : (Int16.ofInt 225).toInt32 = (225 : Int32) := by decide
theorem ks_255 : (Int16.ofInt 255).toInt32 = (255 : Int32) := by decide
theorem ks_263 : (Int16.ofInt 263).toInt32 = (263 : Int32) := by decide
theorem ks_292 : (Int16.ofInt 292).toInt32 = (292 : Int32) := by decide
theorem ks_3200 : (Int16.ofInt 3200).toInt32 = (3200 : Int32) := by decide
theorem ks_3600 : (Int16.ofInt 3600).toInt32 = (3600 : Int32) := by decide
theorem ks_512 : (Int16.ofInt 512).toInt32 = (512 : Int32) := by decide
theorem ks_768 : (Int16.ofInt 768).toInt32 = (768 : Int32) := by decide
theorem ks_864 : (Int16.ofInt 864).toInt32 = (864 : Int32) := by decide
end
section
abbrev gS : Type := (Nat → Nat) × (Nat → Nat) × (Nat → Nat → Option Nat) × Nat
abbrev gD : Type := (Nat → Nat → Int32) × (Nat → Nat → Int64)
def sK (S : gS) (a : Nat) : Nat := S.1 a
def sN (S : gS) (a : Nat) : Nat := S.2.1 a
def sP (S : gS) (a k : Nat) : Option Nat := S.2.2.1 a k
def sZ (S : gS) : Nat := S.2.2.2
def dI (d : gD) (a k : Nat) : Int32 := d.1 a k
def dL (d : gD) (a k : Nat) : Int64 := d.2 a k
def up2 {α : Type} (f : Nat → Nat → α) (a k : Nat) (v : α) : Nat → Nat → α := fun b j => if b = a ∧ j = k then v else f b j
def wI (d : gD) (a k : Nat) (v : Int32) : gD := (up2 d.1 a k v, d.2)
def wL (d : gD) (a k : Nat) (v : Int64) : gD := (d.1, up2 d.2 a k v)
def wP (S : gS) (a k : Nat) (v : Option Nat) : gS := (S.1, S.2.1, up2 S.2.2.1 a k v, S.2.2.2)
def nS (S : gS) (κ n : Nat) : gS := (va_up S.1 S.2.2.2 κ, va_up S.2.1 S.2.2.2 n, va_up S.2.2.1 S.2.2.2 (fun _ => none), S.2.2.2 + 1)
def nD (S : gS) (d : gD) : gD := (va_up d.1 S.2.2.2 (fun _ => 0), va_up d.2 S.2.2.2 (fun _ => 0))
def gV (S : gS) (d : gD) (a k : Nat) : Value := match srt (sK S a) k with
  | 0 => .int (dI d a k)
  | 1 => .long (dL d a k)
  | _ => va_rf (sP S a k)
abbrev gG : Type := va_G × (Nat → ClassId) × Nat
def gAt (G : gG) (S : gS) (d : gD) (a : Nat) (H : Heap) : Prop :=
  (sK S a < 50 → ∃ r : vw_C, classes[sK S a - 1]? = some r ∧ t_OB a (G.1.1 (sK S a - 1)) r.2.2 (G.1.2 (sK S a - 1)) H (gV S d a)) ∧ (50 ≤ sK S a → H[a]? = some (arrV (G.2.1 (sK S a)) (sN S a) (gV S d a)))
def gH (G : gG) (S : gS) (d : gD) (H : Heap) : Prop := H.size = sZ S ∧ ∀ a, sK S a ≠ 0 → G.2.2 ≤ a ∧ gAt G S d a H
def gK (G : gG) (U : State) : Prop := va_K G.1 classes (aks.map fun κ => (G.2.1 κ, aty κ)) U ∧ (∀ w ∈ NW, va_Nw w U) ∧ ∀ C ∈ AOs, va_AO C U
def dc (cc : ByteArray) (pc : Nat) (i : Instr) (n q : Nat) : Prop := decode cc pc = .ok (i, n) ∧ pc + n = q
def db (cc : ByteArray) (pc : Nat) (i : Instr) (off : Int) (tgt q : Nat) : Prop := decode cc pc = .ok (i, 3) ∧ (pc : Int) + off = (tgt : Int) ∧ pc + 3 = q
def gi {α : Type} (i : Int32) (n : Nat) (x : Option α) : Option α := if i < 0 ∨ n ≤ i.toNatClampNeg then none else x
def kd {α : Type} (S : gS) (a κ : Nat) (x : Option α) : Option α := if sK S a = κ then x else none
def nn {α : Type} (r : Option Nat) (f : Nat → Option α) : Option α := match r with
  | none => none
  | some a => f a
def lt_ {α β : Type} (v : α) (k : α → Option β) : Option β := k v
def bd {α β : Type} (x : Option α) (k : α → Option β) : Option β := match x with
  | none => none
  | some a => k a
def bdD {α β : Type} (x : Option (α × gD)) (k : α → gD → Option β) : Option β := match x with
  | none => none
  | some (a, d) => k a d
def bdP {α β : Type} (x : Option (α × gS × gD)) (k : α → gS → gD → Option β) : Option β := match x with
  | none => none
  | some (a, S, d) => k a S d
def ac {α : Type} (c s : Nat) (x : Option (α × Nat × Nat)) : Option (α × Nat × Nat) := match x with
  | none => none
  | some (a, n, m) => some (a, n + c, m + s)
def bdA {α β : Type} (x : Option ((α × gS × gD) × Nat × Nat)) (k : α → gS → gD → Option (β × Nat × Nat)) : Option (β × Nat × Nat) := match x with
  | none => none
  | some ((a, S, d), n, m) => ac n m (k a S d)
def nz {α : Type} (y : Int32) (x : Option α) : Option α := if y = 0 then none else x
def nb {α : Type} (y : Int32) (x : Option α) : Option α := if y = 0 ∨ y = 1 then x else none
def nl {α : Type} (n : Int32) (x : Option α) : Option α := if n < 0 ∨ 67108864 < n.toNatClampNeg then none else x
def itr {α : Type} (B : α → α) (z : α) : Nat → α
  | 0 => z
  | n + 1 => B (itr B z n)
theorem gi_s {α : Type} {i : Int32} {n : Nat} {x : Option α} {r : α} (h : gi i n x = some r) : vp_in i n ∧ x = some r := by
  unfold gi at h
  by_cases c : i < 0 ∨ n ≤ i.toNatClampNeg
  · rw [if_pos c] at h; cases h
  · rw [if_neg c] at h; exact ⟨c, h⟩
theorem kd_s {α : Type} {S : gS} {a κ : Nat} {x : Option α} {r : α} (h : kd S a κ x = some r) : sK S a = κ ∧ x = some r := by
  unfold kd at h
  by_cases c : sK S a = κ
  · rw [if_pos c] at h; exact ⟨c, h⟩
  · rw [if_neg c] at h; cases h
theorem nn_s {α : Type} {x : Option Nat} {f : Nat → Option α} {r : α} (h : nn x f = some r) : ∃ a, x = some a ∧ f a = some r := by
  cases x with
  | none => cases h
  | some a => exact ⟨a, rfl, h⟩
theorem bd_s {α β : Type} {x : Option α} {f : α → Option β} {r : β} (h : bd x f = some r) : ∃ a, x = some a ∧ f a = some r := by
  cases x with
  | none => cases h
  | some a => exact ⟨a, rfl, h⟩
theorem bdD_s {α β : Type} {x : Option (α × gD)} {k : α → gD → Option β} {r : β} (h : bdD x k = some r) : ∃ a d, x = some (a, d) ∧ k a d = some r := by
  cases x with
  | none => cases h
  | some p => exact ⟨p.1, p.2, rfl, h⟩
theorem bdP_s {α β : Type} {x : Option (α × gS × gD)} {k : α → gS → gD → Option β} {r : β} (h : bdP x k = some r) : ∃ a S d, x = some (a, S, d) ∧ k a S d = some r := by
  cases x with
  | none => cases h
  | some p => exact ⟨p.1, p.2.1, p.2.2, rfl, h⟩
theorem ac_s {α : Type} {c s : Nat} {x : Option (α × Nat × Nat)} {r : α} {dc ds : Nat} (h : ac c s x = some (r, dc, ds)) : ∃ n m, x = some (r, n, m) ∧ dc = n + c ∧ ds = m + s := by
  cases x with
  | none => cases h
  | some p =>
    obtain ⟨a, n, m⟩ := p
    have h := Option.some.inj h
    simp only [Prod.mk.injEq] at h
    obtain ⟨rfl, rfl, rfl⟩ := h
    exact ⟨n, m, rfl, rfl, rfl⟩
theorem bdA_s {α β : Type} {x : Option ((α × gS × gD) × Nat × Nat)} {k : α → gS → gD → Option (β × Nat × Nat)} {r : β} {dc ds : Nat} (h : bdA x k = some (r, dc, ds)) : ∃ a S d n m n2 m2, x = some ((a, S, d), n, m) ∧ k a S d = some (r, n2, m2) ∧ dc = n2 + n ∧ ds = m2 + m := by
  cases x with
  | none => cases h
  | some p =>
    obtain ⟨⟨a, S, d⟩, n, m⟩ := p
    obtain ⟨n2, m2, h1, h2, h3⟩ := ac_s h
    exact ⟨a, S, d, n, m, n2, m2, rfl, h1, h2, h3⟩
theorem lt_i {α β : Type} {v x : α} {k : α → Option β} {r : β} (e : v = x) (h : lt_ v k = some r) : k x = some r := e ▸ h
theorem nz_s {α : Type} {y : Int32} {x : Option α} {r : α} (h : nz y x = some r) : ¬ y = 0 ∧ x = some r := by
  unfold nz at h
  by_cases c : y = 0
  · rw [if_pos c] at h; cases h
  · rw [if_neg c] at h; exact ⟨c, h⟩
theorem nb_s {α : Type} {y : Int32} {x : Option α} {r : α} (h : nb y x = some r) : (y = 0 ∨ y = 1) ∧ x = some r := by
  unfold nb at h
  by_cases c : y = 0 ∨ y = 1
  · rw [if_pos c] at h; exact ⟨c, h⟩
  · rw [if_neg c] at h; cases h
theorem nl_s {α : Type} {n : Int32} {x : Option α} {r : α} (h : nl n x = some r) : ¬ (n < 0 ∨ 67108864 < n.toNatClampNeg) ∧ x = some r := by
  unfold nl at h
  by_cases c : n < 0 ∨ 67108864 < n.toNatClampNeg
  · rw [if_pos c] at h; cases h
  · rw [if_neg c] at h; exact ⟨c, h⟩
theorem if_t {α : Type} {c : Prop} {dec : Decidable c} {x y : Option α} {r : α} (p : c) (h : (@ite _ c dec x y) = some r) : x = some r := by
  rw [if_pos p] at h; exact h
theorem if_f {α : Type} {c : Prop} {dec : Decidable c} {x y : Option α} {r : α} (p : ¬ c) (h : (@ite _ c dec x y) = some r) : y = some r := by
  rw [if_neg p] at h; exact h
abbrev GX : Type := Program × Launch × Env × Room × State × MethodId × Array Value × List Frame × Method × Code × gG
abbrev xp (X : GX) : Program := X.1
abbrev xl (X : GX) : Launch := X.2.1
abbrev xe (X : GX) : Env := X.2.2.1
abbrev xR (X : GX) : Room := X.2.2.2.1
abbrev xs (X : GX) : State := X.2.2.2.2.1
abbrev xm (X : GX) : MethodId := X.2.2.2.2.2.1
abbrev xa (X : GX) : Array Value := X.2.2.2.2.2.2.1
abbrev xb (X : GX) : List Frame := X.2.2.2.2.2.2.2.1
abbrev xM (X : GX) : Method := X.2.2.2.2.2.2.2.2.1
abbrev xc (X : GX) : Code := X.2.2.2.2.2.2.2.2.2.1
abbrev xG (X : GX) : gG := X.2.2.2.2.2.2.2.2.2.2
def gA (G : gG) : Nat → Prop := fun q => G.2.2 ≤ q
def gE (X : GX) (cc : ByteArray) (nL : Nat) (own : String) (rt : Option FieldType) (nm : String) (nf nw : Nat) : Prop :=
  (xp X).tables.exec = Jvm.exec ∧ (xc X).code = cc ∧ (xc X).maxLocals = nL ∧ (xs X).vm.findClass own = some (xm X).cls ∧ (∀ w ∈ WG, w.before (xa X) (xs X) = true) ∧ gK (xG X) (xs X) ∧ (xG X).2.2 ≤ (xs X).heap.size ∧ (xM X).locks = false ∧ (xM X).sig.returnType = rt ∧ (xM X).name = nm ∧ (xR X).frames = nf ∧ (xR X).locals = nw
def lvh (ls : Array Slot) (n : Nat) (lv : List (Option Value)) : Prop := ls.size = n ∧ lv_wf ls ∧ ∀ (i : Nat) (v : Value), lv[i]? = some (some v) → ls[i]? = some (.val v)
def gw (X : GX) (cells slots : Nat) (Q : State → Prop) (S : gS) (d : gD) (pc : Nat) (lv : List (Option Value)) (st : List Value) : Prop :=
  ∀ (ls : Array Slot) (H : Heap) (locs : List Loc), lvh ls (xc X).maxLocals lv → gH (xG X) S d H → va_S (gA (xG X)) (xs X).heap H locs → W (xp X) (xl X) (xe X) (xR X) (xs X) (xm X) (xa X) (xb X) (xM X) (xc X) H locs cells slots Q (F0 (xm X) pc ls st)
def gQc (G : gG) (rv : Option Value) (S' : gS) (d' : gD) : Array Value → State → Outcome → State → Prop := fun _ st oc t => oc = .returned rv ∧ gH G S' d' t.heap ∧ va_F (gA G) st t
def gQ (X : GX) (rv : Option Value) (S' : gS) (d' : gD) (mc ms : Nat) : State → Prop := MQ (xb X) (gQc (xG X) rv S' d') (xa X) (xs X) mc ms (gA (xG X))
abbrev gT : Type := Int32 ⊕ (Int64 ⊕ Option Nat)
def tv : gT → Value
  | .inl i => .int i
  | .inr (.inl x) => .long x
  | .inr (.inr r) => va_rf r
def tl : List gT → List (Option Value)
  | [] => []
  | .inl i :: r => some (.int i) :: tl r
  | .inr (.inl x) :: r => some (.long x) :: none :: tl r
  | .inr (.inr x) :: r => some (va_rf x) :: tl r
def gPc (G : gG) (av : List gT) (S : gS) (d : gD) : Array Value → State → Prop := fun v U => v = (av.map tv).toArray ∧ gH G S d U.heap ∧ gK G U ∧ G.2.2 ≤ U.heap.size
def GM (l : Launch) (G : gG) (y : MethodName) (cc : ByteArray) (nL : Nat) (rt : Option FieldType) (nf nw mc ms : Nat) (av : List gT) (S : gS) (d : gD) (rv : Option Value) (S' : gS) (d' : gD) : Prop :=
  Met l y (Cond.code y cc nL rt :: WG) { frames := nf, locals := nw, cells := mc, slots := ms } (gPc G av S d) (gQc G rv S' d') mc ms (gA G)
theorem rf_cat (x : Option Nat) : (va_rf x).category = 1 := by cases x <;> rfl
theorem rf_rf (x : Option Nat) : va_rf x = .null ∨ ∃ a, va_rf x = .ref a := by
  cases x with
  | none => exact Or.inl rfl
  | some a => exact Or.inr ⟨a, rfl⟩
theorem gK.moved {G : gG} {s U : State} (hW : s.WarmedH U.vm) (h : gK G s) : gK G U := by
  refine ⟨va_K.moved hW.alike h.1, fun w hw => ?_, fun C hC => va_AO.moved hW.alike (h.2.2 C hC)⟩
  obtain hf | hm := NW_form w hw
  · obtain ⟨a, i, b, n, dd, q, rfl⟩ := hf
    exact va_Nw.warmF hW (h.2.1 _ hw)
  · obtain ⟨a, i, x, q, rfl⟩ := hm
    exact va_Nw.warmM hW (h.2.1 _ hw)
theorem gK.same {G : gG} {s U : State} (e : s.vm = U.vm) (h : gK G s) : gK G U := by
  refine ⟨va_K.moved (by rw [← e]; exact Vm.Alike.refl _) h.1, fun w hw => ?_, fun C hC => va_AO.moved (by rw [← e]; exact Vm.Alike.refl _) (h.2.2 C hC)⟩
  obtain hf | hm := NW_form w hw
  · obtain ⟨a, i, b, n, dd, q, rfl⟩ := hf
    exact va_Nw.same rfl e (h.2.1 _ hw)
  · obtain ⟨a, i, x, q, rfl⟩ := hm
    exact va_Nw.same rfl e (h.2.1 _ hw)
theorem gPc.blind {G : gG} {av : List gT} {S : gS} {d : gD} : FrameBlind (gPc G av S d) := fun a U g mk h => ⟨h.1, h.2.1, gK.same (s := U) rfl h.2.2.1, h.2.2.2⟩
theorem gH.at {G : gG} {S : gS} {d : gD} {H : Heap} (h : gH G S d H) {a κ : Nat} (hk : sK S a = κ) (h0 : κ ≠ 0) : G.2.2 ≤ a ∧ gAt G S d a H := h.2 a (by rw [hk]; exact h0)
theorem tl_args : ∀ (av : List gT) (k i : Nat) (v : Value), (tl av)[i]? = some (some v) → (k + i, v) ∈ lv_args k (av.map tv)
  | [], _, _, _, h => by simp [tl] at h
  | .inl x :: r, k, i, v, h => by
    cases i with
    | zero =>
      simp only [tl, List.getElem?_cons_zero, Option.some.injEq] at h
      subst h
      exact List.mem_cons_self
    | succ i =>
      simp only [tl, List.getElem?_cons_succ] at h
      have := tl_args r (k + 1) i v h
      refine List.mem_cons_of_mem _ ?_
      show (k + (i + 1), v) ∈ lv_args (if (Value.int x).category = 2 then k + 2 else k + 1) (r.map tv)
      rw [if_neg (show ¬ (Value.int x).category = 2 from (by decide : ¬ (1 : Nat) = 2)), show k + (i + 1) = k + 1 + i by omega]
      exact this
  | .inr (.inl x) :: r, k, i, v, h => by
    cases i with
    | zero =>
      simp only [tl, List.getElem?_cons_zero, Option.some.injEq] at h
      subst h
      exact List.mem_cons_self
    | succ i =>
      cases i with
      | zero => simp [tl] at h
      | succ i =>
        simp only [tl, List.getElem?_cons_succ] at h
        have := tl_args r (k + 2) i v h
        refine List.mem_cons_of_mem _ ?_
        show (k + (i + 1 + 1), v) ∈ lv_args (if (Value.long x).category = 2 then k + 2 else k + 1) (r.map tv)
        rw [if_pos (show (Value.long x).category = 2 from rfl), show k + (i + 1 + 1) = k + 2 + i by omega]
        exact this
  | .inr (.inr x) :: r, k, i, v, h => by
    cases i with
    | zero =>
      simp only [tl, List.getElem?_cons_zero, Option.some.injEq] at h
      subst h
      exact List.mem_cons_self
    | succ i =>
      simp only [tl, List.getElem?_cons_succ] at h
      have := tl_args r (k + 1) i v h
      refine List.mem_cons_of_mem _ ?_
      show (k + (i + 1), v) ∈ lv_args (if (va_rf x).category = 2 then k + 2 else k + 1) (r.map tv)
      rw [if_neg (by rw [rf_cat]; decide), show k + (i + 1) = k + 1 + i by omega]
      exact this
theorem lg_sl_cons (v : Value) (r : List Value) : lg_sl (v :: r) = (if v.category = 2 then [.val v, .second] else [.val v]) ++ lg_sl r := by
  simp only [lg_sl, List.flatMap_cons]
theorem tl_len : ∀ av : List gT, (lg_sl (av.map tv)).length = (tl av).length
  | [] => rfl
  | .inl x :: r => by
    rw [List.map_cons, lg_sl_cons, if_neg (show ¬ (tv (Sum.inl x)).category = 2 from (by decide : ¬ (1 : Nat) = 2)), List.length_append, tl_len r]
    simp only [tl, List.length_cons, List.length_nil]; omega
  | .inr (.inl x) :: r => by
    rw [List.map_cons, lg_sl_cons, if_pos (show (tv (Sum.inr (Sum.inl x))).category = 2 from rfl), List.length_append, tl_len r]
    simp only [tl, List.length_cons, List.length_nil]; omega
  | .inr (.inr x) :: r => by
    rw [List.map_cons, lg_sl_cons, if_neg (show ¬ (tv (Sum.inr (Sum.inr x))).category = 2 by show ¬ (va_rf x).category = 2; rw [rf_cat]; decide), List.length_append, tl_len r]
    simp only [tl, List.length_cons, List.length_nil]; omega
theorem GM.of {l : Launch} {G : gG} {y : MethodName} {cc : ByteArray} {nL : Nat} {rt : Option FieldType} {nf nw mc ms : Nat} {av : List gT} {S : gS} {d : gD} {rv : Option Value} {S' : gS} {d' : gD}
    (hy : plainName y.cls = true) (hlen : (tl av).length ≤ nL)
    (h : ∀ X : GX, xl X = l → xG X = G → xR X = { frames := nf, locals := nw, cells := mc, slots := ms } → gE X cc nL y.cls rt y.name nf nw → gw X 0 0 (gQ X rv S' d' mc ms) S d 0 (tl av) []) : GM l G y cc nL rt nf nw mc ms av S d rv S' d' := by
  refine Met.ofW (cc := cc) (maxL := nL) (ret := rt) hy rfl ?_
  intro p e s m args below meth c s₁ B hml hv
  obtain ⟨rfl, hH, hK, hz⟩ := hv
  have hx := B.exec
  have hb := B.bytes
  have hr := B.returns
  have hts := atoms_spec (ws := Cond.code y cc nL rt :: WG) B.pre
  have hown : s.vm.findClass y.cls = some m.cls := findClass_of_methodNamed B.named
  have hlocks := B.notSynchronized
  have hin : meth.name = y.name := (name_of_methodNamed B.named B.method).1
  rw [lg_entry_eq]
  have hl := lv_entry (av.map tv) (n := nL) (by rw [tl_len]; exact hlen)
  refine h (p, l, e, { frames := nf, locals := nw, cells := mc, slots := ms }, s, m, (av.map tv).toArray, below, meth, c, G) rfl rfl rfl ⟨hx, hb, hml, hown, fun w hw => hts w (List.mem_cons_of_mem _ hw), hK, hz, hlocks, hr, hin, rfl, rfl⟩ _ s.heap [] ?_ hH va_S.rf
  refine ⟨hl.1.trans hml.symm, hl.2.1, fun i v hi => ?_⟩
  have h9 := tl_args av 0 i v hi
  rw [Nat.zero_add] at h9
  exact hl.2.2 (i, v) h9
def lvle : List (Option Value) → List (Option Value) → Prop
  | [], _ => True
  | none :: a, b => lvle a b.tail
  | some v :: a, b => b.head? = some (some v) ∧ lvle a b.tail
theorem lvle.get : ∀ {a b : List (Option Value)}, lvle a b → ∀ (i : Nat) (v : Value), a[i]? = some (some v) → b[i]? = some (some v)
  | [], _, _, i, v, h => by simp at h
  | none :: a, [], hl, i, v, h => by
    cases i with
    | zero => simp at h
    | succ i =>
      have := lvle.get (a := a) (b := []) hl i v (by simpa using h)
      simp at this
  | none :: a, c :: b, hl, i, v, h => by
    cases i with
    | zero => simp at h
    | succ i =>
      have := lvle.get (a := a) (b := b) hl i v (by simpa using h)
      simpa using this
  | some w :: a, [], hl, i, v, h => by simp [lvle] at hl
  | some w :: a, c :: b, hl, i, v, h => by
    have h1 : c = some w := by simpa [lvle] using hl.1
    cases i with
    | zero => simp at h; simp [h1, h]
    | succ i =>
      have := lvle.get (a := a) (b := b) hl.2 i v (by simpa using h)
      simpa using this
section GB
variable {X : GX} {cells slots : Nat} {Q : State → Prop} {S : gS} {d : gD} {pc q : Nat} {lv : List (Option Value)} {st : List Value} {cc : ByteArray} {nL nf nw : Nat} {own nm : String} {rt : Option FieldType}
theorem gw.less {lv' : List (Option Value)} (hl : lvle lv' lv) (k : gw X cells slots Q S d pc lv' st) : gw X cells slots Q S d pc lv st :=
  fun ls H locs hv hH hS => k ls H locs ⟨hv.1, hv.2.1, fun i v h => hv.2.2 i v (hl.get i v h)⟩ hH hS
theorem gE.ex (h : gE X cc nL own rt nm nf nw) : (xp X).tables.exec = Jvm.exec := h.1
theorem gE.bt (h : gE X cc nL own rt nm nf nw) : (xc X).code = cc := h.2.1
theorem gE.ml (h : gE X cc nL own rt nm nf nw) : (xc X).maxLocals = nL := h.2.2.1
theorem gE.ow (h : gE X cc nL own rt nm nf nw) : (xs X).vm.findClass own = some (xm X).cls := h.2.2.2.1
theorem gE.wd (h : gE X cc nL own rt nm nf nw) : ∀ w ∈ WG, w.before (xa X) (xs X) = true := h.2.2.2.2.1
theorem gE.kn (h : gE X cc nL own rt nm nf nw) : gK (xG X) (xs X) := h.2.2.2.2.2.1
theorem gE.sz (h : gE X cc nL own rt nm nf nw) : (xG X).2.2 ≤ (xs X).heap.size := h.2.2.2.2.2.2.1
theorem gE.lk (h : gE X cc nL own rt nm nf nw) : (xM X).locks = false := h.2.2.2.2.2.2.2.1
theorem gE.ret (h : gE X cc nL own rt nm nf nw) : (xM X).sig.returnType = rt := h.2.2.2.2.2.2.2.2.1
theorem gE.nam (h : gE X cc nL own rt nm nf nw) : (xM X).name = nm := h.2.2.2.2.2.2.2.2.2.1
theorem gE.fr (h : gE X cc nL own rt nm nf nw) : (xR X).frames = nf := h.2.2.2.2.2.2.2.2.2.2.1
theorem gE.lw (h : gE X cc nL own rt nm nf nw) : (xR X).locals = nw := h.2.2.2.2.2.2.2.2.2.2.2
theorem gE.nest (h : gE X cc nL own rt nm nf nw) {w : Cond} (hw : w ∈ NW) : va_Nw w (xs X) := h.kn.2.1 w hw

theorem g_iadd {x y : Int32} (hE : gE X cc nL own rt nm nf nw) (dg : dc cc pc (.iadd) 1 q) (k : gw X cells slots Q S d q lv (.int (x + y) :: st)) : gw X cells slots Q S d pc lv (.int y :: .int x :: st) := by
  obtain ⟨dg, rfl⟩ := dg
  exact fun ls H locs hl hH hS => lv_iadd hE.ex hE.bt dg (k ls H locs hl hH hS)
theorem g_isub {x y : Int32} (hE : gE X cc nL own rt nm nf nw) (dg : dc cc pc (.isub) 1 q) (k : gw X cells slots Q S d q lv (.int (x - y) :: st)) : gw X cells slots Q S d pc lv (.int y :: .int x :: st) := by
  obtain ⟨dg, rfl⟩ := dg
  exact fun ls H locs hl hH hS => lv_isub hE.ex hE.bt dg (k ls H locs hl hH hS)
theorem g_imul {x y : Int32} (hE : gE X cc nL own rt nm nf nw) (dg : dc cc pc (.imul) 1 q) (k : gw X cells slots Q S d q lv (.int (x * y) :: st)) : gw X cells slots Q S d pc lv (.int y :: .int x :: st) := by
  obtain ⟨dg, rfl⟩ := dg
  exact fun ls H locs hl hH hS => lv_imul hE.ex hE.bt dg (k ls H locs hl hH hS)
theorem g_iand {x y : Int32} (hE : gE X cc nL own rt nm nf nw) (dg : dc cc pc (.iand) 1 q) (k : gw X cells slots Q S d q lv (.int (x &&& y) :: st)) : gw X cells slots Q S d pc lv (.int y :: .int x :: st) := by
  obtain ⟨dg, rfl⟩ := dg
  exact fun ls H locs hl hH hS => lv_iand hE.ex hE.bt dg (k ls H locs hl hH hS)
theorem g_ior {x y : Int32} (hE : gE X cc nL own rt nm nf nw) (dg : dc cc pc (.ior) 1 q) (k : gw X cells slots Q S d q lv (.int (x ||| y) :: st)) : gw X cells slots Q S d pc lv (.int y :: .int x :: st) := by
  obtain ⟨dg, rfl⟩ := dg
  exact fun ls H locs hl hH hS => lv_ior hE.ex hE.bt dg (k ls H locs hl hH hS)
theorem g_land {x y : Int64} (hE : gE X cc nL own rt nm nf nw) (dg : dc cc pc (.land) 1 q) (k : gw X cells slots Q S d q lv (.long (x &&& y) :: st)) : gw X cells slots Q S d pc lv (.long y :: .long x :: st) := by
  obtain ⟨dg, rfl⟩ := dg
  exact fun ls H locs hl hH hS => lv_land hE.ex hE.bt dg (k ls H locs hl hH hS)
theorem g_lor {x y : Int64} (hE : gE X cc nL own rt nm nf nw) (dg : dc cc pc (.lor) 1 q) (k : gw X cells slots Q S d q lv (.long (x ||| y) :: st)) : gw X cells slots Q S d pc lv (.long y :: .long x :: st) := by
  obtain ⟨dg, rfl⟩ := dg
  exact fun ls H locs hl hH hS => lv_lor hE.ex hE.bt dg (k ls H locs hl hH hS)
theorem g_ishl {x y : Int32} (hE : gE X cc nL own rt nm nf nw) (dg : dc cc pc (.ishl) 1 q) (k : gw X cells slots Q S d q lv (.int (x <<< (y &&& 31)) :: st)) : gw X cells slots Q S d pc lv (.int y :: .int x :: st) := by
  obtain ⟨dg, rfl⟩ := dg
  exact fun ls H locs hl hH hS => lv_ishl hE.ex hE.bt dg (k ls H locs hl hH hS)
theorem g_ishr {x y : Int32} (hE : gE X cc nL own rt nm nf nw) (dg : dc cc pc (.ishr) 1 q) (k : gw X cells slots Q S d q lv (.int (x >>> (y &&& 31)) :: st)) : gw X cells slots Q S d pc lv (.int y :: .int x :: st) := by
  obtain ⟨dg, rfl⟩ := dg
  exact fun ls H locs hl hH hS => lv_ishr hE.ex hE.bt dg (k ls H locs hl hH hS)
theorem g_iushr {x y : Int32} (hE : gE X cc nL own rt nm nf nw) (dg : dc cc pc (.iushr) 1 q) (k : gw X cells slots Q S d q lv (.int ((x.toUInt32 >>> (y.toUInt32 &&& Int32.toUInt32 31)).toInt32) :: st)) : gw X cells slots Q S d pc lv (.int y :: .int x :: st) := by
  obtain ⟨dg, rfl⟩ := dg
  exact fun ls H locs hl hH hS => lv_iushr hE.ex hE.bt dg rfl (k ls H locs hl hH hS)
theorem g_idiv {x y : Int32} (hE : gE X cc nL own rt nm nf nw) (dg : dc cc pc (.idiv) 1 q) (hn : ¬ y = 0) (k : gw X cells slots Q S d q lv (.int (x / y) :: st)) : gw X cells slots Q S d pc lv (.int y :: .int x :: st) := by
  obtain ⟨dg, rfl⟩ := dg
  exact fun ls H locs hl hH hS => lv_idiv hE.ex hE.bt dg hn (k ls H locs hl hH hS)
theorem g_irem {x y : Int32} (hE : gE X cc nL own rt nm nf nw) (dg : dc cc pc (.irem) 1 q) (hn : ¬ y = 0) (k : gw X cells slots Q S d q lv (.int (x - x / y * y) :: st)) : gw X cells slots Q S d pc lv (.int y :: .int x :: st) := by
  obtain ⟨dg, rfl⟩ := dg
  exact fun ls H locs hl hH hS => lv_irem hE.ex hE.bt dg hn (k ls H locs hl hH hS)
theorem g_lshl {x : Int64} {y : Int32} (hE : gE X cc nL own rt nm nf nw) (dg : dc cc pc (.lshl) 1 q) (k : gw X cells slots Q S d q lv (.long (x <<< (y.toInt64 &&& 63)) :: st)) : gw X cells slots Q S d pc lv (.int y :: .long x :: st) := by
  obtain ⟨dg, rfl⟩ := dg
  exact fun ls H locs hl hH hS => lv_lshl hE.ex hE.bt dg rfl (k ls H locs hl hH hS)
theorem g_i2l {x : Int32} (hE : gE X cc nL own rt nm nf nw) (dg : dc cc pc (.i2l) 1 q) (k : gw X cells slots Q S d q lv (.long x.toInt64 :: st)) : gw X cells slots Q S d pc lv (.int x :: st) := by
  obtain ⟨dg, rfl⟩ := dg
  exact fun ls H locs hl hH hS => lv_i2l hE.ex hE.bt dg rfl (k ls H locs hl hH hS)
theorem g_l2i {x : Int64} (hE : gE X cc nL own rt nm nf nw) (dg : dc cc pc (.l2i) 1 q) (k : gw X cells slots Q S d q lv (.int x.toInt32 :: st)) : gw X cells slots Q S d pc lv (.long x :: st) := by
  obtain ⟨dg, rfl⟩ := dg
  exact fun ls H locs hl hH hS => lv_l2i hE.ex hE.bt dg rfl (k ls H locs hl hH hS)
theorem g_i2b {x : Int32} (hE : gE X cc nL own rt nm nf nw) (dg : dc cc pc (.i2b) 1 q) (k : gw X cells slots Q S d q lv (.int x.toInt8.toInt32 :: st)) : gw X cells slots Q S d pc lv (.int x :: st) := by
  obtain ⟨dg, rfl⟩ := dg
  exact fun ls H locs hl hH hS => lv_i2b hE.ex hE.bt dg rfl (k ls H locs hl hH hS)
theorem g_i2s {x : Int32} (hE : gE X cc nL own rt nm nf nw) (dg : dc cc pc (.i2s) 1 q) (k : gw X cells slots Q S d q lv (.int x.toInt16.toInt32 :: st)) : gw X cells slots Q S d pc lv (.int x :: st) := by
  obtain ⟨dg, rfl⟩ := dg
  exact fun ls H locs hl hH hS => lv_i2s hE.ex hE.bt dg rfl (k ls H locs hl hH hS)
theorem g_i2c {x : Int32} (hE : gE X cc nL own rt nm nf nw) (dg : dc cc pc (.i2c) 1 q) (k : gw X cells slots Q S d q lv (.int (x.toUInt32 % 65536).toInt32 :: st)) : gw X cells slots Q S d pc lv (.int x :: st) := by
  obtain ⟨dg, rfl⟩ := dg
  exact fun ls H locs hl hH hS => lv_i2c hE.ex hE.bt dg rfl (k ls H locs hl hH hS)
theorem g_lcmp {x y : Int64} (hE : gE X cc nL own rt nm nf nw) (dg : dc cc pc (.lcmp) 1 q) (k : gw X cells slots Q S d q lv (.int (lg_cmp x y) :: st)) : gw X cells slots Q S d pc lv (.long y :: .long x :: st) := by
  obtain ⟨dg, rfl⟩ := dg
  exact fun ls H locs hl hH hS => W.lcmp hE.ex hE.bt dg (k ls H locs hl hH hS)
theorem g_iconst {n : Int} {v : Int32} (hE : gE X cc nL own rt nm nf nw) (dg : dc cc pc (.iconst n) 1 q) (hv : Int32.ofInt n = v) (k : gw X cells slots Q S d q lv (.int v :: st)) : gw X cells slots Q S d pc lv (st) := by
  obtain ⟨dg, rfl⟩ := dg
  exact fun ls H locs hl hH hS => lv_iconst hE.ex hE.bt dg hv (k ls H locs hl hH hS)
theorem g_bipush {n : Int} {v : Int32} (hE : gE X cc nL own rt nm nf nw) (dg : dc cc pc (.bipush n) 2 q) (hv : (Int8.ofInt n).toInt32 = v) (k : gw X cells slots Q S d q lv (.int v :: st)) : gw X cells slots Q S d pc lv (st) := by
  obtain ⟨dg, rfl⟩ := dg
  exact fun ls H locs hl hH hS => lv_bipush hE.ex hE.bt dg hv (k ls H locs hl hH hS)
theorem g_sipush {n : Int} {v : Int32} (hE : gE X cc nL own rt nm nf nw) (dg : dc cc pc (.sipush n) 3 q) (hv : (Int16.ofInt n).toInt32 = v) (k : gw X cells slots Q S d q lv (.int v :: st)) : gw X cells slots Q S d pc lv (st) := by
  obtain ⟨dg, rfl⟩ := dg
  exact fun ls H locs hl hH hS => lv_sipush hE.ex hE.bt dg hv (k ls H locs hl hH hS)
theorem g_lconst {n : Fin 2} {v : Int64} (hE : gE X cc nL own rt nm nf nw) (dg : dc cc pc (.lconst n) 1 q) (hv : Int64.ofNat (n : Nat) = v) (k : gw X cells slots Q S d q lv (.long v :: st)) : gw X cells slots Q S d pc lv (st) := by
  obtain ⟨dg, rfl⟩ := dg
  exact fun ls H locs hl hH hS => lv_lconst hE.ex hE.bt dg hv (k ls H locs hl hH hS)
theorem g_popi {x : Int32} (hE : gE X cc nL own rt nm nf nw) (dg : dc cc pc (.pop) 1 q) (k : gw X cells slots Q S d q lv (st)) : gw X cells slots Q S d pc lv (.int x :: st) := by
  obtain ⟨dg, rfl⟩ := dg
  exact fun ls H locs hl hH hS => lv_pop hE.ex hE.bt dg rfl (k ls H locs hl hH hS)
theorem g_popr {x : Option Nat} (hE : gE X cc nL own rt nm nf nw) (dg : dc cc pc (.pop) 1 q) (k : gw X cells slots Q S d q lv (st)) : gw X cells slots Q S d pc lv (va_rf x :: st) := by
  obtain ⟨dg, rfl⟩ := dg
  exact fun ls H locs hl hH hS => lv_pop hE.ex hE.bt dg (rf_cat x) (k ls H locs hl hH hS)
theorem g_dupi {x : Int32} (hE : gE X cc nL own rt nm nf nw) (dg : dc cc pc (.dup) 1 q) (k : gw X cells slots Q S d q lv (.int x :: .int x :: st)) : gw X cells slots Q S d pc lv (.int x :: st) := by
  obtain ⟨dg, rfl⟩ := dg
  exact fun ls H locs hl hH hS => lv_dup hE.ex hE.bt dg rfl (k ls H locs hl hH hS)
theorem g_dupr {x : Option Nat} (hE : gE X cc nL own rt nm nf nw) (dg : dc cc pc (.dup) 1 q) (k : gw X cells slots Q S d q lv (va_rf x :: va_rf x :: st)) : gw X cells slots Q S d pc lv (va_rf x :: st) := by
  obtain ⟨dg, rfl⟩ := dg
  exact fun ls H locs hl hH hS => lv_dup hE.ex hE.bt dg (rf_cat x) (k ls H locs hl hH hS)
theorem g_dup2ir {x : Int32} {y : Option Nat} (hE : gE X cc nL own rt nm nf nw) (dg : dc cc pc (.dup2) 1 q) (k : gw X cells slots Q S d q lv (.int x :: va_rf y :: .int x :: va_rf y :: st)) : gw X cells slots Q S d pc lv (.int x :: va_rf y :: st) := by
  obtain ⟨dg, rfl⟩ := dg
  exact fun ls H locs hl hH hS => lv_dup2_11 hE.ex hE.bt dg rfl (rf_cat y) (k ls H locs hl hH hS)
theorem g_null  (hE : gE X cc nL own rt nm nf nw) (dg : dc cc pc (.aconst_null) 1 q) (k : gw X cells slots Q S d q lv (va_rf none :: st)) : gw X cells slots Q S d pc lv (st) := by
  obtain ⟨dg, rfl⟩ := dg
  exact fun ls H locs hl hH hS => lv_null hE.ex hE.bt dg (k ls H locs hl hH hS)
theorem g_ldc2 {idx : Nat} {v : Int64} (hE : gE X cc nL own rt nm nf nw) (dg : dc cc pc (.ldc2_w idx) 3 q) (hw : Jvm.Cond.constantLong own idx v ∈ WG) (k : gw X cells slots Q S d q lv (.long v :: st)) : gw X cells slots Q S d pc lv st := by
  obtain ⟨dg, rfl⟩ := dg
  exact fun ls H locs hl hH hS => lv_ldc2 hE.ex hE.bt hE.ow (hE.wd _ hw) dg (k ls H locs hl hH hS)
theorem g_ldc {idx : Nat} {v : Int32} (hE : gE X cc nL own rt nm nf nw) (dg : dc cc pc (.ldc idx) 2 q) (hw : Jvm.Cond.constant own idx v ∈ WG) (k : gw X cells slots Q S d q lv (.int v :: st)) : gw X cells slots Q S d pc lv st := by
  obtain ⟨dg, rfl⟩ := dg
  exact fun ls H locs hl hH hS => lv_ldc hE.ex hE.bt hE.ow (hE.wd _ hw) dg (k ls H locs hl hH hS)
theorem g_iload_n {k0 : Fin 4} {i : Nat} {x : Int32} (hE : gE X cc nL own rt nm nf nw) (dg : dc cc pc (.iload_n k0) 1 q) (hi : (k0 : Nat) = i) (hv : lv[i]? = some (some (.int x))) (k : gw X cells slots Q S d q lv (.int x :: st)) : gw X cells slots Q S d pc lv st := by
  obtain ⟨dg, rfl⟩ := dg
  exact fun ls H locs hl hH hS => lv_iload_n hE.ex hE.bt dg hi (hl.2.2 i _ hv) (k ls H locs hl hH hS)
theorem g_iload {i : Nat} {x : Int32} (hE : gE X cc nL own rt nm nf nw) (dg : dc cc pc (.iload i) 2 q) (hv : lv[i]? = some (some (.int x))) (k : gw X cells slots Q S d q lv (.int x :: st)) : gw X cells slots Q S d pc lv st := by
  obtain ⟨dg, rfl⟩ := dg
  exact fun ls H locs hl hH hS => lv_iload hE.ex hE.bt dg (hl.2.2 i _ hv) (k ls H locs hl hH hS)
theorem g_lload_n {k0 : Fin 4} {i : Nat} {x : Int64} (hE : gE X cc nL own rt nm nf nw) (dg : dc cc pc (.lload_n k0) 1 q) (hi : (k0 : Nat) = i) (hv : lv[i]? = some (some (.long x))) (k : gw X cells slots Q S d q lv (.long x :: st)) : gw X cells slots Q S d pc lv st := by
  obtain ⟨dg, rfl⟩ := dg
  exact fun ls H locs hl hH hS => lv_lload_n hE.ex hE.bt dg hi (hl.2.2 i _ hv) (k ls H locs hl hH hS)
theorem g_lload {i : Nat} {x : Int64} (hE : gE X cc nL own rt nm nf nw) (dg : dc cc pc (.lload i) 2 q) (hv : lv[i]? = some (some (.long x))) (k : gw X cells slots Q S d q lv (.long x :: st)) : gw X cells slots Q S d pc lv st := by
  obtain ⟨dg, rfl⟩ := dg
  exact fun ls H locs hl hH hS => lv_lload hE.ex hE.bt dg (hl.2.2 i _ hv) (k ls H locs hl hH hS)
theorem g_aload_n {k0 : Fin 4} {i : Nat} {x : Option Nat} (hE : gE X cc nL own rt nm nf nw) (dg : dc cc pc (.aload_n k0) 1 q) (hi : (k0 : Nat) = i) (hv : lv[i]? = some (some (va_rf x))) (k : gw X cells slots Q S d q lv (va_rf x :: st)) : gw X cells slots Q S d pc lv st := by
  obtain ⟨dg, rfl⟩ := dg
  cases x with
  | none => exact fun ls H locs hl hH hS => lv_aload_nN hE.ex hE.bt dg hi (hl.2.2 i _ hv) (k ls H locs hl hH hS)
  | some a => exact fun ls H locs hl hH hS => lv_aload_n hE.ex hE.bt dg hi (hl.2.2 i _ hv) (k ls H locs hl hH hS)
theorem g_aload {i : Nat} {x : Option Nat} (hE : gE X cc nL own rt nm nf nw) (dg : dc cc pc (.aload i) 2 q) (hv : lv[i]? = some (some (va_rf x))) (k : gw X cells slots Q S d q lv (va_rf x :: st)) : gw X cells slots Q S d pc lv st := by
  obtain ⟨dg, rfl⟩ := dg
  cases x with
  | none => exact fun ls H locs hl hH hS => lv_aloadN hE.ex hE.bt dg (hl.2.2 i _ hv) (k ls H locs hl hH hS)
  | some a => exact fun ls H locs hl hH hS => lv_aload hE.ex hE.bt dg (hl.2.2 i _ hv) (k ls H locs hl hH hS)
def lvp (lv : List (Option Value)) (i : Nat) : Prop := ∀ (j : Nat) (v : Value), j + 1 = i → lv[j]? = some (some v) → v.category = 1
theorem lvp_0 : lvp lv 0 := fun j v h _ => absurd h (Nat.succ_ne_zero j)
theorem lvp_n {i : Nat} (h : lv[i]? = some none) : lvp lv (i + 1) := fun j v e g => by
  cases (Nat.succ.inj e); rw [h] at g; cases g
theorem lvp_e {i : Nat} (h : lv[i]? = none) : lvp lv (i + 1) := fun j v e g => by
  cases (Nat.succ.inj e); rw [h] at g; cases g
theorem lvp_i {i : Nat} {x : Int32} (h : lv[i]? = some (some (.int x))) : lvp lv (i + 1) := fun j v e g => by
  cases (Nat.succ.inj e); rw [h] at g; cases g; rfl
theorem lvp_r {i : Nat} {x : Option Nat} (h : lv[i]? = some (some (va_rf x))) : lvp lv (i + 1) := fun j v e g => by
  cases (Nat.succ.inj e); rw [h] at g; cases g; exact rf_cat x
def lvl (lv : List (Option Value)) : List (Nat × Value) := (List.range lv.length).filterMap fun i => (lv[i]?).join.map fun v => (i, v)
theorem lvl_mem {i : Nat} {v : Value} : (i, v) ∈ lvl lv ↔ lv[i]? = some (some v) := by
  constructor
  · intro h
    obtain ⟨j, -, hj⟩ := List.mem_filterMap.mp h
    cases hg : lv[j]? with
    | none => rw [hg] at hj; simp at hj
    | some o =>
      rw [hg] at hj
      cases o with
      | none => simp at hj
      | some w => simp at hj; obtain ⟨rfl, rfl⟩ := hj; exact hg
  · intro h
    refine List.mem_filterMap.mpr ⟨i, List.mem_range.mpr ?_, by rw [h]; rfl⟩
    exact (List.getElem?_eq_some_iff.mp h).1
theorem lvh.has {ls : Array Slot} {n : Nat} (h : lvh ls n lv) : lv_has ls n (lvl lv) := ⟨h.1, h.2.1, fun p hp => h.2.2 p.1 p.2 (lvl_mem.mp hp)⟩
theorem lvh.put {ls' : Array Slot} {n i : Nat} {v : Value} {lv' : List (Option Value)} {g : Nat × Value → Bool} (h : lv_has ls' n ((i, v) :: (lvl lv).filter g)) (hg : ∀ (j : Nat) (w : Value), lv'[j]? = some (some w) → (j = i ∧ w = v) ∨ (lv[j]? = some (some w) ∧ g (j, w) = true)) : lvh ls' n lv' :=
  ⟨h.1, h.2.1, fun j w hj => by
    rcases hg j w hj with ⟨rfl, rfl⟩ | ⟨h1, h2⟩
    · exact h.2.2 (j, w) List.mem_cons_self
    · exact h.2.2 (j, w) (List.mem_cons_of_mem _ (List.mem_filter.mpr ⟨lvl_mem.mpr h1, h2⟩))⟩
def lvs (lv : List (Option Value)) (i : Nat) (v : Value) (lv' : List (Option Value)) : Prop := lv.set i (some v) = lv' ∧ i < lv.length
theorem lvs.one {i : Nat} {v : Value} {lv' : List (Option Value)} (hs : lvs lv i v lv') (hp : lvp lv i) : ∀ (j : Nat) (w : Value), lv'[j]? = some (some w) → (j = i ∧ w = v) ∨ (lv[j]? = some (some w) ∧ (!((j, w).1 == i) && !((j, w).1 + 1 == i && (j, w).2.category == 2)) = true) := by
  intro j w hj
  obtain ⟨rfl, hi⟩ := hs
  by_cases e : j = i
  · subst e
    rw [List.getElem?_set_self hi] at hj
    exact Or.inl ⟨rfl, (Option.some.inj (Option.some.inj hj)).symm⟩
  · rw [List.getElem?_set_ne (Ne.symm e)] at hj
    refine Or.inr ⟨hj, ?_⟩
    by_cases e2 : j + 1 = i
    · have := hp j w e2 hj
      simp [e, e2, this]
    · simp [e, e2]
theorem g_istore_n {k0 : Fin 4} {i : Nat} {x : Int32} {lv' : List (Option Value)} (hE : gE X cc nL own rt nm nf nw) (dg : dc cc pc (.istore_n k0) 1 q) (hi : (k0 : Nat) = i) (hn : i < nL) (hs : lvs lv i (.int x) lv') (hp : lvp lv i) (k : gw X cells slots Q S d q lv' st) : gw X cells slots Q S d pc lv (.int x :: st) := by
  obtain ⟨dg, rfl⟩ := dg
  exact fun ls H locs hl hH hS => lv_istore_n hE.ex hE.bt dg hi hl.has (by rw [hE.ml]; exact hn) rfl (fun ls' h' => k ls' H locs (lvh.put h' (hs.one hp)) hH hS)
theorem g_istore {i : Nat} {x : Int32} {lv' : List (Option Value)} (hE : gE X cc nL own rt nm nf nw) (dg : dc cc pc (.istore i) 2 q) (hn : i < nL) (hs : lvs lv i (.int x) lv') (hp : lvp lv i) (k : gw X cells slots Q S d q lv' st) : gw X cells slots Q S d pc lv (.int x :: st) := by
  obtain ⟨dg, rfl⟩ := dg
  exact fun ls H locs hl hH hS => lv_istore hE.ex hE.bt dg hl.has (by rw [hE.ml]; exact hn) rfl (fun ls' h' => k ls' H locs (lvh.put h' (hs.one hp)) hH hS)
theorem g_astore_n {k0 : Fin 4} {i : Nat} {x : Option Nat} {lv' : List (Option Value)} (hE : gE X cc nL own rt nm nf nw) (dg : dc cc pc (.astore_n k0) 1 q) (hi : (k0 : Nat) = i) (hn : i < nL) (hs : lvs lv i (va_rf x) lv') (hp : lvp lv i) (k : gw X cells slots Q S d q lv' st) : gw X cells slots Q S d pc lv (va_rf x :: st) := by
  obtain ⟨dg, rfl⟩ := dg
  cases x with
  | none => exact fun ls H locs hl hH hS => lv_astore_nN hE.ex hE.bt dg hi hl.has (by rw [hE.ml]; exact hn) rfl (fun ls' h' => k ls' H locs (lvh.put h' (hs.one hp)) hH hS)
  | some a => exact fun ls H locs hl hH hS => lv_astore_n hE.ex hE.bt dg hi hl.has (by rw [hE.ml]; exact hn) rfl (fun ls' h' => k ls' H locs (lvh.put h' (hs.one hp)) hH hS)
theorem g_astore {i : Nat} {x : Option Nat} {lv' : List (Option Value)} (hE : gE X cc nL own rt nm nf nw) (dg : dc cc pc (.astore i) 2 q) (hn : i < nL) (hs : lvs lv i (va_rf x) lv') (hp : lvp lv i) (k : gw X cells slots Q S d q lv' st) : gw X cells slots Q S d pc lv (va_rf x :: st) := by
  obtain ⟨dg, rfl⟩ := dg
  cases x with
  | none => exact fun ls H locs hl hH hS => lv_astoreN hE.ex hE.bt dg hl.has (by rw [hE.ml]; exact hn) rfl (fun ls' h' => k ls' H locs (lvh.put h' (hs.one hp)) hH hS)
  | some a => exact fun ls H locs hl hH hS => lv_astore hE.ex hE.bt dg hl.has (by rw [hE.ml]; exact hn) rfl (fun ls' h' => k ls' H locs (lvh.put h' (hs.one hp)) hH hS)
theorem g_iinc {i : Nat} {n : Int} {x v : Int32} {lv' : List (Option Value)} (hE : gE X cc nL own rt nm nf nw) (dg : dc cc pc (.iinc i n) 3 q) (hv : Int32.ofInt n = v) (hk : lv[i]? = some (some (.int x))) (hn : i < nL) (hs : lvs lv i (.int (x + v)) lv') (hp : lvp lv i) (k : gw X cells slots Q S d q lv' st) : gw X cells slots Q S d pc lv st := by
  obtain ⟨dg, rfl⟩ := dg
  intro ls H locs hl hH hS
  obtain ⟨j, hj⟩ := List.getElem?_of_mem (lvl_mem.mpr hk)
  exact lv_iinc hE.ex hE.bt dg hl.has hj (by rw [hv]) (by rw [hE.ml]; exact hn) rfl (fun ls' h' => k ls' H locs (lvh.put h' (hs.one hp)) hH hS)
theorem g_icmp_eq {x y : Int32} {off : Int} {tgt : Nat} (hE : gE X cc nL own rt nm nf nw) (dg : db cc pc (.if_icmp .eq off) off tgt q) (kt : x = y → gw X cells slots Q S d tgt lv st) (kf : ¬ x = y → gw X cells slots Q S d q lv st) : gw X cells slots Q S d pc lv (.int y :: .int x :: st) := by
  obtain ⟨dg, ht, rfl⟩ := dg
  exact fun ls H locs hl hH hS => lv_icmp_eq hE.ex hE.bt dg ht (fun c => kt c ls H locs hl hH hS) (fun c => kf c ls H locs hl hH hS)
theorem g_icmp_ne {x y : Int32} {off : Int} {tgt : Nat} (hE : gE X cc nL own rt nm nf nw) (dg : db cc pc (.if_icmp .ne off) off tgt q) (kt : ¬ x = y → gw X cells slots Q S d tgt lv st) (kf : x = y → gw X cells slots Q S d q lv st) : gw X cells slots Q S d pc lv (.int y :: .int x :: st) := by
  obtain ⟨dg, ht, rfl⟩ := dg
  exact fun ls H locs hl hH hS => lv_icmp_ne hE.ex hE.bt dg ht (fun c => kt c ls H locs hl hH hS) (fun c => kf c ls H locs hl hH hS)
theorem g_icmp_lt {x y : Int32} {off : Int} {tgt : Nat} (hE : gE X cc nL own rt nm nf nw) (dg : db cc pc (.if_icmp .lt off) off tgt q) (kt : x < y → gw X cells slots Q S d tgt lv st) (kf : ¬ x < y → gw X cells slots Q S d q lv st) : gw X cells slots Q S d pc lv (.int y :: .int x :: st) := by
  obtain ⟨dg, ht, rfl⟩ := dg
  exact fun ls H locs hl hH hS => lv_icmp_lt hE.ex hE.bt dg ht (fun c => kt c ls H locs hl hH hS) (fun c => kf c ls H locs hl hH hS)
theorem g_icmp_ge {x y : Int32} {off : Int} {tgt : Nat} (hE : gE X cc nL own rt nm nf nw) (dg : db cc pc (.if_icmp .ge off) off tgt q) (kt : y ≤ x → gw X cells slots Q S d tgt lv st) (kf : ¬ y ≤ x → gw X cells slots Q S d q lv st) : gw X cells slots Q S d pc lv (.int y :: .int x :: st) := by
  obtain ⟨dg, ht, rfl⟩ := dg
  exact fun ls H locs hl hH hS => lv_icmp_ge hE.ex hE.bt dg ht (fun c => kt c ls H locs hl hH hS) (fun c => kf c ls H locs hl hH hS)
theorem g_icmp_gt {x y : Int32} {off : Int} {tgt : Nat} (hE : gE X cc nL own rt nm nf nw) (dg : db cc pc (.if_icmp .gt off) off tgt q) (kt : y < x → gw X cells slots Q S d tgt lv st) (kf : ¬ y < x → gw X cells slots Q S d q lv st) : gw X cells slots Q S d pc lv (.int y :: .int x :: st) := by
  obtain ⟨dg, ht, rfl⟩ := dg
  exact fun ls H locs hl hH hS => lv_icmp_gt hE.ex hE.bt dg ht (fun c => kt c ls H locs hl hH hS) (fun c => kf c ls H locs hl hH hS)
theorem g_icmp_le {x y : Int32} {off : Int} {tgt : Nat} (hE : gE X cc nL own rt nm nf nw) (dg : db cc pc (.if_icmp .le off) off tgt q) (kt : x ≤ y → gw X cells slots Q S d tgt lv st) (kf : ¬ x ≤ y → gw X cells slots Q S d q lv st) : gw X cells slots Q S d pc lv (.int y :: .int x :: st) := by
  obtain ⟨dg, ht, rfl⟩ := dg
  exact fun ls H locs hl hH hS => lv_icmp_le hE.ex hE.bt dg ht (fun c => kt c ls H locs hl hH hS) (fun c => kf c ls H locs hl hH hS)
theorem g_if_eq {x : Int32} {off : Int} {tgt : Nat} (hE : gE X cc nL own rt nm nf nw) (dg : db cc pc (.ifCond .eq off) off tgt q) (kt : x = 0 → gw X cells slots Q S d tgt lv st) (kf : ¬ x = 0 → gw X cells slots Q S d q lv st) : gw X cells slots Q S d pc lv (.int x :: st) := by
  obtain ⟨dg, ht, rfl⟩ := dg
  exact fun ls H locs hl hH hS => lv_if_eq hE.ex hE.bt dg ht (fun c => kt c ls H locs hl hH hS) (fun c => kf c ls H locs hl hH hS)
theorem g_if_ne {x : Int32} {off : Int} {tgt : Nat} (hE : gE X cc nL own rt nm nf nw) (dg : db cc pc (.ifCond .ne off) off tgt q) (kt : ¬ x = 0 → gw X cells slots Q S d tgt lv st) (kf : x = 0 → gw X cells slots Q S d q lv st) : gw X cells slots Q S d pc lv (.int x :: st) := by
  obtain ⟨dg, ht, rfl⟩ := dg
  exact fun ls H locs hl hH hS => lv_if_ne hE.ex hE.bt dg ht (fun c => kt c ls H locs hl hH hS) (fun c => kf c ls H locs hl hH hS)
theorem g_if_lt {x : Int32} {off : Int} {tgt : Nat} (hE : gE X cc nL own rt nm nf nw) (dg : db cc pc (.ifCond .lt off) off tgt q) (kt : x < 0 → gw X cells slots Q S d tgt lv st) (kf : ¬ x < 0 → gw X cells slots Q S d q lv st) : gw X cells slots Q S d pc lv (.int x :: st) := by
  obtain ⟨dg, ht, rfl⟩ := dg
  exact fun ls H locs hl hH hS => lv_if_lt hE.ex hE.bt dg ht (fun c => kt c ls H locs hl hH hS) (fun c => kf c ls H locs hl hH hS)
theorem g_if_ge {x : Int32} {off : Int} {tgt : Nat} (hE : gE X cc nL own rt nm nf nw) (dg : db cc pc (.ifCond .ge off) off tgt q) (kt : 0 ≤ x → gw X cells slots Q S d tgt lv st) (kf : ¬ 0 ≤ x → gw X cells slots Q S d q lv st) : gw X cells slots Q S d pc lv (.int x :: st) := by
  obtain ⟨dg, ht, rfl⟩ := dg
  exact fun ls H locs hl hH hS => lv_if_ge hE.ex hE.bt dg ht (fun c => kt c ls H locs hl hH hS) (fun c => kf c ls H locs hl hH hS)
theorem g_if_gt {x : Int32} {off : Int} {tgt : Nat} (hE : gE X cc nL own rt nm nf nw) (dg : db cc pc (.ifCond .gt off) off tgt q) (kt : 0 < x → gw X cells slots Q S d tgt lv st) (kf : ¬ 0 < x → gw X cells slots Q S d q lv st) : gw X cells slots Q S d pc lv (.int x :: st) := by
  obtain ⟨dg, ht, rfl⟩ := dg
  exact fun ls H locs hl hH hS => lv_if_gt hE.ex hE.bt dg ht (fun c => kt c ls H locs hl hH hS) (fun c => kf c ls H locs hl hH hS)
theorem g_if_le {x : Int32} {off : Int} {tgt : Nat} (hE : gE X cc nL own rt nm nf nw) (dg : db cc pc (.ifCond .le off) off tgt q) (kt : x ≤ 0 → gw X cells slots Q S d tgt lv st) (kf : ¬ x ≤ 0 → gw X cells slots Q S d q lv st) : gw X cells slots Q S d pc lv (.int x :: st) := by
  obtain ⟨dg, ht, rfl⟩ := dg
  exact fun ls H locs hl hH hS => lv_if_le hE.ex hE.bt dg ht (fun c => kt c ls H locs hl hH hS) (fun c => kf c ls H locs hl hH hS)
theorem g_ifnull {x : Option Nat} {off : Int} {tgt : Nat} (hE : gE X cc nL own rt nm nf nw) (dg : db cc pc (.ifnull off) off tgt q) (kt : x = none → gw X cells slots Q S d tgt lv st) (kf : ¬ x = none → gw X cells slots Q S d q lv st) : gw X cells slots Q S d pc lv (va_rf x :: st) := by
  obtain ⟨dg, ht, rfl⟩ := dg
  cases x with
  | none => exact fun ls H locs hl hH hS => lv_ifnullN hE.ex hE.bt dg ht (kt rfl ls H locs hl hH hS)
  | some a => exact fun ls H locs hl hH hS => lv_ifnull hE.ex hE.bt dg (kf (fun h => by cases h) ls H locs hl hH hS)
theorem g_goto {off : Int} {tgt : Nat} (hE : gE X cc nL own rt nm nf nw) (dg : db cc pc (.goto off) off tgt q) (k : gw X cells slots Q S d tgt lv st) : gw X cells slots Q S d pc lv st := by
  obtain ⟨dg, ht, rfl⟩ := dg
  exact fun ls H locs hl hH hS => lv_goto hE.ex hE.bt dg ht (k ls H locs hl hH hS)
end GB
end
section
theorem nar_rf {fty : FieldType} (h : fty.isReference = true) (x : Option Nat) : narrow fty (va_rf x) = va_rf x := by
  cases x <;> cases fty <;> first | rfl | cases h
theorem fit_rf {fty : FieldType} (h : fty.isReference = true) (x : Option Nat) : fits fty (va_rf x) = true := by
  cases x <;> cases fty <;> first | rfl | cases h
theorem nar_z {x : Int32} (h : x = 0 ∨ x = 1) : narrow .boolean (.int x) = .int x := by
  rcases h with rfl | rfl <;> rfl
theorem fit_z {x : Int32} (h : x = 0 ∨ x = 1) : fits .boolean (.int x) = true := by
  rcases h with rfl | rfl <;> rfl
def gCl (κ : Nat) (C : String) (T : u_T) (N : Nat) (ty : Nat → FieldType) : Prop := κ ≠ 0 ∧ κ < 50 ∧ classes[κ - 1]? = some (C, T, N) ∧ (∀ w ∈ u_ws C T N, w ∈ WG) ∧ (∀ k, k < N → parseFieldDescriptor (T k).2.2.1 = some (ty k)) ∧ ∀ a, a < N → ∀ b, b < N → a ≠ b → (T a).2.1 ≠ (T b).2.1
def gY (y : MethodName) (b : ByteArray) (nL : Nat) (rt : Option FieldType) (n : Nat) : Prop := Cond.code y b nL rt ∈ WG ∧ Cond.initialized y.cls ∈ WG ∧ y.cls ≠ "java/lang/invoke/MethodHandle" ∧ y.cls ≠ "java/lang/invoke/VarHandle" ∧ (parseMethodDescriptor y.desc).map (fun d => d.parameters.length) = some n
theorem gV_i {S : gS} {d : gD} {a k : Nat} (h : srt (sK S a) k = 0) : gV S d a k = .int (dI d a k) := by unfold gV; rw [h]; rfl
theorem gV_l {S : gS} {d : gD} {a k : Nat} (h : srt (sK S a) k = 1) : gV S d a k = .long (dL d a k) := by unfold gV; rw [h]; rfl
theorem gV_r {S : gS} {d : gD} {a k : Nat} (h : srt (sK S a) k = 2) : gV S d a k = va_rf (sP S a k) := by unfold gV; rw [h]; rfl
theorem gV_congr {S S' : gS} {d d' : gD} {b : Nat} (hk : sK S' b = sK S b) (hp : ∀ j, sP S' b j = sP S b j) (hi : ∀ j, dI d' b j = dI d b j) (hl : ∀ j, dL d' b j = dL d b j) : gV S' d' b = gV S d b := by
  funext j
  unfold gV
  rw [hk, hp, hi, hl]
theorem up2_ne {α : Type} {f : Nat → Nat → α} {a k b : Nat} {v : α} (h : b ≠ a) (j : Nat) : up2 f a k v b j = f b j := if_neg (fun e => h e.1)
theorem up2_nk {α : Type} {f : Nat → Nat → α} {a k b j : Nat} {v : α} (h : j ≠ k) : up2 f a k v b j = f b j := if_neg (fun e => h e.2)
theorem up2_eq {α : Type} {f : Nat → Nat → α} {a k : Nat} {v : α} : up2 f a k v a k = v := if_pos ⟨rfl, rfl⟩
theorem gV_wI {S : gS} {d : gD} {a k : Nat} {x : Int32} (h : srt (sK S a) k = 0) : gV S (wI d a k x) a = updV (gV S d a) k (.int x) := by
  funext j
  by_cases e : j = k
  · subst e
    rw [gV_i h]
    simp [updV, dI, wI, up2_eq]
  · simp only [updV, if_neg e]
    unfold gV
    rw [show dI (wI d a k x) a j = dI d a j from up2_nk e]
    rfl
theorem gV_wL {S : gS} {d : gD} {a k : Nat} {x : Int64} (h : srt (sK S a) k = 1) : gV S (wL d a k x) a = updV (gV S d a) k (.long x) := by
  funext j
  by_cases e : j = k
  · subst e
    rw [gV_l h]
    simp [updV, dL, wL, up2_eq]
  · simp only [updV, if_neg e]
    unfold gV
    rw [show dL (wL d a k x) a j = dL d a j from up2_nk e]
    rfl
theorem gV_wP {S : gS} {d : gD} {a k : Nat} {x : Option Nat} (h : srt (sK S a) k = 2) : gV (wP S a k x) d a = updV (gV S d a) k (va_rf x) := by
  funext j
  by_cases e : j = k
  · subst e
    rw [gV_r (S := wP S a j x) h]
    simp [updV, sP, wP, up2_eq]
  · simp only [updV, if_neg e]
    unfold gV
    rw [show sP (wP S a k x) a j = sP S a j from up2_nk e]
    rfl
theorem gV_wI_ne {S : gS} {d : gD} {a k b : Nat} {x : Int32} (h : b ≠ a) : gV S (wI d a k x) b = gV S d b := gV_congr rfl (fun _ => rfl) (fun j => up2_ne h j) (fun _ => rfl)
theorem gV_wL_ne {S : gS} {d : gD} {a k b : Nat} {x : Int64} (h : b ≠ a) : gV S (wL d a k x) b = gV S d b := gV_congr rfl (fun _ => rfl) (fun _ => rfl) (fun j => up2_ne h j)
theorem gV_wP_ne {S : gS} {d : gD} {a k b : Nat} {x : Option Nat} (h : b ≠ a) : gV (wP S a k x) d b = gV S d b := gV_congr rfl (fun j => up2_ne h j) (fun _ => rfl) (fun _ => rfl)
theorem gAt.kept {G : gG} {S S' : gS} {d d' : gD} {b : Nat} {H H' : Heap} (h : gAt G S d b H) (hq : H'[b]? = H[b]?) (hk : sK S' b = sK S b) (hn : sN S' b = sN S b) (hv : gV S' d' b = gV S d b) : gAt G S' d' b H' := by
  unfold gAt at h ⊢
  rw [hk, hn, hv]
  exact ⟨fun c => by obtain ⟨r, h1, h2⟩ := h.1 c; exact ⟨r, h1, h2.kept hq⟩, fun c => hq.trans (h.2 c)⟩
theorem gH.upd {G : gG} {S S' : gS} {d d' : gD} {a : Nat} {H H' : Heap} (hH : gH G S d H) (hz : H'.size = H.size) (ho : ∀ q, q ≠ a → H'[q]? = H[q]?) (hk : ∀ b, sK S' b = sK S b) (hn : ∀ b, sN S' b = sN S b) (hs : sZ S' = sZ S) (hv : ∀ b, b ≠ a → gV S' d' b = gV S d b) (ha : gAt G S' d' a H') : gH G S' d' H' := by
  refine ⟨by rw [hz, hs]; exact hH.1, fun b hb => ?_⟩
  rw [hk] at hb
  obtain ⟨h1, h2⟩ := hH.2 b hb
  refine ⟨h1, ?_⟩
  by_cases e : b = a
  · rw [e]; exact ha
  · exact h2.kept (ho b e) (hk b) (hn b) (hv b e)
theorem gH.lt {G : gG} {S : gS} {d : gD} {H : Heap} (hH : gH G S d H) {a : Nat} (h : sK S a ≠ 0) : a < sZ S := by
  rw [← hH.1]
  obtain ⟨-, h1, h2⟩ := hH.2 a h
  by_cases c : sK S a < 50
  · obtain ⟨r, -, cell, q1, -⟩ := h1 c
    exact (Array.getElem?_eq_some_iff.mp q1).1
  · exact (Array.getElem?_eq_some_iff.mp (h2 (Nat.le_of_not_lt c))).1
section GC
variable {X : GX} {cells slots : Nat} {Q : State → Prop} {S : gS} {d : gD} {pc q : Nat} {lv : List (Option Value)} {st : List Value} {cc : ByteArray} {nL nf nw : Nat} {own nm : String} {rt : Option FieldType}
theorem g_get {a k idx κ N : Nat} {C : String} {T : u_T} {ty : Nat → FieldType} {v : Value} (hE : gE X cc nL own rt nm nf nw) (hC : gCl κ C T N ty) (hk : sK S a = κ) (hkN : k < N) (hw : Cond.fieldLink own idx (T k).1 (T k).2.1 (T k).2.2.1 ∈ WG) (dg : dc cc pc (.getfield idx) 3 q) (hv : gV S d a k = v) (kk : gw X cells slots Q S d q lv (v :: st)) : gw X cells slots Q S d pc lv (va_rf (some a) :: st) := by
  obtain ⟨dg, rfl⟩ := dg
  subst hk
  intro ls H locs hl hH hS
  obtain ⟨h0, h50, hc, hin, -⟩ := hC
  obtain ⟨-, hat⟩ := hH.2 a h0
  obtain ⟨r, h1, cell, q1, q2, q3, q4⟩ := hat.1 h50
  have hr : r = (C, T, N) := Option.some.inj (h1.symm.trans hc)
  subst hr
  obtain ⟨hSl, hfc, kC, hkC, hkind⟩ := hE.kn.1.1 _ _ hc
  obtain ⟨cf, kf, fi, f, hi, hsl⟩ := hSl k hkN
  refine W.getf hE.ex hE.bt hE.ow (hE.wd _ hw) hi (u_facts hfc hkC (u_lays hE.wd hin hkN) hi).1 q1 (by rw [q3]; exact fun h => by cases h) (v := v) ?_ rfl rfl dg (kk ls H locs hl hH hS)
  rw [hsl, q4 k hkN, hv]
theorem g_getN {a k idx κ N : Nat} {C host : String} {T : u_T} {ty : Nat → FieldType} {v : Value} (hE : gE X cc nL own rt nm nf nw) (hC : gCl κ C T N ty) (hk : sK S a = κ) (hkN : k < N) (hw : Cond.fieldLinkNest own idx (T k).1 (T k).2.1 (T k).2.2.1 host ∈ NW) (dg : dc cc pc (.getfield idx) 3 q) (hv : gV S d a k = v) (kk : gw X cells slots Q S d q lv (v :: st)) : gw X cells slots Q S d pc lv (va_rf (some a) :: st) := by
  obtain ⟨dg, rfl⟩ := dg
  subst hk
  intro ls H locs hl hH hS
  obtain ⟨h0, h50, hc, hin, -⟩ := hC
  obtain ⟨-, hat⟩ := hH.2 a h0
  obtain ⟨r, h1, cell, q1, q2, q3, q4⟩ := hat.1 h50
  have hr : r = (C, T, N) := Option.some.inj (h1.symm.trans hc)
  subst hr
  obtain ⟨hSl, hfc, kC, hkC, hkind⟩ := hE.kn.1.1 _ _ hc
  obtain ⟨cf, kf, fi, f, hi, hsl⟩ := hSl k hkN
  refine va_Wgetf hE.ex hE.bt hE.ow (va_Nw.use rfl (hE.nest hw)) hi (u_facts hfc hkC (u_lays hE.wd hin hkN) hi).1 q1 (by rw [q3]; exact fun h => by cases h) (v := v) ?_ rfl rfl dg (kk ls H locs hl hH hS)
  rw [hsl, q4 k hkN, hv]
theorem g_getI {a idx κ N : Nat} {C : String} {T : u_T} {ty : Nat → FieldType} (k : Nat) (hE : gE X cc nL own rt nm nf nw) (hC : gCl κ C T N ty) (hk : sK S a = κ) (hkN : k < N) (hs : srt κ k = 0) (hw : Cond.fieldLink own idx (T k).1 (T k).2.1 (T k).2.2.1 ∈ WG) (dg : dc cc pc (.getfield idx) 3 q) (kk : ∀ x : Int32, dI d a k = x → gw X cells slots Q S d q lv (.int x :: st)) : gw X cells slots Q S d pc lv (va_rf (some a) :: st) :=
  g_get hE hC hk hkN hw dg (gV_i (by rw [hk]; exact hs)) (kk _ rfl)
theorem g_getL {a idx κ N : Nat} {C : String} {T : u_T} {ty : Nat → FieldType} (k : Nat) (hE : gE X cc nL own rt nm nf nw) (hC : gCl κ C T N ty) (hk : sK S a = κ) (hkN : k < N) (hs : srt κ k = 1) (hw : Cond.fieldLink own idx (T k).1 (T k).2.1 (T k).2.2.1 ∈ WG) (dg : dc cc pc (.getfield idx) 3 q) (kk : ∀ x : Int64, dL d a k = x → gw X cells slots Q S d q lv (.long x :: st)) : gw X cells slots Q S d pc lv (va_rf (some a) :: st) :=
  g_get hE hC hk hkN hw dg (gV_l (by rw [hk]; exact hs)) (kk _ rfl)
theorem g_getR {a idx κ N : Nat} {C : String} {T : u_T} {ty : Nat → FieldType} (k : Nat) (hE : gE X cc nL own rt nm nf nw) (hC : gCl κ C T N ty) (hk : sK S a = κ) (hkN : k < N) (hs : srt κ k = 2) (hw : Cond.fieldLink own idx (T k).1 (T k).2.1 (T k).2.2.1 ∈ WG) (dg : dc cc pc (.getfield idx) 3 q) (kk : ∀ x : Option Nat, sP S a k = x → gw X cells slots Q S d q lv (va_rf x :: st)) : gw X cells slots Q S d pc lv (va_rf (some a) :: st) :=
  g_get hE hC hk hkN hw dg (gV_r (by rw [hk]; exact hs)) (kk _ rfl)
theorem g_getIN {a idx κ N : Nat} {C host : String} {T : u_T} {ty : Nat → FieldType} (k : Nat) (hE : gE X cc nL own rt nm nf nw) (hC : gCl κ C T N ty) (hk : sK S a = κ) (hkN : k < N) (hs : srt κ k = 0) (hw : Cond.fieldLinkNest own idx (T k).1 (T k).2.1 (T k).2.2.1 host ∈ NW) (dg : dc cc pc (.getfield idx) 3 q) (kk : ∀ x : Int32, dI d a k = x → gw X cells slots Q S d q lv (.int x :: st)) : gw X cells slots Q S d pc lv (va_rf (some a) :: st) :=
  g_getN hE hC hk hkN hw dg (gV_i (by rw [hk]; exact hs)) (kk _ rfl)
theorem g_getLN {a idx κ N : Nat} {C host : String} {T : u_T} {ty : Nat → FieldType} (k : Nat) (hE : gE X cc nL own rt nm nf nw) (hC : gCl κ C T N ty) (hk : sK S a = κ) (hkN : k < N) (hs : srt κ k = 1) (hw : Cond.fieldLinkNest own idx (T k).1 (T k).2.1 (T k).2.2.1 host ∈ NW) (dg : dc cc pc (.getfield idx) 3 q) (kk : ∀ x : Int64, dL d a k = x → gw X cells slots Q S d q lv (.long x :: st)) : gw X cells slots Q S d pc lv (va_rf (some a) :: st) :=
  g_getN hE hC hk hkN hw dg (gV_l (by rw [hk]; exact hs)) (kk _ rfl)
theorem g_getRN {a idx κ N : Nat} {C host : String} {T : u_T} {ty : Nat → FieldType} (k : Nat) (hE : gE X cc nL own rt nm nf nw) (hC : gCl κ C T N ty) (hk : sK S a = κ) (hkN : k < N) (hs : srt κ k = 2) (hw : Cond.fieldLinkNest own idx (T k).1 (T k).2.1 (T k).2.2.1 host ∈ NW) (dg : dc cc pc (.getfield idx) 3 q) (kk : ∀ x : Option Nat, sP S a k = x → gw X cells slots Q S d q lv (va_rf x :: st)) : gw X cells slots Q S d pc lv (va_rf (some a) :: st) :=
  g_getN hE hC hk hkN hw dg (gV_r (by rw [hk]; exact hs)) (kk _ rfl)
theorem g_apart {κ N : Nat} {C : String} {T : u_T} {ty : Nat → FieldType} (hE : gE X cc nL own rt nm nf nw) (hC : gCl κ C T N ty) : ∀ x y, x < N → y < N → x ≠ y → ((xG X).1.2 (κ - 1)) x ≠ ((xG X).1.2 (κ - 1)) y := va_apart (own := own) hE.wd hC.2.2.2.1 ty hC.2.2.2.2.1 hC.2.2.2.2.2 hE.kn.1 hC.2.2.1
theorem gAt.mkO {G : gG} {S : gS} {d : gD} {a : Nat} {H : Heap} {r : vw_C} (h50 : sK S a < 50) (hc : classes[sK S a - 1]? = some r) (h : t_OB a (G.1.1 (sK S a - 1)) r.2.2 (G.1.2 (sK S a - 1)) H (gV S d a)) : gAt G S d a H := ⟨fun _ => ⟨r, hc, h⟩, fun c => absurd h50 (Nat.not_lt.mpr c)⟩
theorem gAt.mkA {G : gG} {S : gS} {d : gD} {a : Nat} {H : Heap} (h50 : 50 ≤ sK S a) (h : H[a]? = some (arrV (G.2.1 (sK S a)) (sN S a) (gV S d a))) : gAt G S d a H := ⟨fun c => absurd c (Nat.not_lt.mpr h50), fun _ => h⟩
theorem g_put {a k idx κ N : Nat} {C : String} {T : u_T} {ty : Nat → FieldType} {fty : FieldType} {v : Value} {S' : gS} {d' : gD} (hE : gE X cc nL own rt nm nf nw) (hC : gCl κ C T N ty) (hk : sK S a = κ) (hkN : k < N) (hw : Cond.fieldLink own idx (T k).1 (T k).2.1 (T k).2.2.1 ∈ WG) (hfin : (T k).2.2.2 = false) (hd : parseFieldDescriptor (T k).2.2.1 = some fty) (hn : narrow fty v = v) (hfit : fits fty v = true) (dg : dc cc pc (.putfield idx) 3 q) (hSk : ∀ b, sK S' b = sK S b) (hSn : ∀ b, sN S' b = sN S b) (hSz : sZ S' = sZ S) (hvo : ∀ b, b ≠ a → gV S' d' b = gV S d b) (hva : gV S' d' a = updV (gV S d a) k v) (kk : gw X cells slots Q S' d' q lv st) : gw X cells slots Q S d pc lv (v :: va_rf (some a) :: st) := by
  obtain ⟨dg, rfl⟩ := dg
  have hap := g_apart hE hC
  subst hk
  intro ls H locs hl hH hS
  obtain ⟨h0, h50, hc, hin, hty, hnm⟩ := hC
  obtain ⟨hza, hat⟩ := hH.2 a h0
  obtain ⟨r, h1, cell, q1, q2, q3, q4⟩ := hat.1 h50
  have hr : r = (C, T, N) := Option.some.inj (h1.symm.trans hc)
  subst hr
  obtain ⟨hSl, hfc, kC, hkC, hkind⟩ := hE.kn.1.1 _ _ hc
  obtain ⟨cf, kf, fi, f, hi, hsl⟩ := hSl k hkN
  have hlay := hE.wd _ (hin _ (u_in_lay hkN))
  unfold u_lay at hlay
  rw [if_neg (by rw [hfin]; decide)] at hlay
  have hst := (u_facts hfc hkC (u_lays hE.wd hin hkN) hi).1
  have h6 := u_store hfc hkC hkind hlay hi hd hn hfit
  refine W.putK hE.ex hE.bt (f := f) ⟨hE.ow, hE.wd _ hw, ⟨_, _, _, hi⟩, hst⟩ (by rw [q2]; exact h6) q1 q3 (by rw [hsl]; exact k2_hasslot (q4 k hkN)) rfl rfl dg fun H' e1 e2 e3 => ?_
  rw [hsl] at e1 ⊢
  refine kk ls H' _ hl ?_ (hS.put e2 e3 hza)
  refine hH.upd e2 e3 hSk hSn hSz hvo (gAt.mkO (by rw [hSk]; exact h50) (by rw [hSk]; exact hc) ?_)
  rw [hSk, hva]
  exact ⟨_, e1, q2, q3, t_set q4 hap hkN v⟩

theorem g_putN {a k idx κ N : Nat} {C host : String} {T : u_T} {ty : Nat → FieldType} {fty : FieldType} {v : Value} {S' : gS} {d' : gD} (hE : gE X cc nL own rt nm nf nw) (hC : gCl κ C T N ty) (hk : sK S a = κ) (hkN : k < N) (hw : Cond.fieldLinkNest own idx (T k).1 (T k).2.1 (T k).2.2.1 host ∈ NW) (hfin : (T k).2.2.2 = false) (hd : parseFieldDescriptor (T k).2.2.1 = some fty) (hn : narrow fty v = v) (hfit : fits fty v = true) (dg : dc cc pc (.putfield idx) 3 q) (hSk : ∀ b, sK S' b = sK S b) (hSn : ∀ b, sN S' b = sN S b) (hSz : sZ S' = sZ S) (hvo : ∀ b, b ≠ a → gV S' d' b = gV S d b) (hva : gV S' d' a = updV (gV S d a) k v) (kk : gw X cells slots Q S' d' q lv st) : gw X cells slots Q S d pc lv (v :: va_rf (some a) :: st) := by
  obtain ⟨dg, rfl⟩ := dg
  have hap := g_apart hE hC
  subst hk
  intro ls H locs hl hH hS
  obtain ⟨h0, h50, hc, hin, hty, hnm⟩ := hC
  obtain ⟨hza, hat⟩ := hH.2 a h0
  obtain ⟨r, h1, cell, q1, q2, q3, q4⟩ := hat.1 h50
  have hr : r = (C, T, N) := Option.some.inj (h1.symm.trans hc)
  subst hr
  obtain ⟨hSl, hfc, kC, hkC, hkind⟩ := hE.kn.1.1 _ _ hc
  obtain ⟨cf, kf, fi, f, hi, hsl⟩ := hSl k hkN
  have hlay := hE.wd _ (hin _ (u_in_lay hkN))
  unfold u_lay at hlay
  rw [if_neg (by rw [hfin]; decide)] at hlay
  have hst := (u_facts hfc hkC (u_lays hE.wd hin hkN) hi).1
  have h6 := u_store hfc hkC hkind hlay hi hd hn hfit
  refine va_WputK hE.ex hE.bt hE.ow (va_Nw.use rfl (hE.nest hw)) hi hst (by rw [q2]; exact h6) q1 q3 (by rw [hsl]; exact k2_hasslot (q4 k hkN)) rfl rfl dg fun H' e1 e2 e3 => ?_
  rw [hsl] at e1 ⊢
  refine kk ls H' _ hl ?_ (hS.put e2 e3 hza)
  refine hH.upd e2 e3 hSk hSn hSz hvo (gAt.mkO (by rw [hSk]; exact h50) (by rw [hSk]; exact hc) ?_)
  rw [hSk, hva]
  exact ⟨_, e1, q2, q3, t_set q4 hap hkN v⟩

theorem g_putF {a k idx κ N : Nat} {C : String} {T : u_T} {ty : Nat → FieldType} {fty : FieldType} {v : Value} {S' : gS} {d' : gD} (hE : gE X cc nL own rt nm nf nw) (hC : gCl κ C T N ty) (hk : sK S a = κ) (hkN : k < N) (hw : Cond.fieldLink own idx (T k).1 (T k).2.1 (T k).2.2.1 ∈ WG) (hfin : (T k).2.2.2 = true) (hd : parseFieldDescriptor (T k).2.2.1 = some fty) (hn : narrow fty v = v) (hfit : fits fty v = true) (dg : dc cc pc (.putfield idx) 3 q) (hSk : ∀ b, sK S' b = sK S b) (hSn : ∀ b, sN S' b = sN S b) (hSz : sZ S' = sZ S) (hvo : ∀ b, b ≠ a → gV S' d' b = gV S d b) (hva : gV S' d' a = updV (gV S d a) k v) (hin2 : nm = "<init>") (hdecl : (T k).1 = own) (kk : gw X cells slots Q S' d' q lv st) : gw X cells slots Q S d pc lv (v :: va_rf (some a) :: st) := by
  obtain ⟨dg, rfl⟩ := dg
  have hap := g_apart hE hC
  subst hk
  intro ls H locs hl hH hS
  obtain ⟨h0, h50, hc, hin, hty, hnm⟩ := hC
  obtain ⟨hza, hat⟩ := hH.2 a h0
  obtain ⟨r, h1, cell, q1, q2, q3, q4⟩ := hat.1 h50
  have hr : r = (C, T, N) := Option.some.inj (h1.symm.trans hc)
  subst hr
  obtain ⟨hSl, hfc, kC, hkC, hkind⟩ := hE.kn.1.1 _ _ hc
  obtain ⟨cf, kf, fi, f, hi, hsl⟩ := hSl k hkN
  have hlay := hE.wd _ (hin _ (u_in_lay hkN))
  unfold u_lay at hlay
  rw [if_pos hfin] at hlay
  have hst := (u_facts hfc hkC (u_lays hE.wd hin hkN) hi).1
  have hcf : (xm X).cls = cf := by
    obtain ⟨_, _, c', _, _, _, -, -, hf', -, -, -, hown2, -⟩ := Cond.laysFinal_spec hlay
    have e1 : c' = cf := by have := hi.symm.trans hf'; simp at this; exact this.1.symm
    rw [hdecl] at hown2
    rw [← e1]; exact Option.some.inj (hE.ow.symm.trans hown2)
  have h6 := u_fits hfc hkC hkind (Or.inr hlay) hi hd hn hfit
  refine W.putFinK hE.ex hE.bt hE.ow (hE.wd _ hw) hi hst hcf (hE.nam.trans hin2) (by rw [q2]; exact h6) q1 q3 (by rw [hsl]; exact k2_hasslot (q4 k hkN)) rfl rfl dg fun H' e1 e2 e3 => ?_
  rw [hsl] at e1 ⊢
  refine kk ls H' _ hl ?_ (hS.put e2 e3 hza)
  refine hH.upd e2 e3 hSk hSn hSz hvo (gAt.mkO (by rw [hSk]; exact h50) (by rw [hSk]; exact hc) ?_)
  rw [hSk, hva]
  exact ⟨_, e1, q2, q3, t_set q4 hap hkN v⟩

theorem g_putI {a idx κ N : Nat} {C : String} {T : u_T} {ty : Nat → FieldType} {x : Int32} (k : Nat) (hE : gE X cc nL own rt nm nf nw) (hC : gCl κ C T N ty) (hk : sK S a = κ) (hkN : k < N) (hs : srt κ k = 0) (hw : Cond.fieldLink own idx (T k).1 (T k).2.1 (T k).2.2.1 ∈ WG) (hfin : (T k).2.2.2 = false) (hd : parseFieldDescriptor (T k).2.2.1 = some (.int)) (dg : dc cc pc (.putfield idx) 3 q) (kk : ∀ d1, wI d a k x = d1 → gw X cells slots Q S d1 q lv st) : gw X cells slots Q S d pc lv (.int x :: va_rf (some a) :: st) :=
  g_put (S' := S) (d' := (wI d a k x)) hE hC hk hkN hw hfin hd rfl rfl dg (fun _ => rfl) (fun _ => rfl) rfl (fun b hb => gV_wI_ne hb) (gV_wI (by rw [hk]; exact hs)) (kk _ rfl)
theorem g_putZ {a idx κ N : Nat} {C : String} {T : u_T} {ty : Nat → FieldType} {x : Int32} (k : Nat) (hE : gE X cc nL own rt nm nf nw) (hC : gCl κ C T N ty) (hk : sK S a = κ) (hkN : k < N) (hs : srt κ k = 0) (hw : Cond.fieldLink own idx (T k).1 (T k).2.1 (T k).2.2.1 ∈ WG) (hfin : (T k).2.2.2 = false) (hd : parseFieldDescriptor (T k).2.2.1 = some (.boolean)) (hn : x = 0 ∨ x = 1) (dg : dc cc pc (.putfield idx) 3 q) (kk : ∀ d1, wI d a k x = d1 → gw X cells slots Q S d1 q lv st) : gw X cells slots Q S d pc lv (.int x :: va_rf (some a) :: st) :=
  g_put (S' := S) (d' := (wI d a k x)) hE hC hk hkN hw hfin hd (nar_z hn) (fit_z hn) dg (fun _ => rfl) (fun _ => rfl) rfl (fun b hb => gV_wI_ne hb) (gV_wI (by rw [hk]; exact hs)) (kk _ rfl)
theorem g_putL {a idx κ N : Nat} {C : String} {T : u_T} {ty : Nat → FieldType} {x : Int64} (k : Nat) (hE : gE X cc nL own rt nm nf nw) (hC : gCl κ C T N ty) (hk : sK S a = κ) (hkN : k < N) (hs : srt κ k = 1) (hw : Cond.fieldLink own idx (T k).1 (T k).2.1 (T k).2.2.1 ∈ WG) (hfin : (T k).2.2.2 = false) (hd : parseFieldDescriptor (T k).2.2.1 = some (.long)) (dg : dc cc pc (.putfield idx) 3 q) (kk : ∀ d1, wL d a k x = d1 → gw X cells slots Q S d1 q lv st) : gw X cells slots Q S d pc lv (.long x :: va_rf (some a) :: st) :=
  g_put (S' := S) (d' := (wL d a k x)) hE hC hk hkN hw hfin hd rfl rfl dg (fun _ => rfl) (fun _ => rfl) rfl (fun b hb => gV_wL_ne hb) (gV_wL (by rw [hk]; exact hs)) (kk _ rfl)
theorem g_putR {a idx κ N : Nat} {C : String} {T : u_T} {ty : Nat → FieldType} {fty : FieldType} {x : Option Nat} (k : Nat) (hE : gE X cc nL own rt nm nf nw) (hC : gCl κ C T N ty) (hk : sK S a = κ) (hkN : k < N) (hs : srt κ k = 2) (hw : Cond.fieldLink own idx (T k).1 (T k).2.1 (T k).2.2.1 ∈ WG) (hfin : (T k).2.2.2 = false) (hd : parseFieldDescriptor (T k).2.2.1 = some (fty)) (hty : fty.isReference = true) (dg : dc cc pc (.putfield idx) 3 q) (kk : ∀ S1, wP S a k x = S1 → gw X cells slots Q S1 d q lv st) : gw X cells slots Q S d pc lv (va_rf x :: va_rf (some a) :: st) :=
  g_put (S' := (wP S a k x)) (d' := d) hE hC hk hkN hw hfin hd (nar_rf hty x) (fit_rf hty x) dg (fun _ => rfl) (fun _ => rfl) rfl (fun b hb => gV_wP_ne hb) (gV_wP (by rw [hk]; exact hs)) (kk _ rfl)
theorem g_putIN {a idx κ N : Nat} {C host : String} {T : u_T} {ty : Nat → FieldType} {x : Int32} (k : Nat) (hE : gE X cc nL own rt nm nf nw) (hC : gCl κ C T N ty) (hk : sK S a = κ) (hkN : k < N) (hs : srt κ k = 0) (hw : Cond.fieldLinkNest own idx (T k).1 (T k).2.1 (T k).2.2.1 host ∈ NW) (hfin : (T k).2.2.2 = false) (hd : parseFieldDescriptor (T k).2.2.1 = some (.int)) (dg : dc cc pc (.putfield idx) 3 q) (kk : ∀ d1, wI d a k x = d1 → gw X cells slots Q S d1 q lv st) : gw X cells slots Q S d pc lv (.int x :: va_rf (some a) :: st) :=
  g_putN (S' := S) (d' := (wI d a k x)) hE hC hk hkN hw hfin hd rfl rfl dg (fun _ => rfl) (fun _ => rfl) rfl (fun b hb => gV_wI_ne hb) (gV_wI (by rw [hk]; exact hs)) (kk _ rfl)
theorem g_putZN {a idx κ N : Nat} {C host : String} {T : u_T} {ty : Nat → FieldType} {x : Int32} (k : Nat) (hE : gE X cc nL own rt nm nf nw) (hC : gCl κ C T N ty) (hk : sK S a = κ) (hkN : k < N) (hs : srt κ k = 0) (hw : Cond.fieldLinkNest own idx (T k).1 (T k).2.1 (T k).2.2.1 host ∈ NW) (hfin : (T k).2.2.2 = false) (hd : parseFieldDescriptor (T k).2.2.1 = some (.boolean)) (hn : x = 0 ∨ x = 1) (dg : dc cc pc (.putfield idx) 3 q) (kk : ∀ d1, wI d a k x = d1 → gw X cells slots Q S d1 q lv st) : gw X cells slots Q S d pc lv (.int x :: va_rf (some a) :: st) :=
  g_putN (S' := S) (d' := (wI d a k x)) hE hC hk hkN hw hfin hd (nar_z hn) (fit_z hn) dg (fun _ => rfl) (fun _ => rfl) rfl (fun b hb => gV_wI_ne hb) (gV_wI (by rw [hk]; exact hs)) (kk _ rfl)
theorem g_putLN {a idx κ N : Nat} {C host : String} {T : u_T} {ty : Nat → FieldType} {x : Int64} (k : Nat) (hE : gE X cc nL own rt nm nf nw) (hC : gCl κ C T N ty) (hk : sK S a = κ) (hkN : k < N) (hs : srt κ k = 1) (hw : Cond.fieldLinkNest own idx (T k).1 (T k).2.1 (T k).2.2.1 host ∈ NW) (hfin : (T k).2.2.2 = false) (hd : parseFieldDescriptor (T k).2.2.1 = some (.long)) (dg : dc cc pc (.putfield idx) 3 q) (kk : ∀ d1, wL d a k x = d1 → gw X cells slots Q S d1 q lv st) : gw X cells slots Q S d pc lv (.long x :: va_rf (some a) :: st) :=
  g_putN (S' := S) (d' := (wL d a k x)) hE hC hk hkN hw hfin hd rfl rfl dg (fun _ => rfl) (fun _ => rfl) rfl (fun b hb => gV_wL_ne hb) (gV_wL (by rw [hk]; exact hs)) (kk _ rfl)
theorem g_putRN {a idx κ N : Nat} {C host : String} {T : u_T} {ty : Nat → FieldType} {fty : FieldType} {x : Option Nat} (k : Nat) (hE : gE X cc nL own rt nm nf nw) (hC : gCl κ C T N ty) (hk : sK S a = κ) (hkN : k < N) (hs : srt κ k = 2) (hw : Cond.fieldLinkNest own idx (T k).1 (T k).2.1 (T k).2.2.1 host ∈ NW) (hfin : (T k).2.2.2 = false) (hd : parseFieldDescriptor (T k).2.2.1 = some (fty)) (hty : fty.isReference = true) (dg : dc cc pc (.putfield idx) 3 q) (kk : ∀ S1, wP S a k x = S1 → gw X cells slots Q S1 d q lv st) : gw X cells slots Q S d pc lv (va_rf x :: va_rf (some a) :: st) :=
  g_putN (S' := (wP S a k x)) (d' := d) hE hC hk hkN hw hfin hd (nar_rf hty x) (fit_rf hty x) dg (fun _ => rfl) (fun _ => rfl) rfl (fun b hb => gV_wP_ne hb) (gV_wP (by rw [hk]; exact hs)) (kk _ rfl)
theorem g_putIF {a idx κ N : Nat} {C : String} {T : u_T} {ty : Nat → FieldType} {x : Int32} (k : Nat) (hE : gE X cc nL own rt nm nf nw) (hC : gCl κ C T N ty) (hk : sK S a = κ) (hkN : k < N) (hs : srt κ k = 0) (hw : Cond.fieldLink own idx (T k).1 (T k).2.1 (T k).2.2.1 ∈ WG) (hfin : (T k).2.2.2 = true) (hd : parseFieldDescriptor (T k).2.2.1 = some (.int)) (dg : dc cc pc (.putfield idx) 3 q) (hin2 : nm = "<init>") (hdecl : (T k).1 = own) (kk : ∀ d1, wI d a k x = d1 → gw X cells slots Q S d1 q lv st) : gw X cells slots Q S d pc lv (.int x :: va_rf (some a) :: st) :=
  g_putF (S' := S) (d' := (wI d a k x)) hE hC hk hkN hw hfin hd rfl rfl dg (fun _ => rfl) (fun _ => rfl) rfl (fun b hb => gV_wI_ne hb) (gV_wI (by rw [hk]; exact hs)) hin2 hdecl (kk _ rfl)
theorem g_putZF {a idx κ N : Nat} {C : String} {T : u_T} {ty : Nat → FieldType} {x : Int32} (k : Nat) (hE : gE X cc nL own rt nm nf nw) (hC : gCl κ C T N ty) (hk : sK S a = κ) (hkN : k < N) (hs : srt κ k = 0) (hw : Cond.fieldLink own idx (T k).1 (T k).2.1 (T k).2.2.1 ∈ WG) (hfin : (T k).2.2.2 = true) (hd : parseFieldDescriptor (T k).2.2.1 = some (.boolean)) (hn : x = 0 ∨ x = 1) (dg : dc cc pc (.putfield idx) 3 q) (hin2 : nm = "<init>") (hdecl : (T k).1 = own) (kk : ∀ d1, wI d a k x = d1 → gw X cells slots Q S d1 q lv st) : gw X cells slots Q S d pc lv (.int x :: va_rf (some a) :: st) :=
  g_putF (S' := S) (d' := (wI d a k x)) hE hC hk hkN hw hfin hd (nar_z hn) (fit_z hn) dg (fun _ => rfl) (fun _ => rfl) rfl (fun b hb => gV_wI_ne hb) (gV_wI (by rw [hk]; exact hs)) hin2 hdecl (kk _ rfl)
theorem g_putLF {a idx κ N : Nat} {C : String} {T : u_T} {ty : Nat → FieldType} {x : Int64} (k : Nat) (hE : gE X cc nL own rt nm nf nw) (hC : gCl κ C T N ty) (hk : sK S a = κ) (hkN : k < N) (hs : srt κ k = 1) (hw : Cond.fieldLink own idx (T k).1 (T k).2.1 (T k).2.2.1 ∈ WG) (hfin : (T k).2.2.2 = true) (hd : parseFieldDescriptor (T k).2.2.1 = some (.long)) (dg : dc cc pc (.putfield idx) 3 q) (hin2 : nm = "<init>") (hdecl : (T k).1 = own) (kk : ∀ d1, wL d a k x = d1 → gw X cells slots Q S d1 q lv st) : gw X cells slots Q S d pc lv (.long x :: va_rf (some a) :: st) :=
  g_putF (S' := S) (d' := (wL d a k x)) hE hC hk hkN hw hfin hd rfl rfl dg (fun _ => rfl) (fun _ => rfl) rfl (fun b hb => gV_wL_ne hb) (gV_wL (by rw [hk]; exact hs)) hin2 hdecl (kk _ rfl)
theorem g_putRF {a idx κ N : Nat} {C : String} {T : u_T} {ty : Nat → FieldType} {fty : FieldType} {x : Option Nat} (k : Nat) (hE : gE X cc nL own rt nm nf nw) (hC : gCl κ C T N ty) (hk : sK S a = κ) (hkN : k < N) (hs : srt κ k = 2) (hw : Cond.fieldLink own idx (T k).1 (T k).2.1 (T k).2.2.1 ∈ WG) (hfin : (T k).2.2.2 = true) (hd : parseFieldDescriptor (T k).2.2.1 = some (fty)) (hty : fty.isReference = true) (dg : dc cc pc (.putfield idx) 3 q) (hin2 : nm = "<init>") (hdecl : (T k).1 = own) (kk : ∀ S1, wP S a k x = S1 → gw X cells slots Q S1 d q lv st) : gw X cells slots Q S d pc lv (va_rf x :: va_rf (some a) :: st) :=
  g_putF (S' := (wP S a k x)) (d' := d) hE hC hk hkN hw hfin hd (nar_rf hty x) (fit_rf hty x) dg (fun _ => rfl) (fun _ => rfl) rfl (fun b hb => gV_wP_ne hb) (gV_wP (by rw [hk]; exact hs)) hin2 hdecl (kk _ rfl)
end GC
end
section
theorem cnt_step {c c' n n0 k m : Nat} (h : c + n = m) (e : n = n0 + k) (e' : c + k = c') : c' + n0 = m := by omega
theorem cnt_room {R c n n0 k m : Nat} (hm : R = m) (h : c + n = m) (e : n = n0 + k) : c + k ≤ R := by omega
theorem cnt_room0 {R c n m : Nat} (hm : R = m) (h : c + n = m) : c + 0 ≤ R := by omega
section GD
variable {X : GX} {cells slots : Nat} {Q : State → Prop} {S : gS} {d : gD} {pc q : Nat} {lv : List (Option Value)} {st : List Value} {cc : ByteArray} {nL nf nw : Nat} {own nm : String} {rt : Option FieldType}
theorem gH.arr {a κ : Nat} {H : Heap} (hH : gH (xG X) S d H) (hk : sK S a = κ) (h50 : 50 ≤ κ) : H[a]? = some (arrV ((xG X).2.1 κ) (sN S a) (gV S d a)) := by
  subst hk
  exact (hH.2 a (by omega)).2.2 h50
theorem gK.arr {G : gG} {U : State} (h : gK G U) {κ : Nat} (hm : κ ∈ aks) : ArrOfT U (G.2.1 κ) (aty κ) ∧ va_RA U (G.2.1 κ) (aty κ) := by
  obtain ⟨i, hi⟩ := List.getElem?_of_mem (List.mem_map.mpr ⟨κ, hm, rfl⟩ : (G.2.1 κ, aty κ) ∈ aks.map fun κ => (G.2.1 κ, aty κ))
  exact h.1.2 i _ hi
theorem aks_50 : ∀ κ ∈ aks, 50 ≤ κ := by decide

theorem g_iald {a : Nat} {i : Int32} (hE : gE X cc nL own rt nm nf nw) (hk : sK S a = 50) (hin : vp_in i (sN S a)) (dg : dc cc pc (.iaload) 1 q) (kk : ∀ x : Int32, dI d a i.toNatClampNeg = x → gw X cells slots Q S d q lv (.int x :: st)) : gw X cells slots Q S d pc lv (.int i :: va_rf (some a) :: st) := by
  obtain ⟨dg, rfl⟩ := dg
  intro ls H locs hl hH hS
  have hlt : i.toNatClampNeg < sN S a := Nat.not_le.mp fun q => hin (Or.inr q)
  exact W.iald (v := gV S d a i.toNatClampNeg) hE.ex hE.bt (hH.arr hk (by decide)) ((hE.kn.arr (κ := 50) (by decide)).1 (sN S a) (gV S d a)) (fun q => by cases q) (by rw [arrV_size]; exact hin) (by rw [arrV_read _ _ hlt]) rfl rfl dg (by rw [gV_i (by rw [hk]; rfl)]; exact kk _ rfl ls H locs hl hH hS)
theorem g_lald {a : Nat} {i : Int32} (hE : gE X cc nL own rt nm nf nw) (hk : sK S a = 51) (hin : vp_in i (sN S a)) (dg : dc cc pc (.laload) 1 q) (kk : ∀ x : Int64, dL d a i.toNatClampNeg = x → gw X cells slots Q S d q lv (.long x :: st)) : gw X cells slots Q S d pc lv (.int i :: va_rf (some a) :: st) := by
  obtain ⟨dg, rfl⟩ := dg
  intro ls H locs hl hH hS
  have hlt : i.toNatClampNeg < sN S a := Nat.not_le.mp fun q => hin (Or.inr q)
  exact W.lald (v := gV S d a i.toNatClampNeg) hE.ex hE.bt (hH.arr hk (by decide)) ((hE.kn.arr (κ := 51) (by decide)).1 (sN S a) (gV S d a)) (fun q => by cases q) (by rw [arrV_size]; exact hin) (by rw [arrV_read _ _ hlt]) rfl rfl dg (by rw [gV_l (by rw [hk]; rfl)]; exact kk _ rfl ls H locs hl hH hS)
theorem g_bald {a : Nat} {i : Int32} (hE : gE X cc nL own rt nm nf nw) (hk : sK S a = 52) (hin : vp_in i (sN S a)) (dg : dc cc pc (.baload) 1 q) (kk : ∀ x : Int32, dI d a i.toNatClampNeg = x → gw X cells slots Q S d q lv (.int x :: st)) : gw X cells slots Q S d pc lv (.int i :: va_rf (some a) :: st) := by
  obtain ⟨dg, rfl⟩ := dg
  intro ls H locs hl hH hS
  have hlt : i.toNatClampNeg < sN S a := Nat.not_le.mp fun q => hin (Or.inr q)
  exact W.bald (v := gV S d a i.toNatClampNeg) hE.ex hE.bt (hH.arr hk (by decide)) ((hE.kn.arr (κ := 52) (by decide)).1 (sN S a) (gV S d a)) (fun q => by cases q) (by rw [arrV_size]; exact hin) (by rw [arrV_read _ _ hlt]) rfl rfl dg (by rw [gV_i (by rw [hk]; rfl)]; exact kk _ rfl ls H locs hl hH hS)
theorem g_zald {a : Nat} {i : Int32} (hE : gE X cc nL own rt nm nf nw) (hk : sK S a = 53) (hin : vp_in i (sN S a)) (dg : dc cc pc (.baload) 1 q) (kk : ∀ x : Int32, dI d a i.toNatClampNeg = x → gw X cells slots Q S d q lv (.int x :: st)) : gw X cells slots Q S d pc lv (.int i :: va_rf (some a) :: st) := by
  obtain ⟨dg, rfl⟩ := dg
  intro ls H locs hl hH hS
  have hlt : i.toNatClampNeg < sN S a := Nat.not_le.mp fun q => hin (Or.inr q)
  exact W.zald (v := gV S d a i.toNatClampNeg) hE.ex hE.bt (hH.arr hk (by decide)) ((hE.kn.arr (κ := 53) (by decide)).1 (sN S a) (gV S d a)) (fun q => by cases q) (by rw [arrV_size]; exact hin) (by rw [arrV_read _ _ hlt]) rfl rfl dg (by rw [gV_i (by rw [hk]; rfl)]; exact kk _ rfl ls H locs hl hH hS)
theorem g_aald {a κ : Nat} {i : Int32} (hE : gE X cc nL own rt nm nf nw) (hk : sK S a = κ) (hm : κ ∈ aks) (hr : (aty κ).isReference = true) (hs : ∀ j, srt κ j = 2) (hin : vp_in i (sN S a)) (dg : dc cc pc .aaload 1 q) (kk : ∀ x : Option Nat, sP S a i.toNatClampNeg = x → gw X cells slots Q S d q lv (va_rf x :: st)) : gw X cells slots Q S d pc lv (.int i :: va_rf (some a) :: st) := by
  obtain ⟨dg, rfl⟩ := dg
  intro ls H locs hl hH hS
  have hlt : i.toNatClampNeg < sN S a := Nat.not_le.mp fun q => hin (Or.inr q)
  exact W.aald (v := gV S d a i.toNatClampNeg) (ty := aty κ) hE.ex hE.bt (hH.arr hk (aks_50 κ hm)) ((hE.kn.arr hm).1 (sN S a) (gV S d a)) hr (fun q => by cases q) (by rw [arrV_size]; exact hin) (by rw [arrV_read _ _ hlt]) rfl rfl dg (by rw [gV_r (by rw [hk]; exact hs _)]; exact kk _ rfl ls H locs hl hH hS)
theorem g_alen {a κ : Nat} (hE : gE X cc nL own rt nm nf nw) (hk : sK S a = κ) (hm : κ ∈ aks) (dg : dc cc pc .arraylength 1 q) (kk : gw X cells slots Q S d q lv (.int (Int32.ofNat (sN S a)) :: st)) : gw X cells slots Q S d pc lv (va_rf (some a) :: st) := by
  obtain ⟨dg, rfl⟩ := dg
  intro ls H locs hl hH hS
  exact W.alen (n := Int32.ofNat (sN S a)) hE.ex hE.bt (hH.arr hk (aks_50 κ hm)) ((hE.kn.arr hm).1 (sN S a) (gV S d a)) (by rw [arrV_size] <;> rfl) rfl rfl dg (kk ls H locs hl hH hS)
theorem gH.ast {a κ k : Nat} {v : Value} {S' : gS} {d' : gD} {H H' : Heap} (hH : gH (xG X) S d H) (hk : sK S a = κ) (h50 : 50 ≤ κ) (e : H'[a]? = some ((arrV ((xG X).2.1 κ) (sN S a) (gV S d a)).setSlot k v)) (z : H'.size = H.size) (oq : ∀ q, q ≠ a → H'[q]? = H[q]?) (hSk : ∀ b, sK S' b = sK S b) (hSn : ∀ b, sN S' b = sN S b) (hSz : sZ S' = sZ S) (hvo : ∀ b, b ≠ a → gV S' d' b = gV S d b) (hva : gV S' d' a = updV (gV S d a) k v) : gH (xG X) S' d' H' := by
  refine hH.upd z oq hSk hSn hSz hvo (gAt.mkA (by rw [hSk, hk]; exact h50) ?_)
  rw [hSk, hSn, hva, hk, e, arrV_store]

theorem g_iast {a : Nat} {i : Int32} {x : Int32} (hE : gE X cc nL own rt nm nf nw) (hk : sK S a = 50) (hin : vp_in i (sN S a)) (dg : dc cc pc (.iastore) 1 q) (kk : ∀ d1, wI d a i.toNatClampNeg x = d1 → gw X cells slots Q S d1 q lv st) : gw X cells slots Q S d pc lv (.int x :: .int i :: va_rf (some a) :: st) := by
  obtain ⟨dg, rfl⟩ := dg
  intro ls H locs hl hH hS
  refine W.iast hE.ex hE.bt (hH.arr hk (by decide)) ((hE.kn.arr (κ := 50) (by decide)).1 (sN S a) (gV S d a)) (fun q => by cases q) (by rw [arrV_size]; exact hin) rfl rfl dg fun H1 e z oq => ?_
  exact kk _ rfl ls H1 _ hl (hH.ast hk (by decide) e z oq (fun _ => rfl) (fun _ => rfl) rfl (fun b hb => gV_wI_ne hb) (gV_wI (by rw [hk]; rfl))) (hS.put z oq (hH.2 a (by rw [hk]; decide)).1)
theorem g_last {a : Nat} {i : Int32} {x : Int64} (hE : gE X cc nL own rt nm nf nw) (hk : sK S a = 51) (hin : vp_in i (sN S a)) (dg : dc cc pc (.lastore) 1 q) (kk : ∀ d1, wL d a i.toNatClampNeg x = d1 → gw X cells slots Q S d1 q lv st) : gw X cells slots Q S d pc lv (.long x :: .int i :: va_rf (some a) :: st) := by
  obtain ⟨dg, rfl⟩ := dg
  intro ls H locs hl hH hS
  refine W.last hE.ex hE.bt (hH.arr hk (by decide)) ((hE.kn.arr (κ := 51) (by decide)).1 (sN S a) (gV S d a)) (fun q => by cases q) (by rw [arrV_size]; exact hin) rfl rfl dg fun H1 e z oq => ?_
  exact kk _ rfl ls H1 _ hl (hH.ast hk (by decide) e z oq (fun _ => rfl) (fun _ => rfl) rfl (fun b hb => gV_wL_ne hb) (gV_wL (by rw [hk]; rfl))) (hS.put z oq (hH.2 a (by rw [hk]; decide)).1)
theorem g_bast {a : Nat} {i : Int32} {x : Int32} (hE : gE X cc nL own rt nm nf nw) (hk : sK S a = 52) (hin : vp_in i (sN S a)) (dg : dc cc pc (.bastore) 1 q) (kk : ∀ d1, wI d a i.toNatClampNeg (vp_nar .byte x) = d1 → gw X cells slots Q S d1 q lv st) : gw X cells slots Q S d pc lv (.int x :: .int i :: va_rf (some a) :: st) := by
  obtain ⟨dg, rfl⟩ := dg
  intro ls H locs hl hH hS
  refine W.bast hE.ex hE.bt (hH.arr hk (by decide)) ((hE.kn.arr (κ := 52) (by decide)).1 (sN S a) (gV S d a)) (fun q => by cases q) (by rw [arrV_size]; exact hin) rfl rfl dg fun H1 e z oq => ?_
  exact kk _ rfl ls H1 _ hl (hH.ast hk (by decide) e z oq (fun _ => rfl) (fun _ => rfl) rfl (fun b hb => gV_wI_ne hb) (gV_wI (by rw [hk]; rfl))) (hS.put z oq (hH.2 a (by rw [hk]; decide)).1)
theorem g_zast {a : Nat} {i : Int32} {x : Int32} (hE : gE X cc nL own rt nm nf nw) (hk : sK S a = 53) (hin : vp_in i (sN S a)) (dg : dc cc pc (.bastore) 1 q) (kk : ∀ d1, wI d a i.toNatClampNeg (vp_nar .boolean x) = d1 → gw X cells slots Q S d1 q lv st) : gw X cells slots Q S d pc lv (.int x :: .int i :: va_rf (some a) :: st) := by
  obtain ⟨dg, rfl⟩ := dg
  intro ls H locs hl hH hS
  refine W.zast hE.ex hE.bt (hH.arr hk (by decide)) ((hE.kn.arr (κ := 53) (by decide)).1 (sN S a) (gV S d a)) (fun q => by cases q) (by rw [arrV_size]; exact hin) rfl rfl dg fun H1 e z oq => ?_
  exact kk _ rfl ls H1 _ hl (hH.ast hk (by decide) e z oq (fun _ => rfl) (fun _ => rfl) rfl (fun b hb => gV_wI_ne hb) (gV_wI (by rw [hk]; rfl))) (hS.put z oq (hH.2 a (by rw [hk]; decide)).1)
theorem g_aast {a κ v κv N : Nat} {i : Int32} {C : String} {T : u_T} {ty : Nat → FieldType} (hE : gE X cc nL own rt nm nf nw) (hk : sK S a = κ) (hm : κ ∈ aks) (hs : ∀ j, srt κ j = 2) (hat : aty κ = .object C) (hC : gCl κv C T N ty) (hkv : sK S v = κv) (hin : vp_in i (sN S a)) (dg : dc cc pc .aastore 1 q) (kk : ∀ S1, wP S a i.toNatClampNeg (some v) = S1 → gw X cells slots Q S1 d q lv st) : gw X cells slots Q S d pc lv (va_rf (some v) :: .int i :: va_rf (some a) :: st) := by
  obtain ⟨dg, rfl⟩ := dg
  intro ls H locs hl hH hS
  have hlt : i.toNatClampNeg < sN S a := Nat.not_le.mp fun q => hin (Or.inr q)
  have h0 : ¬ i < 0 := fun q => hin (Or.inl q)
  have h50 := aks_50 κ hm
  subst hkv
  obtain ⟨v0, v50, hc, hwi, -⟩ := hC
  obtain ⟨-, hav⟩ := hH.2 v v0
  obtain ⟨r, h1, cell, q1, q2, q3, q4⟩ := hav.1 v50
  obtain ⟨hSl, hcls⟩ := hE.kn.1.1 _ _ hc
  have hra := (hE.kn.arr hm).2
  rw [hat] at hra
  obtain ⟨kA, comp, k1, k2, k3, -⟩ := hra
  have hcomp : comp = (xG X).1.1 (sK S v - 1) := Option.some.inj (k3.symm.trans hcls.1)
  subst hcomp
  have hcls0 := hcls
  obtain ⟨kC, hkC, -⟩ := hcls.2
  refine W.aast hE.ex hE.bt (hH.arr hk h50) (fun q h => by cases h) (fun h => by cases h) k1 k2 rfl hkC ⟨h0, by rw [arrV_size]; exact hlt⟩ q1 (fun q h => by rw [q3] at h; cases h) (by rw [q2]; exact hkC) (by rw [q2]; exact va_assign hcls0) rfl rfl dg fun H1 e z oq => ?_
  exact kk _ rfl ls H1 _ hl (hH.ast hk h50 e z oq (fun _ => rfl) (fun _ => rfl) rfl (fun b hb => gV_wP_ne hb) (gV_wP (x := some v) (by rw [hk]; exact hs _))) (hS.put z oq (hH.2 a (by rw [hk]; omega)).1)
theorem g_aastN {a κ : Nat} {i : Int32} {C : String} (hE : gE X cc nL own rt nm nf nw) (hk : sK S a = κ) (hm : κ ∈ aks) (hs : ∀ j, srt κ j = 2) (hat : aty κ = .object C) (hin : vp_in i (sN S a)) (dg : dc cc pc .aastore 1 q) (kk : ∀ S1, wP S a i.toNatClampNeg none = S1 → gw X cells slots Q S1 d q lv st) : gw X cells slots Q S d pc lv (va_rf none :: .int i :: va_rf (some a) :: st) := by
  obtain ⟨dg, rfl⟩ := dg
  intro ls H locs hl hH hS
  have h50 := aks_50 κ hm
  refine va_WaastN (C := C) hE.ex hE.bt (hH.arr hk h50) (by rw [← hat]; exact (hE.kn.arr hm).1 (sN S a) (gV S d a)) (fun q => by cases q) (by rw [arrV_size]; exact hin) rfl rfl dg fun H1 e z oq => ?_
  exact kk _ rfl ls H1 _ hl (hH.ast hk h50 e z oq (fun _ => rfl) (fun _ => rfl) rfl (fun b hb => gV_wP_ne hb) (gV_wP (x := none) (by rw [hk]; exact hs _))) (hS.put z oq (hH.2 a (by rw [hk]; omega)).1)

theorem nS_K {κ n b : Nat} : sK (nS S κ n) b = if b = sZ S then κ else sK S b := rfl
theorem nS_new {κ n : Nat} : sK (nS S κ n) (sZ S) = κ := by rw [nS_K, if_pos rfl]
theorem gH.new {κ n : Nat} {H H' : Heap} (hH : gH (xG X) S d H) (hz0 : (xG X).2.2 ≤ sZ S) (hz : H'.size = sZ S + 1) (ho : ∀ q, q < sZ S → H'[q]? = H[q]?) (ha : gAt (xG X) (nS S κ n) (nD S d) (sZ S) H') : gH (xG X) (nS S κ n) (nD S d) H' := by
  refine ⟨hz, fun b hb => ?_⟩
  by_cases e : b = sZ S
  · rw [e]; exact ⟨hz0, ha⟩
  · rw [nS_K, if_neg e] at hb
    obtain ⟨h1, h2⟩ := hH.2 b hb
    have hlt := hH.lt hb
    refine ⟨h1, h2.kept (ho b hlt) (by rw [nS_K, if_neg e]) (if_neg e) (gV_congr (by rw [nS_K, if_neg e]) (fun j => ?_) (fun j => ?_) (fun j => ?_))⟩
    · show va_up S.2.2.1 S.2.2.2 (fun _ => none) b j = _
      rw [va_up_ne _ _ (show b ≠ S.2.2.2 from e)]; rfl
    · show va_up d.1 S.2.2.2 (fun _ => 0) b j = _
      rw [va_up_ne _ _ (show b ≠ S.2.2.2 from e)]; rfl
    · show va_up d.2 S.2.2.2 (fun _ => 0) b j = _
      rw [va_up_ne _ _ (show b ≠ S.2.2.2 from e)]; rfl
def gO (κ k : Nat) : Value := match srt κ k with
  | 0 => .int 0
  | 1 => .long 0
  | _ => .null
theorem gV_new {κ n : Nat} : gV (nS S κ n) (nD S d) (sZ S) = gO κ := by
  funext j
  have h1 : sK (nS S κ n) (sZ S) = κ := by rw [nS_K, if_pos rfl]
  have h2 : dI (nD S d) (sZ S) j = 0 := by show va_up d.1 S.2.2.2 (fun _ => 0) S.2.2.2 j = 0; rw [va_up_self]
  have h3 : dL (nD S d) (sZ S) j = 0 := by show va_up d.2 S.2.2.2 (fun _ => 0) S.2.2.2 j = 0; rw [va_up_self]
  have h4 : sP (nS S κ n) (sZ S) j = none := by show va_up S.2.2.1 S.2.2.2 (fun _ => none) S.2.2.2 j = none; rw [va_up_self]
  unfold gV gO
  rw [h1, h2, h3, h4]
  rfl
theorem g_new {κ N idx : Nat} {C : String} {T : u_T} {ty : Nat → FieldType} (hE : gE X cc nL own rt nm nf nw) (hC : gCl κ C T N ty) (hdf : ∀ k, k < N → defaultValue (ty k) = gO κ k) (hw1 : Cond.classLink own idx C ∈ WG) (hw2 : Cond.instantiable C N ∈ WG) (hw3 : Cond.initialized C ∈ WG) (hc1 : cells + 1 ≤ (xR X).cells) (hs1 : slots + N ≤ (xR X).slots) (dg : dc cc pc (.new idx) 3 q) (kk : ∀ S1 d1 a, nS S κ 0 = S1 → nD S d = d1 → sZ S = a → gw X (cells + 1) (slots + N) Q S1 d1 q lv (va_rf (some a) :: st)) : gw X cells slots Q S d pc lv st := by
  obtain ⟨dg, rfl⟩ := dg
  intro ls H locs hl hH hS
  obtain ⟨h0, h50, hc, hin, hty, -⟩ := hC
  have hKn := hE.kn.1.1 _ _ hc
  have hz0 : (xG X).2.2 ≤ sZ S := by rw [← hH.1]; exact Nat.le_trans hE.sz hS.1
  refine W.newcK hE.ex hE.bt hE.ow (hE.wd _ hw1) (hE.wd _ hw2) (hE.wd _ hw3) rfl dg hc1 hs1 hKn.2.1 hH.1 fun H1 kC hkC e1 z1 o1 => ?_
  refine kk _ _ _ rfl rfl rfl ls H1 locs hl (hH.new hz0 z1 o1 (gAt.mkO (by rw [nS_K, if_pos rfl]; exact h50) (by rw [nS_K, if_pos rfl]; exact hc) ?_)) ⟨Nat.le_trans hS.1 (by rw [hH.1, z1]; omega), fun x h1 h2 => (o1 x (by rw [← hH.1]; exact Nat.lt_of_lt_of_le h1 hS.1)).trans (hS.2.1 x h1 h2), hS.2.2⟩
  rw [nS_K, if_pos rfl, gV_new]
  exact (u_born ty hE.wd hin hKn hkC e1 hty).to hdf
theorem g_newa {κ : Nat} {atype : ArrayType} {n : Int32} (hE : gE X cc nL own rt nm nf nw) (hty : newarray.typeOf atype = aty κ) (hm : κ ∈ aks) (hdf : ∀ k, defaultValue (aty κ) = gO κ k) (hnm : ∀ U : State, ∀ cA, va_RA U cA (aty κ) → U.vm.findClass ("[" ++ (aty κ).toString) = some cA) (hb : componentBytes (aty κ) ≤ 8) (hw : Cond.arrayClass (aty κ) ∈ WG) (hn : ¬ (n < 0 ∨ 67108864 < n.toNatClampNeg)) (hc1 : cells + 1 ≤ (xR X).cells) (hs1 : slots + n.toNatClampNeg ≤ (xR X).slots) (dg : dc cc pc (.newarray atype) 2 q) (kk : ∀ S1 d1 a, nS S κ n.toNatClampNeg = S1 → nD S d = d1 → sZ S = a → gw X (cells + 1) (slots + n.toNatClampNeg) Q S1 d1 q lv (va_rf (some a) :: st)) : gw X cells slots Q S d pc lv (.int n :: st) := by
  obtain ⟨dg, rfl⟩ := dg
  intro ls H locs hl hH hS
  have h50 := aks_50 κ hm
  have hz0 : (xG X).2.2 ≤ sZ S := by rw [← hH.1]; exact Nat.le_trans hE.sz hS.1
  have hbb : n.toNatClampNeg * componentBytes (aty κ) ≤ 536870912 := Nat.le_trans (Nat.mul_le_mul (Nat.le_of_not_lt (fun h => hn (Or.inr h))) hb) (by decide)
  refine va_newaK hE.ex hE.bt (by rw [hty]; exact hE.wd _ hw) rfl dg rfl (fun h => hn (Or.inl h)) rfl (by rw [hty]; exact hbb) hc1 hs1 hH.1 fun H1 cA e1 z1 o1 hAr hNm => ?_
  rw [hty] at e1 hNm
  have hcA : cA = (xG X).2.1 κ := Option.some.inj (hNm.symm.trans (hnm _ _ (hE.kn.arr hm).2))
  subst hcA
  refine kk _ _ _ rfl rfl rfl ls H1 locs hl (hH.new hz0 z1 o1 (gAt.mkA (by rw [nS_K, if_pos rfl]; exact h50) ?_)) ⟨Nat.le_trans hS.1 (by rw [hH.1, z1]; omega), fun x h1 h2 => (o1 x (by rw [← hH.1]; exact Nat.lt_of_lt_of_le h1 hS.1)).trans (hS.2.1 x h1 h2), hS.2.2⟩
  rw [e1, nS_K, if_pos rfl, gV_new, show sN (nS S κ n.toNatClampNeg) (sZ S) = n.toNatClampNeg from va_up_self _ _ _, show (fun _ => defaultValue (aty κ)) = gO κ from funext hdf]
theorem g_newq {κ idx : Nat} {n : Int32} {C : String} (hE : gE X cc nL own rt nm nf nw) (hat : aty κ = .object C) (hm : κ ∈ aks) (hs : ∀ j, srt κ j = 2) (hA : C ∈ AOs) (hw : Cond.classLink own idx C ∈ WG) (hn : ¬ (n < 0 ∨ 67108864 < n.toNatClampNeg)) (hc1 : cells + 1 ≤ (xR X).cells) (hs1 : slots + n.toNatClampNeg ≤ (xR X).slots) (dg : dc cc pc (.anewarray idx) 3 q) (kk : ∀ S1 d1 a, nS S κ n.toNatClampNeg = S1 → nD S d = d1 → sZ S = a → gw X (cells + 1) (slots + n.toNatClampNeg) Q S1 d1 q lv (va_rf (some a) :: st)) : gw X cells slots Q S d pc lv (.int n :: st) := by
  obtain ⟨dg, rfl⟩ := dg
  intro ls H locs hl hH hS
  have h50 := aks_50 κ hm
  have hz0 : (xG X).2.2 ≤ sZ S := by rw [← hH.1]; exact Nat.le_trans hE.sz hS.1
  have hbb : n.toNatClampNeg * 4 ≤ 536870912 := Nat.le_trans (Nat.mul_le_mul_right 4 (Nat.le_of_not_lt (fun h => hn (Or.inr h)))) (by decide)
  refine W.anew hE.ex hE.bt hE.ow (hE.wd _ hw) (va_AO.use (hE.kn.2.2 C hA)) rfl dg rfl (fun h => hn (Or.inl h)) hbb hc1 hs1 fun cA kA comp f1 f2 f3 f4 => ?_
  generalize hH1 : H.push ({ cls := cA, slots := Array.replicate n.toNatClampNeg .null, vm := .none } : Cell) = H1
  have z1 : H1.size = H.size + 1 := by rw [← hH1, Array.size_push]
  have e1 : H1[H.size]? = some (arrV cA n.toNatClampNeg (fun _ => .null)) := by rw [← hH1, Array.getElem?_push_size, ← arrV_new]
  have o1 : ∀ q : Nat, q < H.size → H1[q]? = H[q]? := fun q hq => by rw [← hH1, Array.getElem?_push, if_neg (Nat.ne_of_lt hq)]
  have hra := (hE.kn.arr hm).2
  rw [hat] at hra
  obtain ⟨_, _, -, -, -, r4⟩ := hra
  have hcA : cA = (xG X).2.1 κ := Option.some.inj (f1.symm.trans r4)
  subst hcA
  rw [hH.1] at z1 e1 o1
  have hO : gO κ = fun _ => Value.null := by funext j; unfold gO; rw [hs]; rfl
  have := kk _ _ _ rfl rfl rfl ls H1 locs hl (hH.new hz0 z1 o1 (gAt.mkA (by rw [nS_K, if_pos rfl]; exact h50) (by rw [e1, nS_K, if_pos rfl, gV_new, hO, show sN (nS S κ n.toNatClampNeg) (sZ S) = n.toNatClampNeg from va_up_self _ _ _]))) ⟨Nat.le_trans hS.1 (by rw [hH.1, z1]; omega), fun x h1 h2 => (o1 x (by rw [← hH.1]; exact Nat.lt_of_lt_of_le h1 hS.1)).trans (hS.2.1 x h1 h2), hS.2.2⟩
  rw [hH.1]
  exact this

theorem g_iret {v : Int32} {mc ms : Nat} (hE : gE X cc nL own (some .int) nm nf nw) (dg : dc cc pc .ireturn 1 q) (hm : cells = mc) (hs : slots = ms) : gw X cells slots (gQ X (some (.int v)) S d mc ms) S d pc lv [.int v] := by
  subst hm; subst hs
  exact fun ls H locs hl hH hS => W.iret hE.ex hE.bt hE.ret (fun t ht hW => ⟨rfl, by rw [ht]; exact hH, hS.F ht⟩) hS.2.2 dg.1 hE.lk
theorem g_zret {v : Int32} {mc ms : Nat} (hE : gE X cc nL own (some .boolean) nm nf nw) (hv : v = 0 ∨ v = 1) (dg : dc cc pc .ireturn 1 q) (hm : cells = mc) (hs : slots = ms) : gw X cells slots (gQ X (some (.int v)) S d mc ms) S d pc lv [.int v] := by
  subst hm; subst hs
  exact fun ls H locs hl hH hS => W.zret hE.ex hE.bt hE.ret (nar_z hv) (fun t ht hW => ⟨rfl, by rw [ht]; exact hH, hS.F ht⟩) hS.2.2 dg.1 hE.lk
theorem g_lret {v : Int64} {mc ms : Nat} (hE : gE X cc nL own (some .long) nm nf nw) (dg : dc cc pc .lreturn 1 q) (hm : cells = mc) (hs : slots = ms) : gw X cells slots (gQ X (some (.long v)) S d mc ms) S d pc lv [.long v] := by
  subst hm; subst hs
  exact fun ls H locs hl hH hS => W.lret hE.ex hE.bt hE.ret (fun t ht hW => ⟨rfl, by rw [ht]; exact hH, hS.F ht⟩) hS.2.2 dg.1 hE.lk
theorem g_aret {v : Option Nat} {mc ms : Nat} {rt0 : FieldType} (hE : gE X cc nL own (some rt0) nm nf nw) (hrt : (∃ n, rt0 = .object n) ∨ ∃ t, rt0 = .array t) (dg : dc cc pc .areturn 1 q) (hm : cells = mc) (hs : slots = ms) : gw X cells slots (gQ X (some (va_rf v)) S d mc ms) S d pc lv [va_rf v] := by
  subst hm; subst hs
  exact fun ls H locs hl hH hS => W.aret hE.ex hE.bt hE.ret hrt (rf_rf v) (fun t ht hW => ⟨rfl, by rw [ht]; exact hH, hS.F ht⟩) hS.2.2 dg.1 hE.lk
theorem g_vret {mc ms : Nat} (hE : gE X cc nL own none nm nf nw) (dg : dc cc pc .return_ 1 q) (hm : cells = mc) (hs : slots = ms) : gw X cells slots (gQ X none S d mc ms) S d pc lv [] := by
  subst hm; subst hs
  exact fun ls H locs hl hH hS => W.vret hE.ex hE.bt hE.ret (fun t ht hW => ⟨rfl, by rw [ht]; exact hH, hS.F ht⟩) hS.2.2 dg.1 hE.lk
theorem g_ret {mc ms : Nat} {rv : Option Value} {S' : gS} {d' : gD} {rest st0 : List Value} {a : Array Value} (hr : ∀ (ls : Array Slot) (H : Heap) (locs : List Loc), lvh ls (xc X).maxLocals lv → gH (xG X) S d H → va_S (gA (xG X)) (xs X).heap H locs → va_Run (xp X) (xl X) (xe X) (xR X) (xs X) (xm X) (xa X) (xb X) (xM X) (xc X) H locs cells slots mc ms (F0 (xm X) pc ls st0) rest (gQc (xG X) rv S' d' a) (gA (xG X))) (k : gw X (cells + mc) (slots + ms) Q S' d' (pc + 3) lv (rv.toList ++ rest)) : gw X cells slots Q S d pc lv st0 := by
  intro ls H locs hl hH hS T hT X0
  obtain ⟨v, st₀, t, T', L, h0, X', hL, e1, e2, ⟨hv, hH', hz, hk⟩, st⟩ := hr ls H locs hl hH hS T hT X0
  cases hv
  rw [h0] at hz hk
  obtain ⟨t2, a1, b1⟩ := k ls T'.heap (locs ++ L) hl (by rw [e1]; exact hH')
    ⟨Nat.le_trans hS.1 (by rw [e1]; exact hz), fun q h1 h2 => by rw [e1, hk q (Nat.lt_of_lt_of_le h1 hS.1) h2]; exact hS.2.1 q h1 h2, fun q hq => by
      rcases List.mem_append.mp hq with h | h
      · exact hS.2.2 q h
      · exact hL q h⟩ T' rfl X'
  exact ⟨t2, st t2 a1, b1⟩
theorem g_pay {y : MethodName} {b : ByteArray} {n2 : Nat} {r2 : Option FieldType} (hE : gE X cc nL own rt nm nf nw) (hc : Cond.code y b n2 r2 ∈ WG) : ∀ w ∈ Cond.code y b n2 r2 :: WG, ∀ (a' : Array Value) (U : State), (xs X).WarmedH U.vm → w.before a' U = true := by
  intro w hw a' U hU
  have hw2 : w ∈ WG := by
    rcases List.mem_cons.mp hw with h | h
    · rw [h]; exact hc
    · exact h
  exact word_at hU (WG_good w hw2) (hE.wd w hw2)
theorem g_sig {y : MethodName} {b : ByteArray} {n2 np : Nat} {r2 : Option FieldType} (hY : gY y b n2 r2 np) : ∀ sig, parseMethodDescriptor y.desc = some sig → np = sig.parameters.length := by
  intro sig h
  have h2 := hY.2.2.2.2
  rw [h] at h2
  exact (Option.some.inj h2).symm

theorem g_callS {y : MethodName} {b2 : ByteArray} {n2 np nf2 nw2 mc ms idx : Nat} {r2 : Option FieldType} {av : List gT} {rv : Option Value} {S' : gS} {d' : gD} {st0 stk : List Value} (rest : List Value) (hE : gE X cc nL own rt nm nf nw) (hM : GM (xl X) (xG X) y b2 n2 r2 nf2 nw2 mc ms av S d rv S' d') (hY : gY y b2 n2 r2 np) (hR : nf2 + 1 ≤ nf ∧ 8 + (n2 + 11) + nw2 ≤ nw) (hw : Cond.methodLink own idx y ∈ WG) (hw2 : Cond.static y ∈ WG) (hn : av.length = np) (dg : dc cc pc (.invokestatic idx) 3 q) (hi0 : (av.map tv).reverse ++ rest = st0) (ho0 : rv.toList ++ rest = stk) (hcs : (rest.map fun v => v.category).sum ≤ 8) (hc1 : cells + mc ≤ (xR X).cells) (hs1 : slots + ms ≤ (xR X).slots) (k : gw X (cells + mc) (slots + ms) Q S' d' q lv stk) : gw X cells slots Q S d pc lv st0 := by
  subst hi0; subst ho0
  obtain ⟨dg, rfl⟩ := dg
  refine g_ret (a := (av.map tv).toArray) (fun ls H locs hl hH hS => ?_) k
  have hPc : ∀ U : State, U.heap = H → (xs X).WarmedH U.vm → gPc (xG X) av S d (av.map tv).toArray U := fun U hU hW => ⟨rfl, by rw [hU]; exact hH, hE.kn.moved hW, by rw [hU]; exact Nat.le_trans hE.sz hS.1⟩
  have hfr : nf2 + 1 ≤ (xR X).frames := by rw [hE.fr]; exact hR.1
  have hlo : 8 + (n2 + 11) + nw2 ≤ (xR X).locals := by rw [hE.lw]; exact hR.2
  have hcb : Cond.code y b2 n2 r2 ∈ Cond.code y b2 n2 r2 :: WG := List.mem_cons_self
  exact va_runS (As := av.map tv) (n := np) ⟨hE.ex, hE.bt, hE.ml, hE.ow, hE.wd⟩ hM ⟨⟨rfl, rfl, hfr, hlo, g_pay hE hY.1, hcb, hE.wd _ hY.1, hE.wd _ hY.2.1, ⟨hY.2.2.1, hY.2.2.2.1⟩, g_sig hY, hE.wd _ hw⟩, hE.wd _ hw2⟩ ⟨gPc.blind, hPc⟩ rfl (by rw [List.length_map]; exact hn) (hl.1.trans hE.ml) rfl (lv_room hcs) dg ⟨hc1, hs1⟩
theorem g_callI {y : MethodName} {b2 : ByteArray} {n2 np nf2 nw2 mc ms idx : Nat} {av : List gT} {rv : Option Value} {S' : gS} {d' : gD} {st0 stk : List Value} (rest : List Value) {a : Nat} {as : List gT} (hE : gE X cc nL own rt nm nf nw) (hM : GM (xl X) (xG X) y b2 n2 none nf2 nw2 mc ms av S d rv S' d') (hY : gY y b2 n2 none np) (hR : nf2 + 1 ≤ nf ∧ 8 + (n2 + 11) + nw2 ≤ nw) (hav : av = .inr (.inr (some a)) :: as) (hw : Cond.methodLink own idx y ∈ WG) (hw2 : Cond.instanceMethod y ∈ WG) (hy1 : y.name = "<init>") (hn : as.length = np) (dg : dc cc pc (.invokespecial idx) 3 q) (hi0 : (as.map tv).reverse ++ va_rf (some a) :: rest = st0) (ho0 : rv.toList ++ rest = stk) (hcs : (rest.map fun v => v.category).sum ≤ 8) (hc1 : cells + mc ≤ (xR X).cells) (hs1 : slots + ms ≤ (xR X).slots) (k : gw X (cells + mc) (slots + ms) Q S' d' q lv stk) : gw X cells slots Q S d pc lv st0 := by
  subst hav; subst hi0; subst ho0
  obtain ⟨dg, rfl⟩ := dg
  refine g_ret (a := ((.inr (.inr (some a)) :: as : List gT).map tv).toArray) (fun ls H locs hl hH hS => ?_) k
  have hPc : ∀ U : State, U.heap = H → (xs X).WarmedH U.vm → gPc (xG X) (.inr (.inr (some a)) :: as) S d ((.inr (.inr (some a)) :: as : List gT).map tv).toArray U := fun U hU hW => ⟨rfl, by rw [hU]; exact hH, hE.kn.moved hW, by rw [hU]; exact Nat.le_trans hE.sz hS.1⟩
  have hfr : nf2 + 1 ≤ (xR X).frames := by rw [hE.fr]; exact hR.1
  have hlo : 8 + (n2 + 11) + nw2 ≤ (xR X).locals := by rw [hE.lw]; exact hR.2
  have hcb : Cond.code y b2 n2 none ∈ Cond.code y b2 n2 none :: WG := List.mem_cons_self
  exact va_runI (As := as.map tv) (b := a) (n := np) ⟨hE.ex, hE.bt, hE.ml, hE.ow, hE.wd⟩ hM ⟨⟨rfl, rfl, hfr, hlo, g_pay hE hY.1, hcb, hE.wd _ hY.1, hE.wd _ hY.2.1, ⟨hY.2.2.1, hY.2.2.2.1⟩, g_sig hY, hE.wd _ hw⟩, hy1, hE.wd _ hw2⟩ ⟨gPc.blind, hPc⟩ rfl (by rw [List.length_map]; exact hn) (hl.1.trans hE.ml) rfl (lv_room hcs) dg ⟨hc1, hs1⟩
theorem g_callV {y : MethodName} {b2 : ByteArray} {n2 np nf2 nw2 mc ms idx : Nat} {r2 : Option FieldType} {av : List gT} {rv : Option Value} {S' : gS} {d' : gD} {st0 stk : List Value} (rest : List Value) {a κ N : Nat} {C : String} {T : u_T} {ty : Nat → FieldType} {as : List gT} (hE : gE X cc nL own rt nm nf nw) (hM : GM (xl X) (xG X) y b2 n2 r2 nf2 nw2 mc ms av S d rv S' d') (hY : gY y b2 n2 r2 np) (hR : nf2 + 1 ≤ nf ∧ 8 + (n2 + 11) + nw2 ≤ nw) (hav : av = .inr (.inr (some a)) :: as) (hC : gCl κ C T N ty) (hk : sK S a = κ) (hw : Cond.methodLink own idx y ∈ WG) (hw2 : Cond.instanceMethod y ∈ WG) (hw3 : Cond.selects C y y ∈ WG) (hn : as.length = np) (dg : dc cc pc (.invokevirtual idx) 3 q) (hi0 : (as.map tv).reverse ++ va_rf (some a) :: rest = st0) (ho0 : rv.toList ++ rest = stk) (hcs : (rest.map fun v => v.category).sum ≤ 8) (hc1 : cells + mc ≤ (xR X).cells) (hs1 : slots + ms ≤ (xR X).slots) (k : gw X (cells + mc) (slots + ms) Q S' d' q lv stk) : gw X cells slots Q S d pc lv st0 := by
  subst hav; subst hi0; subst ho0
  obtain ⟨dg, rfl⟩ := dg
  refine g_ret (a := ((.inr (.inr (some a)) :: as : List gT).map tv).toArray) (fun ls H locs hl hH hS => ?_) k
  have hPc : ∀ U : State, U.heap = H → (xs X).WarmedH U.vm → gPc (xG X) (.inr (.inr (some a)) :: as) S d ((.inr (.inr (some a)) :: as : List gT).map tv).toArray U := fun U hU hW => ⟨rfl, by rw [hU]; exact hH, hE.kn.moved hW, by rw [hU]; exact Nat.le_trans hE.sz hS.1⟩
  have hfr : nf2 + 1 ≤ (xR X).frames := by rw [hE.fr]; exact hR.1
  have hlo : 8 + (n2 + 11) + nw2 ≤ (xR X).locals := by rw [hE.lw]; exact hR.2
  have hcb : Cond.code y b2 n2 r2 ∈ Cond.code y b2 n2 r2 :: WG := List.mem_cons_self
  have hrc : ∃ cellB : Cell, H[a]? = some cellB ∧ cellB.vm.isStatics = false ∧ (xs X).vm.findClass C = some cellB.cls := by
    subst hk
    obtain ⟨h0, h50, hc, -⟩ := hC
    obtain ⟨-, hat⟩ := hH.2 a h0
    obtain ⟨r, h1, cell, q1, q2, q3, q4⟩ := hat.1 h50
    exact ⟨cell, q1, by rw [q3]; rfl, by rw [q2]; exact (hE.kn.1.1 _ _ hc).2.1⟩
  exact va_runV (As := as.map tv) (b := a) (C := C) (n := np) ⟨hE.ex, hE.bt, hE.ml, hE.ow, hE.wd⟩ hM ⟨⟨rfl, rfl, hfr, hlo, g_pay hE hY.1, hcb, hE.wd _ hY.1, hE.wd _ hY.2.1, ⟨hY.2.2.1, hY.2.2.2.1⟩, g_sig hY, hE.wd _ hw⟩, hE.wd _ hw2, hE.wd _ hw3⟩ ⟨gPc.blind, hrc, hPc⟩ rfl (by rw [List.length_map]; exact hn) (hl.1.trans hE.ml) rfl (lv_room hcs) dg ⟨hc1, hs1⟩
theorem g_callSN {y : MethodName} {b2 : ByteArray} {n2 np nf2 nw2 mc ms idx : Nat} {r2 : Option FieldType} {av : List gT} {rv : Option Value} {S' : gS} {d' : gD} {st0 stk : List Value} (rest : List Value) {host : String} (hE : gE X cc nL own rt nm nf nw) (hM : GM (xl X) (xG X) y b2 n2 r2 nf2 nw2 mc ms av S d rv S' d') (hY : gY y b2 n2 r2 np) (hR : nf2 + 1 ≤ nf ∧ 8 + (n2 + 11) + nw2 ≤ nw) (hw : Cond.methodLinkNest own idx y host ∈ NW) (hw2 : Cond.static y ∈ WG) (hn : av.length = np) (dg : dc cc pc (.invokestatic idx) 3 q) (hi0 : (av.map tv).reverse ++ rest = st0) (ho0 : rv.toList ++ rest = stk) (hcs : (rest.map fun v => v.category).sum ≤ 8) (hc1 : cells + mc ≤ (xR X).cells) (hs1 : slots + ms ≤ (xR X).slots) (k : gw X (cells + mc) (slots + ms) Q S' d' q lv stk) : gw X cells slots Q S d pc lv st0 := by
  subst hi0; subst ho0
  obtain ⟨dg, rfl⟩ := dg
  refine g_ret (a := (av.map tv).toArray) (fun ls H locs hl hH hS => ?_) k
  have hPc : ∀ U : State, U.heap = H → (xs X).WarmedH U.vm → gPc (xG X) av S d (av.map tv).toArray U := fun U hU hW => ⟨rfl, by rw [hU]; exact hH, hE.kn.moved hW, by rw [hU]; exact Nat.le_trans hE.sz hS.1⟩
  have hfr : nf2 + 1 ≤ (xR X).frames := by rw [hE.fr]; exact hR.1
  have hlo : 8 + (n2 + 11) + nw2 ≤ (xR X).locals := by rw [hE.lw]; exact hR.2
  have hcb : Cond.code y b2 n2 r2 ∈ Cond.code y b2 n2 r2 :: WG := List.mem_cons_self
  exact va_runSN (As := av.map tv) (n := np) ⟨hE.ex, hE.bt, hE.ml, hE.ow, hE.wd⟩ hM ⟨⟨⟨rfl, rfl, hfr, hlo, g_pay hE hY.1, hcb⟩, hE.wd _ hY.1, hE.wd _ hY.2.1, ⟨hY.2.2.1, hY.2.2.2.1⟩, g_sig hY, va_Nw.use rfl (hE.nest hw)⟩, hE.wd _ hw2, trivial⟩ ⟨gPc.blind, hPc⟩ rfl (by rw [List.length_map]; exact hn) (hl.1.trans hE.ml) rfl (lv_room hcs) dg ⟨hc1, hs1⟩
theorem g_callIN {y : MethodName} {b2 : ByteArray} {n2 np nf2 nw2 mc ms idx : Nat} {av : List gT} {rv : Option Value} {S' : gS} {d' : gD} {st0 stk : List Value} (rest : List Value) {host : String} {a : Nat} {as : List gT} (hE : gE X cc nL own rt nm nf nw) (hM : GM (xl X) (xG X) y b2 n2 none nf2 nw2 mc ms av S d rv S' d') (hY : gY y b2 n2 none np) (hR : nf2 + 1 ≤ nf ∧ 8 + (n2 + 11) + nw2 ≤ nw) (hav : av = .inr (.inr (some a)) :: as) (hw : Cond.methodLinkNest own idx y host ∈ NW) (hw2 : Cond.instanceMethod y ∈ WG) (hy1 : y.name = "<init>") (hn : as.length = np) (dg : dc cc pc (.invokespecial idx) 3 q) (hi0 : (as.map tv).reverse ++ va_rf (some a) :: rest = st0) (ho0 : rv.toList ++ rest = stk) (hcs : (rest.map fun v => v.category).sum ≤ 8) (hc1 : cells + mc ≤ (xR X).cells) (hs1 : slots + ms ≤ (xR X).slots) (k : gw X (cells + mc) (slots + ms) Q S' d' q lv stk) : gw X cells slots Q S d pc lv st0 := by
  subst hav; subst hi0; subst ho0
  obtain ⟨dg, rfl⟩ := dg
  refine g_ret (a := ((.inr (.inr (some a)) :: as : List gT).map tv).toArray) (fun ls H locs hl hH hS => ?_) k
  have hPc : ∀ U : State, U.heap = H → (xs X).WarmedH U.vm → gPc (xG X) (.inr (.inr (some a)) :: as) S d ((.inr (.inr (some a)) :: as : List gT).map tv).toArray U := fun U hU hW => ⟨rfl, by rw [hU]; exact hH, hE.kn.moved hW, by rw [hU]; exact Nat.le_trans hE.sz hS.1⟩
  have hfr : nf2 + 1 ≤ (xR X).frames := by rw [hE.fr]; exact hR.1
  have hlo : 8 + (n2 + 11) + nw2 ≤ (xR X).locals := by rw [hE.lw]; exact hR.2
  have hcb : Cond.code y b2 n2 none ∈ Cond.code y b2 n2 none :: WG := List.mem_cons_self
  exact va_runIN (As := as.map tv) (b := a) (n := np) ⟨hE.ex, hE.bt, hE.ml, hE.ow, hE.wd⟩ hM ⟨⟨⟨rfl, rfl, hfr, hlo, g_pay hE hY.1, hcb⟩, hE.wd _ hY.1, hE.wd _ hY.2.1, ⟨hY.2.2.1, hY.2.2.2.1⟩, g_sig hY, va_Nw.use rfl (hE.nest hw)⟩, hy1, hE.wd _ hw2⟩ ⟨gPc.blind, hPc⟩ rfl (by rw [List.length_map]; exact hn) (hl.1.trans hE.ml) rfl (lv_room hcs) dg ⟨hc1, hs1⟩
theorem g_callVN {y : MethodName} {b2 : ByteArray} {n2 np nf2 nw2 mc ms idx : Nat} {r2 : Option FieldType} {av : List gT} {rv : Option Value} {S' : gS} {d' : gD} {st0 stk : List Value} (rest : List Value) {host : String} {a κ N : Nat} {C : String} {T : u_T} {ty : Nat → FieldType} {as : List gT} (hE : gE X cc nL own rt nm nf nw) (hM : GM (xl X) (xG X) y b2 n2 r2 nf2 nw2 mc ms av S d rv S' d') (hY : gY y b2 n2 r2 np) (hR : nf2 + 1 ≤ nf ∧ 8 + (n2 + 11) + nw2 ≤ nw) (hav : av = .inr (.inr (some a)) :: as) (hC : gCl κ C T N ty) (hk : sK S a = κ) (hw : Cond.methodLinkNest own idx y host ∈ NW) (hw2 : Cond.instanceMethod y ∈ WG) (hw3 : Cond.selects C y y ∈ WG) (hn : as.length = np) (dg : dc cc pc (.invokevirtual idx) 3 q) (hi0 : (as.map tv).reverse ++ va_rf (some a) :: rest = st0) (ho0 : rv.toList ++ rest = stk) (hcs : (rest.map fun v => v.category).sum ≤ 8) (hc1 : cells + mc ≤ (xR X).cells) (hs1 : slots + ms ≤ (xR X).slots) (k : gw X (cells + mc) (slots + ms) Q S' d' q lv stk) : gw X cells slots Q S d pc lv st0 := by
  subst hav; subst hi0; subst ho0
  obtain ⟨dg, rfl⟩ := dg
  refine g_ret (a := ((.inr (.inr (some a)) :: as : List gT).map tv).toArray) (fun ls H locs hl hH hS => ?_) k
  have hPc : ∀ U : State, U.heap = H → (xs X).WarmedH U.vm → gPc (xG X) (.inr (.inr (some a)) :: as) S d ((.inr (.inr (some a)) :: as : List gT).map tv).toArray U := fun U hU hW => ⟨rfl, by rw [hU]; exact hH, hE.kn.moved hW, by rw [hU]; exact Nat.le_trans hE.sz hS.1⟩
  have hfr : nf2 + 1 ≤ (xR X).frames := by rw [hE.fr]; exact hR.1
  have hlo : 8 + (n2 + 11) + nw2 ≤ (xR X).locals := by rw [hE.lw]; exact hR.2
  have hcb : Cond.code y b2 n2 r2 ∈ Cond.code y b2 n2 r2 :: WG := List.mem_cons_self
  have hrc : ∃ cellB : Cell, H[a]? = some cellB ∧ cellB.vm.isStatics = false ∧ (xs X).vm.findClass C = some cellB.cls := by
    subst hk
    obtain ⟨h0, h50, hc, -⟩ := hC
    obtain ⟨-, hat⟩ := hH.2 a h0
    obtain ⟨r, h1, cell, q1, q2, q3, q4⟩ := hat.1 h50
    exact ⟨cell, q1, by rw [q3]; rfl, by rw [q2]; exact (hE.kn.1.1 _ _ hc).2.1⟩
  exact va_runVN (As := as.map tv) (b := a) (C := C) (n := np) ⟨hE.ex, hE.bt, hE.ml, hE.ow, hE.wd⟩ hM ⟨⟨⟨rfl, rfl, hfr, hlo, g_pay hE hY.1, hcb⟩, hE.wd _ hY.1, hE.wd _ hY.2.1, ⟨hY.2.2.1, hY.2.2.2.1⟩, g_sig hY, va_Nw.use rfl (hE.nest hw)⟩, hE.wd _ hw2, hE.wd _ hw3⟩ ⟨gPc.blind, hrc, hPc⟩ rfl (by rw [List.length_map]; exact hn) (hl.1.trans hE.ml) rfl (lv_room hcs) dg ⟨hc1, hs1⟩
theorem g_objInit {a idx : Nat} {rest : List Value} (hE : gE X cc nL own rt nm nf nw) (hw : Cond.methodLink own idx objectInit ∈ WG) (hw2 : Cond.instanceMethod objectInit ∈ WG) (hw3 : Cond.code objectInit ⟨#[0xb1]⟩ 1 none ∈ WG) (hR : 1 ≤ nf ∧ 20 ≤ nw) (hcs : (rest.map fun v => v.category).sum ≤ 8) (dg : dc cc pc (.invokespecial idx) 3 q) (k : gw X cells slots Q S d q lv rest) : gw X cells slots Q S d pc lv (va_rf (some a) :: rest) := by
  obtain ⟨dg, rfl⟩ := dg
  intro ls H locs hl hH hS
  have h8 := lv_room (m := xm X) (pc := pc) (ls := ls) (rest := va_rf (some a) :: rest) hcs
  refine W.objInit hE.ex hE.bt hE.ow (hE.wd _ hw) (hE.wd _ hw2) (hE.wd _ hw3) rfl hl.1 rfl dg (by rw [hE.fr]; exact hR.1) ?_ (k ls H locs hl hH hS)
  rw [hE.lw]
  exact Nat.le_trans (Nat.add_le_add_right h8 12) hR.2
theorem g_tin {x c : Int32} {dflt lo hi off : Int} {offs : Array Int} {len tgt : Nat} (hE : gE X cc nL own rt nm nf nw) (dg : decode cc pc = .ok (.tableswitch dflt lo hi offs, len)) (hx : x = c) (h1 : ¬ c.toInt < lo) (h2 : ¬ hi < c.toInt) (ho : offs[(c.toInt - lo).toNat]? = some off) (ht : (pc : Int) + off = (tgt : Int)) (k : gw X cells slots Q S d tgt lv st) : gw X cells slots Q S d pc lv (.int x :: st) := by
  subst hx
  exact fun ls H locs hl hH hS => lv_tableIn hE.ex hE.bt dg h1 h2 ho ht (k ls H locs hl hH hS)
theorem g_tout {x : Int32} {dflt lo hi : Int} {offs : Array Int} {len tgt : Nat} (hE : gE X cc nL own rt nm nf nw) (dg : decode cc pc = .ok (.tableswitch dflt lo hi offs, len)) (h1 : x.toInt < lo ∨ hi < x.toInt) (ht : (pc : Int) + dflt = (tgt : Int)) (k : gw X cells slots Q S d tgt lv st) : gw X cells slots Q S d pc lv (.int x :: st) :=
  fun ls H locs hl hH hS => lv_tableOut hE.ex hE.bt dg h1 ht (k ls H locs hl hH hS)
theorem g_look {x : Int32} {dflt off : Int} {ps : Array (Int × Int)} {len tgt : Nat} (hE : gE X cc nL own rt nm nf nw) (dg : decode cc pc = .ok (.lookupswitch dflt ps, len)) (hp : (ps.toList.zip (ps.toList.drop 1)).all (fun (a, next) => a.1 < next.1) = true) (ho : Op.lookupswitch.offset ps.toList dflt x.toInt = off) (ht : (pc : Int) + off = (tgt : Int)) (k : gw X cells slots Q S d tgt lv st) : gw X cells slots Q S d pc lv (.int x :: st) :=
  fun ls H locs hl hH hS => lv_lookup hE.ex hE.bt dg hp ho ht (k ls H locs hl hH hS)
theorem gw.cs {c2 s2 : Nat} (h1 : cells = c2) (h2 : slots = s2) (k : gw X c2 s2 Q S d pc lv st) : gw X cells slots Q S d pc lv st := by subst h1; subst h2; exact k
theorem gw.gen (k : ∀ c1 s1, cells = c1 → slots = s1 → gw X c1 s1 Q S d pc lv st) : gw X cells slots Q S d pc lv st := k _ _ rfl rfl
theorem ct_n : (([] : List Value).map fun v => v.category).sum ≤ 0 := by decide
theorem ct_i {l : List Value} {n : Nat} {x : Int32} (h : (l.map fun v => v.category).sum ≤ n) : (((.int x : Value) :: l).map fun v => v.category).sum ≤ n + 1 := by
  rw [List.map_cons, List.sum_cons, show (Value.int x).category = 1 from rfl]; omega
theorem ct_l {l : List Value} {n : Nat} {x : Int64} (h : (l.map fun v => v.category).sum ≤ n) : (((.long x : Value) :: l).map fun v => v.category).sum ≤ n + 2 := by
  rw [List.map_cons, List.sum_cons, show (Value.long x).category = 2 from rfl]; omega
theorem ct_r {l : List Value} {n : Nat} {x : Option Nat} (h : (l.map fun v => v.category).sum ≤ n) : ((va_rf x :: l).map fun v => v.category).sum ≤ n + 1 := by
  rw [List.map_cons, List.sum_cons, rf_cat]; omega
theorem ct_0 : (([] : List Value).map fun v => v.category).sum ≤ 8 := by decide
end GD
end
section
def wcp (d : gD) (a0 a : Nat) (sp dp n : Int32) : gD := (va_up d.1 a (va_cpy (d.1 a0) (d.1 a) sp.toNatClampNeg dp.toNatClampNeg n.toNatClampNeg), d.2)
def cp {α : Type} (S : gS) (d : gD) (a0 a : Nat) (sp dp n : Int32) (x : Option α) : Option α := if ¬ sp < 0 ∧ ¬ dp < 0 ∧ ¬ n < 0 ∧ sp.toNatClampNeg + n.toNatClampNeg ≤ sN S a0 ∧ dp.toNatClampNeg + n.toNatClampNeg ≤ sN S a ∧ (List.range n.toNatClampNeg).all (fun i => fits .byte (.int (dI d a0 (sp.toNatClampNeg + i)))) = true then x else none
theorem cp_s {α : Type} {S : gS} {d : gD} {a0 a : Nat} {sp dp n : Int32} {x : Option α} {r : α} (h : cp S d a0 a sp dp n x = some r) : (¬ sp < 0 ∧ ¬ dp < 0 ∧ ¬ n < 0 ∧ sp.toNatClampNeg + n.toNatClampNeg ≤ sN S a0 ∧ dp.toNatClampNeg + n.toNatClampNeg ≤ sN S a ∧ (List.range n.toNatClampNeg).all (fun i => fits .byte (.int (dI d a0 (sp.toNatClampNeg + i)))) = true) ∧ x = some r := by
  unfold cp at h
  split at h
  · rename_i c; exact ⟨c, h⟩
  · cases h
theorem gV_byte {S : gS} {d : gD} {a : Nat} (h : sK S a = 52) : gV S d a = fun j => .int (d.1 a j) := by
  funext j
  exact gV_i (by rw [h]; rfl)
theorem gV_wcp {S : gS} {d : gD} {a0 a : Nat} {sp dp n : Int32} {b : Nat} (h : b ≠ a) : gV S (wcp d a0 a sp dp n) b = gV S d b := gV_congr rfl (fun _ => rfl) (fun j => by show va_up d.1 a _ b j = _; rw [va_up_ne _ _ h]; rfl) (fun _ => rfl)
section GF
variable {X : GX} {cells slots : Nat} {Q : State → Prop} {S : gS} {d : gD} {pc q : Nat} {lv : List (Option Value)} {st : List Value} {cc : ByteArray} {nL nf nw : Nat} {own nm : String} {rt : Option FieldType}
theorem g_copyb {a0 a idx : Nat} {sp dp n : Int32} (hE : gE X cc nL own rt nm nf nw) (hk0 : sK S a0 = 52) (hk1 : sK S a = 52)
    (hg : ¬ sp < 0 ∧ ¬ dp < 0 ∧ ¬ n < 0 ∧ sp.toNatClampNeg + n.toNatClampNeg ≤ sN S a0 ∧ dp.toNatClampNeg + n.toNatClampNeg ≤ sN S a ∧ (List.range n.toNatClampNeg).all (fun i => fits .byte (.int (dI d a0 (sp.toNatClampNeg + i)))) = true)
    (hw1 : Cond.methodLink own idx arraycopyName ∈ WG) (hw2 : Cond.native arraycopyName ∈ WG) (hw3 : Cond.static arraycopyName ∈ WG) (hw4 : Cond.initialized "java/lang/System" ∈ WG) (hR : 1 ≤ nf ∧ 26 ≤ nw) (hcs : (st.map fun v => v.category).sum ≤ 8) (dg : dc cc pc (.invokestatic idx) 3 q)
    (kk : ∀ d1, wcp d a0 a sp dp n = d1 → gw X cells slots Q S d1 q lv st) : gw X cells slots Q S d pc lv (.int n :: .int dp :: va_rf (some a) :: .int sp :: va_rf (some a0) :: st) := by
  obtain ⟨dg, rfl⟩ := dg
  obtain ⟨h1, h2, h3, h4, h5, hall⟩ := hg
  have hfit : ∀ i, i < n.toNatClampNeg → fits .byte (.int (d.1 a0 (sp.toNatClampNeg + i))) = true := fun i hi => List.all_eq_true.mp hall i (List.mem_range.mpr hi)
  have nn : ∀ z : Int32, ¬ z < 0 → z.toInt = (z.toNatClampNeg : Int) := by
    intro z hz
    have hz0 : (0 : Int) ≤ z.toInt := by
      have := Int32.not_lt.mp hz
      simpa using Int32.le_iff_toInt_le.mp this
    show z.toInt = ((z.toInt.toNat : Nat) : Int)
    omega
  intro ls H locs hl hH hS T hT X0
  have hc0 : H[a0]? = some (arrV ((xG X).2.1 52) (sN S a0) (fun j => .int (d.1 a0 j))) := by rw [hH.arr hk0 (by decide), gV_byte hk0]
  have hc1 : H[a]? = some (arrV ((xG X).2.1 52) (sN S a) (fun j => .int (d.1 a j))) := by rw [hH.arr hk1 (by decide), gV_byte hk1]
  obtain ⟨-, k0, hkk0, cm0, hkd0⟩ := (hE.kn.arr (κ := 52) (by decide)).1 (sN S a0) (fun j => .int (d.1 a0 j))
  obtain ⟨-, k1, hkk1, cm1, hkd1⟩ := (hE.kn.arr (κ := 52) (by decide)).1 (sN S a) (fun j => .int (d.1 a j))
  obtain ⟨vm', X', step⟩ := X0.arraycopy hE.ex hE.ow (hE.wd _ hw1) (hE.wd _ hw2) (hE.wd _ hw3) (hE.wd _ hw4) (src := a0) (dst := a) (cs := arrV ((xG X).2.1 52) (sN S a0) (fun j => .int (d.1 a0 j))) (cd := arrV ((xG X).2.1 52) (sN S a) (fun j => .int (d.1 a j))) (srcPos := sp) (destPos := dp) (n := n) (by rw [hT]; exact hc0) (by rw [hT]; exact hc1)
    (fun _ h => by cases h) (fun _ h => by cases h) (fun h => by cases h) (fun h => by cases h) hkk0 hkk1 hkd0 hkd1 (by decide) h1 h2 h3
    (by rw [nn sp h1, nn n h3, arrV_size]; omega)
    (by rw [nn dp h2, nn n h3, arrV_size]; omega)
    (fun vm₁ _ i hi => by
      have e : (arrV ((xG X).2.1 52) (sN S a0) (fun j => Value.int (d.1 a0 j))).slots.getD (sp.toNatClampNeg + i) .null = .int (d.1 a0 (sp.toNatClampNeg + i)) := by
        rw [Array.getD_eq_getD_getElem?, arrV_read _ _ (by omega)]
        rfl
      refine ⟨?_, ?_⟩
      · rw [e]
        exact hfit i hi
      · rw [e]
        exact trivial)
    (g := F0 (xm X) pc ls (.int n :: .int dp :: .ref a :: .int sp :: .ref a0 :: st)) rfl hl.1 (rest := st) rfl (by rw [hE.bt]; exact dg) (by rw [hE.fr]; exact hR.1) (by rw [hE.lw]; show 2 * 0 + _ + (7 + 11) ≤ _; omega)
  have e1 : copied (arrV ((xG X).2.1 52) (sN S a0) (fun j => .int (d.1 a0 j))) (arrV ((xG X).2.1 52) (sN S a) (fun j => .int (d.1 a j))) sp dp n = arrV ((xG X).2.1 52) (sN S a) (fun j => .int (va_cpy (d.1 a0) (d.1 a) sp.toNatClampNeg dp.toNatClampNeg n.toNatClampNeg j)) := va_copied (fun z => .int z) _ _ (d.1 a0) (d.1 a) h4
  rw [e1] at X' step
  generalize hY : (arrV ((xG X).2.1 52) (sN S a) (fun j => .int (va_cpy (d.1 a0) (d.1 a) sp.toNatClampNeg dp.toNatClampNeg n.toNatClampNeg j))) = Y at X' step
  have hlt : a < H.size := (Array.getElem?_eq_some_iff.mp hc1).1
  have hheap : ((T.setVm vm').setCell a Y).heap = H.setIfInBounds a Y := by rw [← hT]; rfl
  have oq : ∀ q : Nat, q ≠ a → (H.setIfInBounds a Y)[q]? = H[q]? := fun q hq => by simp [Array.getElem?_setIfInBounds, Ne.symm hq]
  have hza : (xG X).2.2 ≤ a := (hH.2 a (by rw [hk1]; decide)).1
  have hH1 : gH (xG X) S (wcp d a0 a sp dp n) (H.setIfInBounds a Y) := by
    refine hH.upd (by simp) oq (fun _ => rfl) (fun _ => rfl) rfl (fun b hb => gV_wcp hb) (gAt.mkA (by rw [hk1]; decide) ?_)
    rw [gV_byte hk1, hk1, show (H.setIfInBounds a Y)[a]? = some Y by simp [Array.getElem?_setIfInBounds, hlt], ← hY]
    congr 2
    funext j
    show _ = Value.int (va_up d.1 a _ a j)
    rw [va_up_self]
  obtain ⟨t, a1, b1⟩ := kk _ rfl ls (H.setIfInBounds a Y) _ hl hH1 ⟨by simp; exact hS.1, fun q g1 g2 => by
      rw [oq q (fun e => g2 (by rw [e]; exact hza))]
      exact hS.2.1 q g1 g2, fun q hq => by
      rcases List.mem_append.mp hq with h | h
      · exact hS.2.2 q h
      · obtain ⟨z, -, hz⟩ := List.mem_map.mp h
        rw [← hz]
        exact hza⟩ _ hheap X'
  exact ⟨t, step t a1, b1⟩
end GF
end
section
theorem kc_M : gCl 1 "StandInMill" F_M 18 t_M := ⟨by decide, by decide, rfl, fun w h => in_WG 0 rfl h, by decide +kernel, by decide +kernel⟩
theorem kn_M : ∀ k, k < 18 → defaultValue (t_M k) = gO 1 k := by
  intro k hk
  rcases (show k = 0 ∨ k = 1 ∨ k = 2 ∨ k = 3 ∨ k = 4 ∨ k = 5 ∨ k = 6 ∨ k = 7 ∨ k = 8 ∨ k = 9 ∨ k = 10 ∨ k = 11 ∨ k = 12 ∨ k = 13 ∨ k = 14 ∨ k = 15 ∨ k = 16 ∨ k = 17 by omega) with rfl | rfl | rfl | rfl | rfl | rfl | rfl | rfl | rfl | rfl | rfl | rfl | rfl | rfl | rfl | rfl | rfl | rfl <;> rfl
theorem kc_Rw : gCl 2 "StandInMill$ClassRow" F_Rw 2 t_Rw := ⟨by decide, by decide, rfl, fun w h => in_WG 1 rfl h, by decide +kernel, by decide +kernel⟩
theorem kn_Rw : ∀ k, k < 2 → defaultValue (t_Rw k) = gO 2 k := by
  intro k hk
  rcases (show k = 0 ∨ k = 1 by omega) with rfl | rfl <;> rfl
theorem kc_Dr : gCl 3 "StandInMill$Draft" F_Dr 4 t_Dr := ⟨by decide, by decide, rfl, fun w h => in_WG 2 rfl h, by decide +kernel, by decide +kernel⟩
theorem kn_Dr : ∀ k, k < 4 → defaultValue (t_Dr k) = gO 3 k := by
  intro k hk
  rcases (show k = 0 ∨ k = 1 ∨ k = 2 ∨ k = 3 by omega) with rfl | rfl | rfl | rfl <;> rfl
theorem kc_Fc : gCl 4 "StandInMill$Face" F_Fc 10 t_Fc := ⟨by decide, by decide, rfl, fun w h => in_WG 3 rfl h, by decide +kernel, by decide +kernel⟩
theorem kn_Fc : ∀ k, k < 10 → defaultValue (t_Fc k) = gO 4 k := by
  intro k hk
  rcases (show k = 0 ∨ k = 1 ∨ k = 2 ∨ k = 3 ∨ k = 4 ∨ k = 5 ∨ k = 6 ∨ k = 7 ∨ k = 8 ∨ k = 9 by omega) with rfl | rfl | rfl | rfl | rfl | rfl | rfl | rfl | rfl | rfl <;> rfl
theorem kc_Om : gCl 5 "StandInMill$OwnMethod" F_Om 6 t_Om := ⟨by decide, by decide, rfl, fun w h => in_WG 4 rfl h, by decide +kernel, by decide +kernel⟩
theorem kn_Om : ∀ k, k < 6 → defaultValue (t_Om k) = gO 5 k := by
  intro k hk
  rcases (show k = 0 ∨ k = 1 ∨ k = 2 ∨ k = 3 ∨ k = 4 ∨ k = 5 by omega) with rfl | rfl | rfl | rfl | rfl | rfl <;> rfl
theorem kc_Si : gCl 6 "StandInMill$StandIn" F_Si 8 t_Si := ⟨by decide, by decide, rfl, fun w h => in_WG 5 rfl h, by decide +kernel, by decide +kernel⟩
theorem kn_Si : ∀ k, k < 8 → defaultValue (t_Si k) = gO 6 k := by
  intro k hk
  rcases (show k = 0 ∨ k = 1 ∨ k = 2 ∨ k = 3 ∨ k = 4 ∨ k = 5 ∨ k = 6 ∨ k = 7 by omega) with rfl | rfl | rfl | rfl | rfl | rfl | rfl | rfl <;> rfl
theorem kc_Sm : gCl 7 "StandInMill$StandMethod" F_Sm 3 t_Sm := ⟨by decide, by decide, rfl, fun w h => in_WG 6 rfl h, by decide +kernel, by decide +kernel⟩
theorem kn_Sm : ∀ k, k < 3 → defaultValue (t_Sm k) = gO 7 k := by
  intro k hk
  rcases (show k = 0 ∨ k = 1 ∨ k = 2 by omega) with rfl | rfl | rfl <;> rfl
theorem kc_Ty : gCl 8 "StandInMill$Types" F_Ty 2 t_Ty := ⟨by decide, by decide, rfl, fun w h => in_WG 7 rfl h, by decide +kernel, by decide +kernel⟩
theorem kn_Ty : ∀ k, k < 2 → defaultValue (t_Ty k) = gO 8 k := by
  intro k hk
  rcases (show k = 0 ∨ k = 1 by omega) with rfl | rfl <;> rfl
theorem kc_Uw : gCl 9 "StandInMill$UnitWriter" F_Uw 6 t_Uw := ⟨by decide, by decide, rfl, fun w h => in_WG 8 rfl h, by decide +kernel, by decide +kernel⟩
theorem kn_Uw : ∀ k, k < 6 → defaultValue (t_Uw k) = gO 9 k := by
  intro k hk
  rcases (show k = 0 ∨ k = 1 ∨ k = 2 ∨ k = 3 ∨ k = 4 ∨ k = 5 by omega) with rfl | rfl | rfl | rfl | rfl | rfl <;> rfl
theorem kc_R : gCl 10 "StandInMillModel" F_R 47 t_R := ⟨by decide, by decide, rfl, fun w h => in_WG 9 rfl h, by decide +kernel, by decide +kernel⟩
theorem kn_R : ∀ k, k < 47 → defaultValue (t_R k) = gO 10 k := by
  intro k hk
  rcases (show k = 0 ∨ k = 1 ∨ k = 2 ∨ k = 3 ∨ k = 4 ∨ k = 5 ∨ k = 6 ∨ k = 7 ∨ k = 8 ∨ k = 9 ∨ k = 10 ∨ k = 11 ∨ k = 12 ∨ k = 13 ∨ k = 14 ∨ k = 15 ∨ k = 16 ∨ k = 17 ∨ k = 18 ∨ k = 19 ∨ k = 20 ∨ k = 21 ∨ k = 22 ∨ k = 23 ∨ k = 24 ∨ k = 25 ∨ k = 26 ∨ k = 27 ∨ k = 28 ∨ k = 29 ∨ k = 30 ∨ k = 31 ∨ k = 32 ∨ k = 33 ∨ k = 34 ∨ k = 35 ∨ k = 36 ∨ k = 37 ∨ k = 38 ∨ k = 39 ∨ k = 40 ∨ k = 41 ∨ k = 42 ∨ k = 43 ∨ k = 44 ∨ k = 45 ∨ k = 46 by omega) with rfl | rfl | rfl | rfl | rfl | rfl | rfl | rfl | rfl | rfl | rfl | rfl | rfl | rfl | rfl | rfl | rfl | rfl | rfl | rfl | rfl | rfl | rfl | rfl | rfl | rfl | rfl | rfl | rfl | rfl | rfl | rfl | rfl | rfl | rfl | rfl | rfl | rfl | rfl | rfl | rfl | rfl | rfl | rfl | rfl | rfl | rfl <;> rfl
theorem ky_Ty_bit : gY y_Ty_bit b_Ty_bit 1 (some (.long)) 1 := ⟨m_590, m_38, by decide, by decide, by decide +kernel⟩
theorem ky_Ty_init : gY y_Ty_init b_Ty_init 2 none 0 := ⟨m_591, m_38, by decide, by decide, by decide +kernel⟩
theorem ky_Rw_init : gY y_Rw_init b_Rw_init 2 none 1 := ⟨m_592, m_16, by decide, by decide, by decide +kernel⟩
theorem ky_Dr_init : gY y_Dr_init b_Dr_init 2 none 1 := ⟨m_593, m_53, by decide, by decide, by decide +kernel⟩
theorem ky_Uw_init : gY y_Uw_init b_Uw_init 1 none 0 := ⟨m_594, m_59, by decide, by decide, by decide +kernel⟩
theorem ky_Om_init : gY y_Om_init b_Om_init 6 none 5 := ⟨m_595, m_68, by decide, by decide, by decide +kernel⟩
theorem ky_Ar_fillJ : gY y_Ar_fillJ b_Ar_fillJ 5 none 2 := ⟨m_596, m_597, by decide, by decide, by decide +kernel⟩
theorem ky_M_init : gY y_M_init b_M_init 1 none 0 := ⟨m_598, m_521, by decide, by decide, by decide +kernel⟩
theorem ky_M_isWithin : gY y_M_isWithin b_M_isWithin 2 (some (.boolean)) 2 := ⟨m_599, m_521, by decide, by decide, by decide +kernel⟩
theorem ky_M_isLoader : gY y_M_isLoader b_M_isLoader 2 (some (.boolean)) 1 := ⟨m_600, m_521, by decide, by decide, by decide +kernel⟩
theorem ky_M_loader : gY y_M_loader b_M_loader 2 (some (.int)) 1 := ⟨m_601, m_521, by decide, by decide, by decide +kernel⟩
theorem ky_Ty_isClass : gY y_Ty_isClass b_Ty_isClass 2 (some (.boolean)) 1 := ⟨m_602, m_38, by decide, by decide, by decide +kernel⟩
theorem ky_Ty_addClass : gY y_Ty_addClass b_Ty_addClass 2 (some (.int)) 1 := ⟨m_603, m_38, by decide, by decide, by decide +kernel⟩
theorem ky_M_type : gY y_M_type b_M_type 2 (some (.int)) 1 := ⟨m_604, m_521, by decide, by decide, by decide +kernel⟩
theorem ky_M_faceMadeBy : gY y_M_faceMadeBy b_M_faceMadeBy 5 (some (.int)) 3 := ⟨m_605, m_521, by decide, by decide, by decide +kernel⟩
theorem ky_M_faceFoundBy : gY y_M_faceFoundBy b_M_faceFoundBy 8 (some (.int)) 3 := ⟨m_606, m_521, by decide, by decide, by decide +kernel⟩
theorem ky_Fc_init : gY y_Fc_init b_Fc_init 5 none 4 := ⟨m_607, m_101, by decide, by decide, by decide +kernel⟩
theorem ky_Ty_addFace : gY y_Ty_addFace b_Ty_addFace 2 none 1 := ⟨m_608, m_38, by decide, by decide, by decide +kernel⟩
theorem ky_M_face : gY y_M_face b_M_face 6 (some (.int)) 4 := ⟨m_609, m_521, by decide, by decide, by decide +kernel⟩
theorem ky_M_isFace : gY y_M_isFace b_M_isFace 2 (some (.boolean)) 1 := ⟨m_610, m_521, by decide, by decide, by decide +kernel⟩
theorem ky_Fc_hasParent : gY y_Fc_hasParent b_Fc_hasParent 3 (some (.boolean)) 1 := ⟨m_611, m_101, by decide, by decide, by decide +kernel⟩
theorem ky_M_isVisible : gY y_M_isVisible b_M_isVisible 4 (some (.boolean)) 2 := ⟨m_612, m_521, by decide, by decide, by decide +kernel⟩
theorem ky_Fc_addParent : gY y_Fc_addParent b_Fc_addParent 2 none 1 := ⟨m_613, m_101, by decide, by decide, by decide +kernel⟩
theorem ky_Ty_isBelow : gY y_Ty_isBelow b_Ty_isBelow 3 (some (.boolean)) 2 := ⟨m_614, m_38, by decide, by decide, by decide +kernel⟩
theorem ky_Ty_putBelow : gY y_Ty_putBelow b_Ty_putBelow 4 none 2 := ⟨m_615, m_38, by decide, by decide, by decide +kernel⟩
theorem ky_M_extend : gY y_M_extend b_M_extend 4 (some (.boolean)) 2 := ⟨m_616, m_521, by decide, by decide, by decide +kernel⟩
theorem ky_M_byteOf : gY y_M_byteOf b_M_byteOf 2 (some (.int)) 2 := ⟨m_617, m_521, by decide, by decide, by decide +kernel⟩
theorem ky_M_cutAtZero : gY y_M_cutAtZero b_M_cutAtZero 3 (some (.int)) 1 := ⟨m_618, m_521, by decide, by decide, by decide +kernel⟩
theorem ky_M_isPlain : gY y_M_isPlain b_M_isPlain 1 (some (.boolean)) 1 := ⟨m_619, m_521, by decide, by decide, by decide +kernel⟩
theorem ky_Ty_isThere : gY y_Ty_isThere b_Ty_isThere 2 (some (.boolean)) 1 := ⟨m_620, m_38, by decide, by decide, by decide +kernel⟩
theorem ky_M_isResult : gY y_M_isResult b_M_isResult 2 (some (.boolean)) 1 := ⟨m_621, m_521, by decide, by decide, by decide +kernel⟩
theorem ky_M_lengthOf : gY y_M_lengthOf b_M_lengthOf 2 (some (.int)) 1 := ⟨m_622, m_521, by decide, by decide, by decide +kernel⟩
theorem ky_M_areParameters : gY y_M_areParameters b_M_areParameters 3 (some (.boolean)) 1 := ⟨m_623, m_521, by decide, by decide, by decide +kernel⟩
theorem ky_Fc_hasOwn : gY y_Fc_hasOwn b_Fc_hasOwn 4 (some (.boolean)) 2 := ⟨m_624, m_101, by decide, by decide, by decide +kernel⟩
theorem ky_Fc_addOwn : gY y_Fc_addOwn b_Fc_addOwn 2 none 1 := ⟨m_625, m_101, by decide, by decide, by decide +kernel⟩
theorem ky_M_method : gY y_M_method b_M_method 7 (some (.int)) 3 := ⟨m_626, m_521, by decide, by decide, by decide +kernel⟩
theorem ky_Rw_has : gY y_Rw_has b_Rw_has 3 (some (.boolean)) 1 := ⟨m_627, m_16, by decide, by decide, by decide +kernel⟩
theorem ky_Rw_add : gY y_Rw_add b_Rw_add 2 none 1 := ⟨m_628, m_16, by decide, by decide, by decide +kernel⟩
theorem ky_M_throwing : gY y_M_throwing b_M_throwing 6 (some (.boolean)) 3 := ⟨m_629, m_521, by decide, by decide, by decide +kernel⟩
theorem ky_M_isBox : gY y_M_isBox b_M_isBox 1 (some (.boolean)) 1 := ⟨m_630, m_521, by decide, by decide, by decide +kernel⟩
theorem ky_M_fitted : gY y_M_fitted b_M_fitted 3 (some (.long)) 2 := ⟨m_631, m_521, by decide, by decide, by decide +kernel⟩
theorem ky_M_object : gY y_M_object b_M_object 4 (some (.int)) 2 := ⟨m_632, m_521, by decide, by decide, by decide +kernel⟩
theorem ky_M_value : gY y_M_value b_M_value 3 (some (.long)) 2 := ⟨m_633, m_521, by decide, by decide, by decide +kernel⟩
theorem ky_M_below : gY y_M_below b_M_below 3 (some (.boolean)) 2 := ⟨m_634, m_521, by decide, by decide, by decide +kernel⟩
theorem ky_M_find : gY y_M_find b_M_find 4 (some (.int)) 3 := ⟨m_635, m_521, by decide, by decide, by decide +kernel⟩
theorem ky_M_areFaces : gY y_M_areFaces b_M_areFaces 3 (some (.boolean)) 1 := ⟨m_636, m_521, by decide, by decide, by decide +kernel⟩
theorem ky_M_standMadeFor : gY y_M_standMadeFor b_M_standMadeFor 4 (some (.int)) 2 := ⟨m_637, m_521, by decide, by decide, by decide +kernel⟩
theorem ky_M_areVisible : gY y_M_areVisible b_M_areVisible 4 (some (.boolean)) 2 := ⟨m_638, m_521, by decide, by decide, by decide +kernel⟩
theorem ky_M_hasTwice : gY y_M_hasTwice b_M_hasTwice 3 (some (.boolean)) 1 := ⟨m_639, m_521, by decide, by decide, by decide +kernel⟩
theorem ky_M_packageOf : gY y_M_packageOf b_M_packageOf 4 (some (.int)) 1 := ⟨m_640, m_521, by decide, by decide, by decide +kernel⟩
theorem ky_M_isInTwoPackages : gY y_M_isInTwoPackages b_M_isInTwoPackages 5 (some (.boolean)) 1 := ⟨m_641, m_521, by decide, by decide, by decide +kernel⟩
theorem ky_M_faultOfList : gY y_M_faultOfList b_M_faultOfList 3 (some (.int)) 2 := ⟨m_642, m_521, by decide, by decide, by decide +kernel⟩
theorem ky_Fc_gather : gY y_Fc_gather b_Fc_gather 3 none 1 := ⟨m_643, m_101, by decide, by decide, by decide +kernel⟩
theorem ky_Fc_gatherOwn : gY y_Fc_gatherOwn b_Fc_gatherOwn 2 none 0 := ⟨m_644, m_101, by decide, by decide, by decide +kernel⟩
theorem ky_Fc_gatherFrom : gY y_Fc_gatherFrom b_Fc_gatherFrom 4 none 1 := ⟨m_645, m_101, by decide, by decide, by decide +kernel⟩
theorem ky_M_gatherMethods : gY y_M_gatherMethods b_M_gatherMethods 4 none 0 := ⟨m_646, m_521, by decide, by decide, by decide +kernel⟩
theorem ky_Dr_clear : gY y_Dr_clear b_Dr_clear 1 none 0 := ⟨m_647, m_53, by decide, by decide, by decide +kernel⟩
theorem ky_Om_hasSignatureOf : gY y_Om_hasSignatureOf b_Om_hasSignatureOf 2 (some (.boolean)) 1 := ⟨m_648, m_68, by decide, by decide, by decide +kernel⟩
theorem ky_Rw_clear : gY y_Rw_clear b_Rw_clear 1 none 0 := ⟨m_649, m_16, by decide, by decide, by decide +kernel⟩
theorem ky_Rw_copyFrom : gY y_Rw_copyFrom b_Rw_copyFrom 3 none 1 := ⟨m_650, m_16, by decide, by decide, by decide +kernel⟩
theorem ky_Ty_isBelowOneOf : gY y_Ty_isBelowOneOf b_Ty_isBelowOneOf 4 (some (.boolean)) 2 := ⟨m_651, m_38, by decide, by decide, by decide +kernel⟩
theorem ky_Ty_addBelow : gY y_Ty_addBelow b_Ty_addBelow 5 none 3 := ⟨m_652, m_38, by decide, by decide, by decide +kernel⟩
theorem ky_Dr_narrow : gY y_Dr_narrow b_Dr_narrow 3 none 2 := ⟨m_653, m_53, by decide, by decide, by decide +kernel⟩
theorem ky_Sm_init : gY y_Sm_init b_Sm_init 1 none 0 := ⟨m_654, m_210, by decide, by decide, by decide +kernel⟩
theorem ky_Dr_insert : gY y_Dr_insert b_Dr_insert 5 none 2 := ⟨m_655, m_53, by decide, by decide, by decide +kernel⟩
theorem ky_Dr_take : gY y_Dr_take b_Dr_take 4 none 1 := ⟨m_656, m_53, by decide, by decide, by decide +kernel⟩
theorem ky_M_fillDraft : gY y_M_fillDraft b_M_fillDraft 5 none 1 := ⟨m_657, m_521, by decide, by decide, by decide +kernel⟩
theorem ky_Dr_endOfSignature : gY y_Dr_endOfSignature b_Dr_endOfSignature 3 (some (.int)) 1 := ⟨m_658, m_53, by decide, by decide, by decide +kernel⟩
theorem ky_Dr_isBelowAll : gY y_Dr_isBelowAll b_Dr_isBelowAll 5 (some (.boolean)) 3 := ⟨m_659, m_53, by decide, by decide, by decide +kernel⟩
theorem ky_Dr_resultsAgreeWithin : gY y_Dr_resultsAgreeWithin b_Dr_resultsAgreeWithin 6 (some (.boolean)) 2 := ⟨m_660, m_53, by decide, by decide, by decide +kernel⟩
theorem ky_Dr_resultsAgree : gY y_Dr_resultsAgree b_Dr_resultsAgree 3 (some (.boolean)) 0 := ⟨m_661, m_53, by decide, by decide, by decide +kernel⟩
theorem ky_M_faultOfDraft : gY y_M_faultOfDraft b_M_faultOfDraft 1 (some (.int)) 0 := ⟨m_662, m_521, by decide, by decide, by decide +kernel⟩
theorem ky_M_standsOfPackage : gY y_M_standsOfPackage b_M_standsOfPackage 4 (some (.int)) 1 := ⟨m_663, m_521, by decide, by decide, by decide +kernel⟩
theorem ky_Si_init : gY y_Si_init b_Si_init 6 none 5 := ⟨m_664, m_264, by decide, by decide, by decide +kernel⟩
theorem ky_Rw_at : gY y_Rw_at b_Rw_at 2 (some (.int)) 1 := ⟨m_665, m_16, by decide, by decide, by decide +kernel⟩
theorem ky_Ty_dropBelow : gY y_Ty_dropBelow b_Ty_dropBelow 5 none 2 := ⟨m_666, m_38, by decide, by decide, by decide +kernel⟩
theorem ky_Dr_fillCaught : gY y_Dr_fillCaught b_Dr_fillCaught 5 none 1 := ⟨m_667, m_53, by decide, by decide, by decide +kernel⟩
theorem ky_Dr_handOver : gY y_Dr_handOver b_Dr_handOver 3 none 1 := ⟨m_668, m_53, by decide, by decide, by decide +kernel⟩
theorem ky_M_madeOfDraft : gY y_M_madeOfDraft b_M_madeOfDraft 5 (some (.object "StandInMill$StandIn")) 2 := ⟨m_669, m_521, by decide, by decide, by decide +kernel⟩
theorem ky_Ar_fillI : gY y_Ar_fillI b_Ar_fillI 4 none 2 := ⟨m_670, m_597, by decide, by decide, by decide +kernel⟩
theorem ky_Uw_put : gY y_Uw_put b_Uw_put 2 none 1 := ⟨m_671, m_59, by decide, by decide, by decide +kernel⟩
theorem ky_Uw_putInPool : gY y_Uw_putInPool b_Uw_putInPool 2 none 1 := ⟨m_672, m_59, by decide, by decide, by decide +kernel⟩
theorem ky_Uw_putEntry : gY y_Uw_putEntry b_Uw_putEntry 5 (some (.boolean)) 3 := ⟨m_673, m_59, by decide, by decide, by decide +kernel⟩
theorem ky_Uw_putType : gY y_Uw_putType b_Uw_putType 2 none 1 := ⟨m_674, m_59, by decide, by decide, by decide +kernel⟩
theorem ky_Uw_putTypes : gY y_Uw_putTypes b_Uw_putTypes 3 none 1 := ⟨m_675, m_59, by decide, by decide, by decide +kernel⟩
theorem ky_Uw_putRow : gY y_Uw_putRow b_Uw_putRow 3 none 1 := ⟨m_676, m_59, by decide, by decide, by decide +kernel⟩
theorem ky_Uw_putMethodEntry : gY y_Uw_putMethodEntry b_Uw_putMethodEntry 3 none 1 := ⟨m_677, m_59, by decide, by decide, by decide +kernel⟩
theorem ky_Om_parameterCount : gY y_Om_parameterCount b_Om_parameterCount 1 (some (.int)) 0 := ⟨m_678, m_68, by decide, by decide, by decide +kernel⟩
theorem ky_Uw_putParameterCode : gY y_Uw_putParameterCode b_Uw_putParameterCode 5 none 1 := ⟨m_679, m_59, by decide, by decide, by decide +kernel⟩
theorem ky_Uw_putResultCode : gY y_Uw_putResultCode b_Uw_putResultCode 2 none 1 := ⟨m_680, m_59, by decide, by decide, by decide +kernel⟩
theorem ky_Uw_putCode : gY y_Uw_putCode b_Uw_putCode 3 none 2 := ⟨m_681, m_59, by decide, by decide, by decide +kernel⟩
theorem ky_Uw_putMethod : gY y_Uw_putMethod b_Uw_putMethod 4 none 1 := ⟨m_682, m_59, by decide, by decide, by decide +kernel⟩
theorem ky_Uw_joined : gY y_Uw_joined b_Uw_joined 2 (some (.array (.byte))) 0 := ⟨m_683, m_59, by decide, by decide, by decide +kernel⟩
theorem ky_Uw_write : gY y_Uw_write b_Uw_write 3 (some (.array (.byte))) 1 := ⟨m_684, m_59, by decide, by decide, by decide +kernel⟩
theorem ky_M_stand : gY y_M_stand b_M_stand 6 (some (.int)) 2 := ⟨m_685, m_521, by decide, by decide, by decide +kernel⟩
theorem ky_M_fault : gY y_M_fault b_M_fault 1 (some (.int)) 0 := ⟨m_686, m_521, by decide, by decide, by decide +kernel⟩
theorem ky_M_about : gY y_M_about b_M_about 4 (some (.int)) 2 := ⟨m_687, m_521, by decide, by decide, by decide +kernel⟩
theorem ky_M_hasMethod : gY y_M_hasMethod b_M_hasMethod 3 (some (.boolean)) 2 := ⟨m_688, m_521, by decide, by decide, by decide +kernel⟩
theorem ky_M_told : gY y_M_told b_M_told 6 (some (.int)) 3 := ⟨m_689, m_521, by decide, by decide, by decide +kernel⟩
theorem ky_M_octet : gY y_M_octet b_M_octet 3 (some (.int)) 2 := ⟨m_690, m_521, by decide, by decide, by decide +kernel⟩
theorem ky_M_handler : gY y_M_handler b_M_handler 4 (some (.boolean)) 3 := ⟨m_691, m_521, by decide, by decide, by decide +kernel⟩
theorem ky_M_isObjectBelow : gY y_M_isObjectBelow b_M_isObjectBelow 4 (some (.boolean)) 2 := ⟨m_692, m_521, by decide, by decide, by decide +kernel⟩
theorem ky_M_takesGiven : gY y_M_takesGiven b_M_takesGiven 4 (some (.boolean)) 1 := ⟨m_693, m_521, by decide, by decide, by decide +kernel⟩
theorem ky_M_showObject : gY y_M_showObject b_M_showObject 4 none 2 := ⟨m_694, m_521, by decide, by decide, by decide +kernel⟩
theorem ky_M_showHandler : gY y_M_showHandler b_M_showHandler 4 none 1 := ⟨m_695, m_521, by decide, by decide, by decide +kernel⟩
theorem ky_M_fitThrown : gY y_M_fitThrown b_M_fitThrown 3 (some (.int)) 2 := ⟨m_696, m_521, by decide, by decide, by decide +kernel⟩
theorem ky_M_fitAnswer : gY y_M_fitAnswer b_M_fitAnswer 4 (some (.int)) 2 := ⟨m_697, m_521, by decide, by decide, by decide +kernel⟩
theorem ky_M_call : gY y_M_call b_M_call 11 (some (.int)) 5 := ⟨m_698, m_521, by decide, by decide, by decide +kernel⟩
theorem ky_M_outcome : gY y_M_outcome b_M_outcome 1 (some (.long)) 0 := ⟨m_699, m_521, by decide, by decide, by decide +kernel⟩
theorem ky_M_seen : gY y_M_seen b_M_seen 2 (some (.long)) 1 := ⟨m_700, m_521, by decide, by decide, by decide +kernel⟩
theorem ky_R_init : gY y_R_init b_R_init 2 none 0 := ⟨m_701, m_526, by decide, by decide, by decide +kernel⟩
theorem ky_R_isClass : gY y_R_isClass b_R_isClass 2 (some (.boolean)) 1 := ⟨m_702, m_526, by decide, by decide, by decide +kernel⟩
theorem ky_R_isFace : gY y_R_isFace b_R_isFace 2 (some (.boolean)) 1 := ⟨m_703, m_526, by decide, by decide, by decide +kernel⟩
theorem ky_R_isPlain : gY y_R_isPlain b_R_isPlain 1 (some (.boolean)) 1 := ⟨m_704, m_526, by decide, by decide, by decide +kernel⟩
theorem ky_R_isBox : gY y_R_isBox b_R_isBox 1 (some (.boolean)) 1 := ⟨m_705, m_526, by decide, by decide, by decide +kernel⟩
theorem ky_R_there : gY y_R_there b_R_there 2 (some (.boolean)) 1 := ⟨m_706, m_526, by decide, by decide, by decide +kernel⟩
theorem ky_R_isBelow : gY y_R_isBelow b_R_isBelow 6 (some (.boolean)) 2 := ⟨m_707, m_526, by decide, by decide, by decide +kernel⟩
theorem ky_R_fitted : gY y_R_fitted b_R_fitted 3 (some (.long)) 2 := ⟨m_708, m_526, by decide, by decide, by decide +kernel⟩
theorem ky_R_madeBy : gY y_R_madeBy b_R_madeBy 5 (some (.int)) 3 := ⟨m_709, m_526, by decide, by decide, by decide +kernel⟩
theorem ky_R_finds : gY y_R_finds b_R_finds 7 (some (.int)) 3 := ⟨m_710, m_526, by decide, by decide, by decide +kernel⟩
theorem ky_R_visible : gY y_R_visible b_R_visible 3 (some (.boolean)) 2 := ⟨m_711, m_526, by decide, by decide, by decide +kernel⟩
theorem ky_R_sameSignature : gY y_R_sameSignature b_R_sameSignature 3 (some (.boolean)) 2 := ⟨m_712, m_526, by decide, by decide, by decide +kernel⟩
theorem ky_R_takesCount : gY y_R_takesCount b_R_takesCount 3 (some (.int)) 1 := ⟨m_713, m_526, by decide, by decide, by decide +kernel⟩
theorem ky_R_listMethods : gY y_R_listMethods b_R_listMethods 9 none 0 := ⟨m_714, m_526, by decide, by decide, by decide +kernel⟩
theorem ky_R_add : gY y_R_add b_R_add 3 none 1 := ⟨m_715, m_526, by decide, by decide, by decide +kernel⟩
theorem ky_R_belowOneOf : gY y_R_belowOneOf b_R_belowOneOf 4 (some (.boolean)) 2 := ⟨m_716, m_526, by decide, by decide, by decide +kernel⟩
theorem ky_R_merge : gY y_R_merge b_R_merge 10 none 2 := ⟨m_717, m_526, by decide, by decide, by decide +kernel⟩
theorem ky_R_describe : gY y_R_describe b_R_describe 7 none 1 := ⟨m_718, m_526, by decide, by decide, by decide +kernel⟩
theorem ky_R_wrongResults : gY y_R_wrongResults b_R_wrongResults 9 (some (.boolean)) 1 := ⟨m_719, m_526, by decide, by decide, by decide +kernel⟩
theorem ky_R_faultOf : gY y_R_faultOf b_R_faultOf 9 (some (.int)) 2 := ⟨m_720, m_526, by decide, by decide, by decide +kernel⟩
theorem ky_R_catchFor : gY y_R_catchFor b_R_catchFor 7 none 1 := ⟨m_721, m_526, by decide, by decide, by decide +kernel⟩
theorem ky_R_say : gY y_R_say b_R_say 2 none 1 := ⟨m_722, m_526, by decide, by decide, by decide +kernel⟩
theorem ky_R_entry : gY y_R_entry b_R_entry 5 (some (.int)) 3 := ⟨m_723, m_526, by decide, by decide, by decide +kernel⟩
theorem ky_R_owner : gY y_R_owner b_R_owner 1 (some (.int)) 1 := ⟨m_724, m_526, by decide, by decide, by decide +kernel⟩
theorem ky_R_numberOf : gY y_R_numberOf b_R_numberOf 1 (some (.int)) 1 := ⟨m_725, m_526, by decide, by decide, by decide +kernel⟩
theorem ky_R_sayCode : gY y_R_sayCode b_R_sayCode 6 none 1 := ⟨m_726, m_526, by decide, by decide, by decide +kernel⟩
theorem ky_R_sayMethod : gY y_R_sayMethod b_R_sayMethod 6 none 1 := ⟨m_727, m_526, by decide, by decide, by decide +kernel⟩
theorem ky_R_unit : gY y_R_unit b_R_unit 5 none 1 := ⟨m_728, m_526, by decide, by decide, by decide +kernel⟩
theorem ky_R_poolBytes : gY y_R_poolBytes b_R_poolBytes 3 (some (.int)) 0 := ⟨m_729, m_526, by decide, by decide, by decide +kernel⟩
theorem ky_R_unitByte : gY y_R_unitByte b_R_unitByte 5 (some (.int)) 1 := ⟨m_730, m_526, by decide, by decide, by decide +kernel⟩
theorem ky_R_thrown : gY y_R_thrown b_R_thrown 1 (some (.int)) 0 := ⟨m_731, m_526, by decide, by decide, by decide +kernel⟩
theorem ky_R_loader : gY y_R_loader b_R_loader 2 (some (.int)) 1 := ⟨m_732, m_526, by decide, by decide, by decide +kernel⟩
theorem ky_R_type : gY y_R_type b_R_type 2 (some (.int)) 1 := ⟨m_733, m_526, by decide, by decide, by decide +kernel⟩
theorem ky_R_face : gY y_R_face b_R_face 5 (some (.int)) 4 := ⟨m_734, m_526, by decide, by decide, by decide +kernel⟩
theorem ky_R_extend : gY y_R_extend b_R_extend 5 (some (.boolean)) 2 := ⟨m_735, m_526, by decide, by decide, by decide +kernel⟩
theorem ky_R_method : gY y_R_method b_R_method 10 (some (.int)) 3 := ⟨m_736, m_526, by decide, by decide, by decide +kernel⟩
theorem ky_R_throwing : gY y_R_throwing b_R_throwing 6 (some (.boolean)) 3 := ⟨m_737, m_526, by decide, by decide, by decide +kernel⟩
theorem ky_R_object : gY y_R_object b_R_object 4 (some (.int)) 2 := ⟨m_738, m_526, by decide, by decide, by decide +kernel⟩
theorem ky_R_value : gY y_R_value b_R_value 3 (some (.long)) 2 := ⟨m_739, m_526, by decide, by decide, by decide +kernel⟩
theorem ky_R_below : gY y_R_below b_R_below 3 (some (.boolean)) 2 := ⟨m_740, m_526, by decide, by decide, by decide +kernel⟩
theorem ky_R_find : gY y_R_find b_R_find 5 (some (.int)) 3 := ⟨m_741, m_526, by decide, by decide, by decide +kernel⟩
theorem ky_R_cleaned : gY y_R_cleaned b_R_cleaned 4 (some (.int)) 1 := ⟨m_742, m_526, by decide, by decide, by decide +kernel⟩
theorem ky_R_stand : gY y_R_stand b_R_stand 7 (some (.int)) 2 := ⟨m_743, m_526, by decide, by decide, by decide +kernel⟩
theorem ky_R_fault : gY y_R_fault b_R_fault 1 (some (.int)) 0 := ⟨m_744, m_526, by decide, by decide, by decide +kernel⟩
theorem ky_R_isStand : gY y_R_isStand b_R_isStand 2 (some (.boolean)) 1 := ⟨m_745, m_526, by decide, by decide, by decide +kernel⟩
theorem ky_R_about : gY y_R_about b_R_about 3 (some (.int)) 2 := ⟨m_746, m_526, by decide, by decide, by decide +kernel⟩
theorem ky_R_told : gY y_R_told b_R_told 6 (some (.int)) 3 := ⟨m_747, m_526, by decide, by decide, by decide +kernel⟩
theorem ky_R_octet : gY y_R_octet b_R_octet 3 (some (.int)) 2 := ⟨m_748, m_526, by decide, by decide, by decide +kernel⟩
theorem ky_R_handler : gY y_R_handler b_R_handler 4 (some (.boolean)) 3 := ⟨m_749, m_526, by decide, by decide, by decide +kernel⟩
theorem ky_R_takesAs : gY y_R_takesAs b_R_takesAs 5 (some (.boolean)) 3 := ⟨m_750, m_526, by decide, by decide, by decide +kernel⟩
theorem ky_R_fit : gY y_R_fit b_R_fit 7 (some (.int)) 2 := ⟨m_751, m_526, by decide, by decide, by decide +kernel⟩
theorem ky_R_call : gY y_R_call b_R_call 13 (some (.int)) 5 := ⟨m_752, m_526, by decide, by decide, by decide +kernel⟩
theorem ky_R_outcome : gY y_R_outcome b_R_outcome 1 (some (.long)) 0 := ⟨m_753, m_526, by decide, by decide, by decide +kernel⟩
theorem ky_R_seen : gY y_R_seen b_R_seen 2 (some (.long)) 1 := ⟨m_754, m_526, by decide, by decide, by decide +kernel⟩
end
section
def xI : String := "java/lang/IndexOutOfBoundsException"
def xA : String := "java/lang/IllegalArgumentException"
def xUp : List String := ["java/lang/RuntimeException", "java/lang/Exception"]
def xT : String := "java/lang/Throwable"
def xSte : String := "[Ljava/lang/StackTraceElement;"
def xLs : String := "Ljava/util/List;"
def tok (w : Cond) : Bool := w.onTables && w.keepsFace
def XW : List Cond := (Bundle.ownAtoms "StandInMill" 204 xI xUp ++ Bundle.ownAtoms "StandInMill" 225 xA xUp).filter tok
def XS : List (Nat × String) := [(202, "no such loader, or no list of interfaces"), (223, "a fault"), (287, "no such class or method"), (293, "a parameter is no such object")]
def gLS (C n d : String) (A : Nat → Prop) (U : State) (H : Heap) : Prop := ∃ (c : ClassId) (k : Class) (i : Nat) (f : Field) (a : Nat) (cell : Cell), U.vm.findClass C = some c ∧ U.fieldFound? C n d = some (c, k, i, f) ∧ f.isStatic = true ∧ k.statics = some a ∧ H[a]? = some cell ∧ cell.vm.isStatics = true ∧ cell.cls = c ∧ f.slot < cell.slots.size ∧ k.staticTypes[f.slot]? = some f.type ∧ ¬ A a
theorem gLS.moved {C n d : String} {A : Nat → Prop} {u U : State} {H : Heap} (hvm : u.vm.Alike U.vm) (h : gLS C n d A u H) : gLS C n d A U H := by
  obtain ⟨c, k, i, f, a, cell, h0, h1, h2, h3, h4, h5, h6, h7, h8, h9⟩ := h
  obtain ⟨k', hi', he⟩ := State.fieldFound?_setVm hvm h1
  exact ⟨c, k', i, f, a, cell, by rw [hvm.findClass]; exact h0, hi', h2, by rw [he]; exact h3, h4, h5, h6, h7, by rw [he]; exact h8, h9⟩
theorem gLS.kept {C n d : String} {A : Nat → Prop} {U : State} {H H1 : Heap} (h : gLS C n d A U H) (hq : ∀ a : Nat, a < H.size → ¬ A a → H1[a]? = H[a]?) : gLS C n d A U H1 := by
  obtain ⟨c, k, i, f, a, cell, h0, h1, h2, h3, h4, h5, h6, h7, h8, h9⟩ := h
  exact ⟨c, k, i, f, a, cell, h0, h1, h2, h3, by rw [hq a (Array.getElem?_eq_some_iff.mp h4).1 h9]; exact h4, h5, h6, h7, h8, h9⟩
theorem gLS.of {C n d : String} {A : Nat → Prop} {args : Array Value} {s : State} (h : (Cond.laysStatic C n d).before args s = true) (hA : ∀ a : Nat, a < s.heap.size → ¬ A a) : gLS C n d A s s.heap := by
  obtain ⟨c, k, i, f, a, cell, h0, h1, h2, h3, h4, h5, h6, h7, h8⟩ := Cond.laysStatic_spec h
  exact ⟨c, k, i, f, a, cell, h0, h1, h2, h3, h4, h5, h6, h7, h8, hA a (Array.getElem?_eq_some_iff.mp h4).1⟩
theorem gLS.use {C n d : String} {A : Nat → Prop} {args : Array Value} {U : State} (h : gLS C n d A U U.heap) : (Cond.laysStatic C n d).before args U = true := by
  obtain ⟨c, k, i, f, a, cell, h0, h1, h2, h3, h4, h5, h6, h7, h8, h9⟩ := h
  simp [Cond.before, Cond.holds, Cond.value, h0, h1, h2, h3, h4, h5, h6, h7, h8]
def gX (G : gG) (U : State) : Prop := (∀ w ∈ XW, va_Nw w U) ∧ va_Zq xT "UNASSIGNED_STACK" xSte (gA G) U U.heap ∧ va_Zq xT "SUPPRESSED_SENTINEL" xLs (gA G) U U.heap ∧ (∀ q ∈ XS, ∃ a, vk_R "StandInMill" q.1 q.2 a U) ∧ gLS xT "UNASSIGNED_STACK" xSte (gA G) U U.heap ∧ gLS xT "SUPPRESSED_SENTINEL" xLs (gA G) U U.heap
theorem tok_warm {w : Cond} (hw : tok w = true) {s U : State} (hW : s.WarmedH U.vm) (h : va_Nw w s) : va_Nw w U := by
  simp only [tok, Bool.and_eq_true] at hw
  exact va_tabs hw.1 (rfl : (s.setVm U.vm).vm = U.vm) (Cond.before_shiftedFace (args := #[]) (State.Shifted.of_warmed hW) w hw.2 h)
theorem gX.moved {G : gG} {s U : State} (hW : s.WarmedH U.vm) (hh : ∀ q : Nat, q < s.heap.size → ¬ gA G q → U.heap[q]? = s.heap[q]?) (h : gX G s) : gX G U := by
  obtain ⟨h1, h2, h3, h4, h5, h6⟩ := h
  refine ⟨fun w hw => tok_warm (List.mem_filter.mp hw).2 hW (h1 w hw), va_Zq.moved hW.alike (h2.kept hh), va_Zq.moved hW.alike (h3.kept hh), fun q hq => ?_, gLS.moved hW.alike (h5.kept hh), gLS.moved hW.alike (h6.kept hh)⟩
  obtain ⟨a, ha⟩ := h4 q hq
  exact ⟨a, vk_R.warm hW ha⟩
theorem gX.same {G : gG} {s U : State} (e : s.vm = U.vm) (eh : U.heap = s.heap) (h : gX G s) : gX G U := by
  obtain ⟨h1, h2, h3, h4, h5, h6⟩ := h
  have hal : s.vm.Alike U.vm := by rw [← e]; exact Vm.Alike.refl _
  refine ⟨fun w hw => ?_, va_Zq.moved hal (by rw [eh]; exact h2), va_Zq.moved hal (by rw [eh]; exact h3), fun q hq => ?_, gLS.moved hal (by rw [eh]; exact h5), gLS.moved hal (by rw [eh]; exact h6)⟩
  · have ht := (List.mem_filter.mp hw).2
    simp only [tok, Bool.and_eq_true] at ht
    exact va_Nw.same ht.1 e (h1 w hw)
  · obtain ⟨a, ha⟩ := h4 q hq
    exact ⟨a, vk_R.same e.symm ha⟩
def FET (first : State) (o : Outcome) (t : State) (L : List Loc) (k n : Nat) : Prop := (∃ x, o = .threw x) ∧ first.WarmedH t.vm ∧ first.sameButNew ({ t with vm := first.vm } : State) L k n
def MetT (l : Launch) (y : MethodName) (ws : List Cond) (rm : Room) (Pc : Array Value → State → Prop) (Qc : Array Value → State → Outcome → State → Prop) (mc ms : Nat) (free : Addr → Prop) : Prop :=
  MetFree l y (headSpec ws rm) Pc (fun _ _ _ _ _ => True) (fun a st o t => Qc a st o t ∧ ∃ L, FET st o t L mc ms ∧ ∀ q ∈ L, free q.base)
def MQT (below : List Frame) (Qc : Array Value → State → Outcome → State → Prop) (a : Array Value) (s : State) (mc ms : Nat) (free : Addr → Prop) : State → Prop := fun t =>
  ∃ o, t.status = .running ∧ Ended t below o ∧ Qc a s o t ∧ ∃ L, FET s o t L mc ms ∧ ∀ q ∈ L, free q.base
theorem MetT.ofW {l : Launch} {y : MethodName} {ws ws' : List Cond} {rm : Room} {Pc : Array Value → State → Prop} {Qc : Array Value → State → Outcome → State → Prop} {mc ms : Nat} {free : Addr → Prop} {cc : ByteArray} {maxL : Nat} {ret : Option FieldType}
    (hy : plainName y.cls = true) (hw : ws = Cond.code y cc maxL ret :: ws')
    (body : ∀ p e s m args below meth c s₁, BodyLoose p l y (headSpec ws rm) cc maxL ret e s m args below meth c s₁ → c.maxLocals = maxL → c.exceptionTable.isEmpty = true → Pc args s →
      W p l e (headSpec ws rm).room s m args below meth c s.heap [] 0 0 (MQT below Qc args s mc ms free) (entryFrame m args maxL)) : MetT l y ws rm Pc Qc mc ms free := by
  refine MetFree.of_bodyS (code := cc) (maxLocals := maxL) (ret := ret) hy ?_ ?_
  · intro args s m h hn
    obtain ⟨meth, c, h1, h2, h3, h4, h5, h6, -, -⟩ := Cond.code_spec hn (atoms_spec (ws := ws) h _ (by rw [hw]; exact List.mem_cons_self))
    exact ⟨meth, c, h1, h2, h3, h4, h5, h6⟩
  · intro p e s m args below meth c s₁ B hml hP _
    have hh0 : s₁.heap = s.heap := by rw [B.state]; rfl
    have hco := atoms_spec (ws := ws) B.pre _ (by rw [hw]; exact List.mem_cons_self)
    obtain ⟨t, a1, o, b1, b2, b3⟩ := body p e s m args below meth c s₁ B hml (B.noHandlers hco) hP s₁ hh0 (Stand.of_body B)
    exact ⟨t, o, a1, b1, b2, ⟨b3.1, b3.2⟩⟩
def gQcT (G : gG) (cls : String) (S' : gS) (d' : gD) : Array Value → State → Outcome → State → Prop := fun _ st oc t => ∃ a, oc = .threw a ∧ gH G S' d' t.heap ∧ va_F (gA G) st t ∧ ∃ cell, t.heap[a]? = some cell ∧ cell.vm = .none ∧ st.vm.findClass cls = some cell.cls
def gQT (X : GX) (cls : String) (S' : gS) (d' : gD) (mc ms : Nat) : State → Prop := MQT (xb X) (gQcT (xG X) cls S' d') (xa X) (xs X) mc ms (gA (xG X))
def gPx (G : gG) (av : List gT) (S : gS) (d : gD) : Array Value → State → Prop := fun v U => gPc G av S d v U ∧ gX G U
def GT (l : Launch) (G : gG) (y : MethodName) (cc : ByteArray) (nL : Nat) (rt : Option FieldType) (nf nw mc ms : Nat) (av : List gT) (S : gS) (d : gD) (cls : String) (S' : gS) (d' : gD) : Prop :=
  MetT l y (Cond.code y cc nL rt :: WG) { frames := nf, locals := nw, cells := mc, slots := ms } (gPx G av S d) (gQcT G cls S' d') mc ms (gA G)
theorem gPx.blind {G : gG} {av : List gT} {S : gS} {d : gD} : FrameBlind (gPx G av S d) := fun a U g mk h => ⟨gPc.blind a U g mk h.1, gX.same (s := U) rfl rfl h.2⟩
theorem GT.of {l : Launch} {G : gG} {y : MethodName} {cc : ByteArray} {nL : Nat} {rt : Option FieldType} {nf nw mc ms : Nat} {av : List gT} {S : gS} {d : gD} {cls : String} {S' : gS} {d' : gD}
    (hy : plainName y.cls = true) (hlen : (tl av).length ≤ nL)
    (h : ∀ X : GX, xl X = l → xG X = G → xR X = { frames := nf, locals := nw, cells := mc, slots := ms } → gE X cc nL y.cls rt y.name nf nw → (xc X).exceptionTable.isEmpty = true → gX (xG X) (xs X) → gw X 0 0 (gQT X cls S' d' mc ms) S d 0 (tl av) []) : GT l G y cc nL rt nf nw mc ms av S d cls S' d' := by
  refine MetT.ofW (cc := cc) (maxL := nL) (ret := rt) hy rfl ?_
  intro p e s m args below meth c s₁ B hml het hv
  obtain ⟨⟨rfl, hH, hK, hz⟩, hX⟩ := hv
  have hx := B.exec
  have hb := B.bytes
  have hr := B.returns
  have hts := atoms_spec (ws := Cond.code y cc nL rt :: WG) B.pre
  have hown : s.vm.findClass y.cls = some m.cls := findClass_of_methodNamed B.named
  have hlocks := B.notSynchronized
  have hin : meth.name = y.name := (name_of_methodNamed B.named B.method).1
  rw [lg_entry_eq]
  have hl := lv_entry (av.map tv) (n := nL) (by rw [tl_len]; exact hlen)
  refine h (p, l, e, { frames := nf, locals := nw, cells := mc, slots := ms }, s, m, (av.map tv).toArray, below, meth, c, G) rfl rfl rfl ⟨hx, hb, hml, hown, fun w hw => hts w (List.mem_cons_of_mem _ hw), hK, hz, hlocks, hr, hin, rfl, rfl⟩ het hX _ s.heap [] ?_ hH va_S.rf
  refine ⟨hl.1.trans hml.symm, hl.2.1, fun i v hi => ?_⟩
  have h9 := tl_args av 0 i v hi
  rw [Nat.zero_add] at h9
  exact hl.2.2 (i, v) h9
theorem stand_rebase {p : Program} {l : Launch} {e : Env} {R : Room} {s : State} {m : MethodId} {args : Array Value} {below : List Frame} {meth : Method} {c : Code} {T : State} {locs : List Loc} {cells slots : Nat}
    (X : Stand p l e R s m args below meth c T locs cells slots) {H : Heap} {cell : Cell} (hH : T.heap = H.push cell) (hc : cells ≤ R.cells) (hs : slots ≤ R.slots) :
    Stand p l e { R with cells := 0, slots := 0 } { s with heap := H, slotsUsed := T.slotsUsed - cell.slots.size } m args below meth c T [] 1 cell.slots.size := by
  have hb := X.book
  have hr := X.room
  have hz := X.heapSize
  have hu := X.used
  have hsm := X.same
  have hfold : T.slotsUsed = H.foldl (fun n c => n + c.slots.size) 0 + cell.slots.size := by
    have h1 : T.slotsUsed = T.heap.foldl (fun n c => n + c.slots.size) 0 := by simpa [State.slotsTrue] using hb
    rw [h1, hH, Array.foldl_push]
  have hsz : T.heap.size = H.size + 1 := by rw [hH, Array.size_push]
  refine ⟨X.admits, X.cas, X.clock, X.frames, ?_, X.hears, X.method, X.code, X.here, X.tail, X.warmed, X.limits, X.bytes, ?_⟩
  · simp only [State.hasRoom, Bool.and_eq_true, decide_eq_true_eq] at hr ⊢
    refine ⟨⟨⟨hr.1.1.1, ?_⟩, ?_⟩, ?_⟩
    · show H.size + 0 ≤ _
      have := hr.1.1.2
      omega
    · show T.slotsUsed - cell.slots.size + 0 ≤ _
      have := hr.1.2
      omega
    · simp only [State.slotsTrue, beq_iff_eq]
      omega
  · obtain ⟨g1, g2, g3, g4, g5, g6⟩ := hsm
    refine ⟨?_, ?_, ?_, ?_, ?_, ?_⟩
    · have e1 : T.setVm s.vm = { s.setFrames (T.setVm s.vm).frames with heap := T.heap, slotsUsed := T.slotsUsed } := g1
      exact e1
    · show H.size ≤ T.heap.size; omega
    · show T.heap.size ≤ H.size + 1; omega
    · show T.slotsUsed = T.slotsUsed - cell.slots.size + ((T.heap.toList.drop H.size).map (·.slots.size)).sum
      have : (T.heap.toList.drop H.size) = [cell] := by rw [hH, Array.toList_push, ← Array.length_toList, List.drop_left]
      rw [this]
      simp only [List.map_cons, List.map_nil, List.sum_cons, List.sum_nil]
      omega
    · show ((T.heap.toList.drop H.size).map (·.slots.size)).sum ≤ cell.slots.size
      have : (T.heap.toList.drop H.size) = [cell] := by rw [hH, Array.toList_push, ← Array.length_toList, List.drop_left]
      rw [this]
      simp
    · intro a c0 h0
      have hlt : a < H.size := (Array.getElem?_eq_some_iff.mp h0).1
      refine ⟨c0, ?_, rfl, rfl, fun i _ => rfl⟩
      show T.heap[a]? = some c0
      rw [hH, Array.getElem?_push, if_neg (Nat.ne_of_lt hlt)]
      exact h0
end
section
theorem zq_ref {C n d : String} {A : Nat → Prop} {args : Array Value} {U : State} (h : va_Zq C n d A U U.heap) : (Cond.isRef (.static C n d)).before args U = true := by
  rcases h with h | ⟨t, h⟩
  · obtain ⟨cf, kf, fi, f, a, cell, h1, h2, h3, h4, h5, h6, h7, h8⟩ := h
    simp [Cond.before, Cond.holds, Cond.value, Term.eval, State.fieldNamed?, h1, h2, h4, h5, h6, h7]
  · obtain ⟨cf, kf, fi, f, a, cell, h1, h2, h3, h4, h5, h6, h7, h8⟩ := h
    simp [Cond.before, Cond.holds, Cond.value, Term.eval, State.fieldNamed?, h1, h2, h4, h5, h6, h7]
theorem same_kept {s t : State} {k n : Nat} (h : s.sameButNew t [] k n) {a : Nat} (ha : a < s.heap.size) : t.heap[a]? = s.heap[a]? := by
  have h0 : s.heap[a]? = some s.heap[a] := Array.getElem?_eq_getElem ha
  obtain ⟨c', h1, h2, h3, h4⟩ := h.2.2.2.2.2 a _ h0
  rw [h1, h0]
  congr 1
  rw [h2]
  have : c'.slots = s.heap[a].slots := by
    apply Array.ext_getElem?
    intro i
    exact h4 i (by simp)
  rw [this]
theorem g_ldcwS {p : Program} {l : Launch} {e : Env} {R : Room} {s : State} {m : MethodId} {args : Array Value} {below : List Frame} {meth : Method} {c : Code} {H : Heap} {locs : List Loc} {cells slots : Nat} {Q : State → Prop} {cc : ByteArray} {pc : Nat} {ls : Array Slot} {rest : List Value} (hexec : p.tables.exec = Jvm.exec) (hb : c.code = cc) {own tx : String} {index q : Nat} (hown : s.vm.findClass own = some m.cls) (hZ : vk_R own index tx q s) (hdg : decode cc pc = .ok (.ldc_w index, 3))
    (k : W p l e R s m args below meth c H locs cells slots Q (F0 m (pc + 3) ls (.ref q :: rest))) : W p l e R s m args below meth c H locs cells slots Q (F0 m pc ls rest) := by
  intro T hT X
  obtain ⟨t, a1, b1⟩ := k T hT X
  refine ⟨t, ?_, b1⟩
  obtain ⟨kc, cf, i, a', hk, hcf, hcp, -, hr, hev'⟩ := Cond.stringRef_spec hown hZ.1
  cases hZ.2.symm.trans hev'
  obtain ⟨k', hk', he⟩ := X.warmed.alike.2.2 _ _ hk
  have hr' : k'.resolved[index]? = some (some (.string q)) := by
    rcases X.warmed.entry hk hk' index with h | ⟨h, -⟩
    · rw [h]; exact hr
    · rw [hr] at h; cases h
  jvm_step X.here [hexec, hb, hdg, ldc_w.wp_string (e := e) (s := T) (f := F0 m pc ls rest) X.here.top hk' (by rw [he]; exact hcf) hcp hr']
  exact a1
def nZ (S : gS) : gS := (S.1, S.2.1, S.2.2.1, S.2.2.2 + 1)
section GT
variable {X : GX} {cells slots : Nat} {Q : State → Prop} {S : gS} {d : gD} {pc q : Nat} {lv : List (Option Value)} {st : List Value} {cc : ByteArray} {nL nf nw : Nat} {own nm : String} {rt : Option FieldType}
theorem gH.nZ {H H' : Heap} (hH : gH (xG X) S d H) (hz : H'.size = H.size + 1) (ho : ∀ q : Nat, q < H.size → H'[q]? = H[q]?) : gH (xG X) (nZ S) d H' := by
  refine ⟨by rw [hz, hH.1]; rfl, fun b hb => ?_⟩
  have hb' : sK S b ≠ 0 := hb
  obtain ⟨h1, h2⟩ := hH.2 b hb'
  have hlt := hH.lt hb'
  rw [← hH.1] at hlt
  exact ⟨h1, h2.kept (ho b hlt) rfl rfl (gV_congr rfl (fun _ => rfl) (fun _ => rfl) (fun _ => rfl))⟩
set_option maxHeartbeats 4000000 in
theorem g_throw {cls tx : String} {idN idC idS q1 q2 q3 q4 q5 mc ms : Nat} (hE : gE X cc nL "StandInMill" rt nm nf nw) (hX : gX (xG X) (xs X)) (htr : (xl X).stackTraces = false) (het : (xc X).exceptionTable.isEmpty = true)
    (hat : ∀ w ∈ Bundle.ownAtoms "StandInMill" idC cls xUp, w ∈ XW ∨ w = .isRef (.static xT "UNASSIGNED_STACK" xSte) ∨ w = .isRef (.static xT "SUPPRESSED_SENTINEL" xLs) ∨ w = .laysStatic xT "UNASSIGNED_STACK" xSte ∨ w = .laysStatic xT "SUPPRESSED_SENTINEL" xLs) (hfit : Bundle.fit cls = true)
    (hw1 : Cond.classLink "StandInMill" idN cls ∈ WG) (hw2 : Cond.instantiable cls 6 ∈ WG) (hw3 : Cond.initialized cls ∈ WG) (hsx : (idS, tx) ∈ XS) (hR : 6 ≤ nf ∧ 82 ≤ nw) (hc1 : cells + 1 ≤ (xR X).cells) (hs1 : slots + 6 ≤ (xR X).slots) (hm : cells + 1 = mc) (hs : slots + 6 = ms)
    (dn : dc cc pc (.new idN) 3 q1) (dd : dc cc q1 .dup 1 q2) (dl : dc cc q2 (.ldc idS) 2 q3 ∨ dc cc q2 (.ldc_w idS) 3 q3) (di : dc cc q3 (.invokespecial idC) 3 q4) (da : dc cc q4 .athrow 1 q5) :
    gw X cells slots (gQT X cls (nZ S) d mc ms) S d pc lv [] := by
  subst hm; subst hs
  obtain ⟨dn, rfl⟩ := dn
  obtain ⟨dd, rfl⟩ := dd
  obtain ⟨di, rfl⟩ := di
  obtain ⟨da, rfl⟩ := da
  intro ls H locs hl hH hS
  obtain ⟨cC, kC, hfc, hk, hkind, -, -, hn6⟩ := Cond.instantiable_spec (hE.wd _ hw2)
  refine W.newcK hE.ex hE.bt hE.ow (hE.wd _ hw1) (hE.wd _ hw2) (hE.wd _ hw3) rfl dn hc1 hs1 hfc hH.1 fun H1 kC' hkC e1 z1 o1 => ?_
  cases hk.symm.trans hkC
  refine lv_dup hE.ex hE.bt dd rfl ?_
  obtain ⟨sa, hsa⟩ := hX.2.2.2.1 (idS, tx) hsx
  have core : W (xp X) (xl X) (xe X) (xR X) (xs X) (xm X) (xa X) (xb X) (xM X) (xc X) H1 locs (cells + 1) (slots + 6) (gQT X cls (nZ S) d (cells + 1) (slots + 6)) (F0 (xm X) q3 ls [.ref sa, .ref (sZ S), .ref (sZ S)]) := by
    intro T hT X0
    have hpush : T.heap = H.push (blank cC kC) := by
      rw [hT]
      apply Array.ext_getElem?
      intro i
      rw [Array.getElem?_push]
      by_cases hi : i = H.size
      · rw [if_pos hi, hi, hH.1]; exact e1
      · rw [if_neg hi]
        by_cases hi2 : i < H.size
        · exact o1 i (by rw [← hH.1]; exact hi2)
        · have a1 : H1[i]? = none := by rw [Array.getElem?_eq_none_iff, z1, ← hH.1]; omega
          have a2 : H[i]? = none := by rw [Array.getElem?_eq_none_iff]; omega
          rw [a1, a2]
    have X1 := stand_rebase X0 hpush hc1 hs1
    have hb6 : (blank cC kC).slots.size = 6 := by simp [blank, hn6]
    generalize hsp : ({ xs X with heap := H, slotsUsed := T.slotsUsed - (blank cC kC).slots.size } : State) = sp at X1
    have hvm : sp.vm = (xs X).vm := by rw [← hsp]
    have hhp : sp.heap = H := by rw [← hsp]
    have hgx : gX (xG X) sp := gX.moved (s := xs X) (by rw [hvm]; exact State.WarmedH.refl _) (by rw [hhp]; exact hS.2.1) hX
    have hatoms : ∀ w ∈ Bundle.ownAtoms "StandInMill" idC cls xUp, w.before (xa X) sp = true := by
      intro w hw
      rcases hat w hw with h | h | h | h | h
      · have ht := (List.mem_filter.mp h).2
        simp only [tok, Bool.and_eq_true] at ht
        exact va_Nw.use ht.1 (hgx.1 w h)
      · rw [h]; exact zq_ref hgx.2.1
      · rw [h]; exact zq_ref hgx.2.2.1
      · rw [h]; exact hgx.2.2.2.2.1.use
      · rw [h]; exact hgx.2.2.2.2.2.use
    have htr' : (xe X).platform.stackTraces = false := by rw [X0.admits.platform]; exact htr
    have hzn : T.heap[sZ S]? = some (blank cC kC) := by rw [hT]; exact e1
    obtain ⟨U, hsteps, hrun, hend, hW, hsame, ce, hce, K⟩ := X1.ctorThrowS hE.ex htr' (own := "StandInMill") (cls := cls) (names := xUp) (ic := idC) (by rw [hvm]; exact hE.ow) hfit (by decide +kernel) hatoms
      (fun x hx => by cases hx) (cX := cC) (kX := kC) (by rw [hvm]; exact hfc) (by rw [hvm]; exact hk) hzn (by rw [hhp, hH.1]; exact Nat.le_refl _) (msg := .ref sa) rfl
      (g := F0 (xm X) q3 ls [.ref sa, .ref (sZ S), .ref (sZ S)]) rfl hl.1 rfl rfl (rest := []) rfl (by rw [hE.bt]; exact di) (by rw [hE.bt]; exact da) (covers_of_empty het _)
      (by show 2 + 3 < (xR X).frames; rw [hE.fr]; omega) (by show 2 * 0 + 1 + (13 * 3 + 42) ≤ (xR X).locals; rw [hE.lw]; omega) hE.lk
    have hUs : U.heap.size = H.size + 1 := by
      have h1 : U.heap.size ≤ sp.heap.size + 1 := hsame.2.2.1
      have h2 := (Array.getElem?_eq_some_iff.mp hce).1
      rw [hhp] at h1
      rw [← hH.1] at h2
      omega
    have hUo : ∀ q : Nat, q < H.size → U.heap[q]? = H[q]? := fun q hq => by
      have := same_kept hsame (a := q) (by rw [hhp]; exact hq)
      rw [hhp] at this
      exact this
    have hcecls : (xs X).vm.findClass cls = some ce.cls := by rw [← hvm]; exact K.cls
    have hce2 : ce.cls = cC := Option.some.inj (hcecls.symm.trans hfc)
    have hza : (xG X).2.2 ≤ sZ S := by rw [← hH.1]; exact Nat.le_trans hE.sz hS.1
    have hTs : T.heap.size = H.size + 1 := by rw [hpush, Array.size_push]
    have hTo : ∀ q : Nat, q < H.size → T.heap[q]? = H[q]? := fun q hq => by rw [hpush, Array.getElem?_push, if_neg (Nat.ne_of_lt hq)]
    have hused : T.slotsUsed = H.foldl (fun n c => n + c.slots.size) 0 + 6 := by
      have h1 : T.slotsUsed = T.heap.foldl (fun n c => n + c.slots.size) 0 := by simpa [State.slotsTrue] using X0.book
      rw [h1, hpush, Array.foldl_push, hb6]
    have h2 : (T.setVm (xs X).vm).sameButNew ({ U with vm := (xs X).vm } : State) ((List.range 6).map fun i => (⟨sZ S, i⟩ : Loc)) 0 0 := by
      obtain ⟨g1, g2, g3, g4, g5, g6⟩ := hsame
      refine ⟨?_, ?_, ?_, ?_, ?_, ?_⟩
      · have a1 := X0.same.1
        have a2 : ({ U with vm := (xs X).vm } : State) = { sp.setFrames U.frames with heap := U.heap, slotsUsed := U.slotsUsed } := by rw [← hvm]; exact g1
        have b1 : ({ U with vm := (xs X).vm } : State) = { (xs X).setFrames U.frames with heap := U.heap, slotsUsed := U.slotsUsed } := a2.trans (by rw [← hsp]; rfl)
        have b2 : ∀ FT F, ((xs X).setFrames FT).setFrames F = (xs X).setFrames F := fun FT F => by rw [State.setFrames_setFrames]
        refine b1.trans ?_
        rw [a1]
        exact (congrArg (fun z : State => ({ z with heap := U.heap, slotsUsed := U.slotsUsed } : State)) (b2 _ _)).symm
      · show T.heap.size ≤ U.heap.size; omega
      · show U.heap.size ≤ T.heap.size + 0; omega
      · show U.slotsUsed = T.slotsUsed + ((U.heap.toList.drop T.heap.size).map (·.slots.size)).sum
        have b1 : U.slotsUsed = sp.slotsUsed + ((U.heap.toList.drop sp.heap.size).map (·.slots.size)).sum := g4
        have b2 : sp.slotsUsed = T.slotsUsed - 6 := by rw [← hsp, hb6]
        have b3 : U.heap.toList.drop sp.heap.size = [ce] := by
          rw [hhp]
          apply List.ext_getElem?
          intro i
          rw [List.getElem?_drop, Array.getElem?_toList]
          cases i with
          | zero => rw [Nat.add_zero, hH.1, hce]; rfl
          | succ i =>
            have : U.heap[H.size + (i + 1)]? = none := by rw [Array.getElem?_eq_none_iff]; omega
            rw [this]; rfl
        have b4 : U.heap.toList.drop T.heap.size = [] := by
          rw [List.drop_eq_nil_iff, Array.length_toList]; omega
        rw [b1, b2, b3, b4]
        simp only [List.map_cons, List.map_nil, List.sum_cons, List.sum_nil, K.size]
        omega
      · show ((U.heap.toList.drop T.heap.size).map (·.slots.size)).sum ≤ 0
        have b4 : U.heap.toList.drop T.heap.size = [] := by
          rw [List.drop_eq_nil_iff, Array.length_toList]; omega
        rw [b4]; simp
      · refine fun (a : Nat) c0 (h0 : T.heap[a]? = some c0) => ?_
        have hlt : a < T.heap.size := (Array.getElem?_eq_some_iff.mp h0).1
        by_cases ha : a < H.size
        · refine ⟨c0, ?_, rfl, rfl, fun i _ => rfl⟩
          show U.heap[a]? = some c0
          rw [hUo a ha, ← hTo a ha, h0]
        · have haz : a = sZ S := by rw [← hH.1]; omega
          subst haz
          rw [hzn] at h0
          cases h0
          refine ⟨ce, hce, ?_, by rw [K.size, hb6], fun i hi => ?_⟩
          · have m1 := K.monitor
            have m2 := K.hash
            have m3 := K.vm
            obtain ⟨c1, c2, c3, c4, c5⟩ := ce
            simp only at hce2 m1 m2 m3
            subst hce2; subst m1; subst m2; subst m3
            rfl
          · have : ¬ i < 6 := fun h => hi (List.mem_map.mpr ⟨i, List.mem_range.mpr h, rfl⟩)
            rw [Array.getElem?_eq_none_iff.mpr (by rw [K.size]; omega), Array.getElem?_eq_none_iff.mpr (by rw [hb6]; omega)]
    refine ⟨U, hsteps, .threw (sZ S), hrun, hend, ⟨sZ S, rfl, hH.nZ hUs hUo, ⟨?_, ?_⟩, ce, hce, K.vm, hcecls⟩, locs ++ ((List.range 6).map fun i => (⟨sZ S, i⟩ : Loc)), ⟨⟨_, rfl⟩, by rw [← hsp] at hW; exact hW, X0.same.trans h2⟩, ?_⟩
    · exact Nat.le_trans hS.1 (by omega)
    · intro q h1 h2
      rw [hUo q (Nat.lt_of_lt_of_le h1 hS.1)]
      exact hS.2.1 q h1 h2
    · intro q hq
      rcases List.mem_append.mp hq with h | h
      · exact hS.2.2 q h
      · obtain ⟨i, -, rfl⟩ := List.mem_map.mp h
        exact hza
  rcases dl with ⟨dl, rfl⟩ | ⟨dl, rfl⟩
  · exact va_ldcS hE.ex hE.bt hE.ow hsa dl core
  · exact g_ldcwS hE.ex hE.bt hE.ow hsa dl core
end GT
end
section
theorem xat_1 : ∀ w ∈ Bundle.ownAtoms "StandInMill" 204 xI xUp, w ∈ XW ∨ w = .isRef (.static xT "UNASSIGNED_STACK" xSte) ∨ w = .isRef (.static xT "SUPPRESSED_SENTINEL" xLs) ∨ w = .laysStatic xT "UNASSIGNED_STACK" xSte ∨ w = .laysStatic xT "SUPPRESSED_SENTINEL" xLs := by
  intro w hw
  by_cases h : tok w = true
  · exact Or.inl (List.mem_filter.mpr ⟨List.mem_append_left _ hw, h⟩)
  · have h2 : ((Bundle.ownAtoms "StandInMill" 204 xI xUp).filter (fun w => !tok w)).all (fun w => decide (w = .isRef (.static xT "UNASSIGNED_STACK" xSte) ∨ w = .isRef (.static xT "SUPPRESSED_SENTINEL" xLs) ∨ w = .laysStatic xT "UNASSIGNED_STACK" xSte ∨ w = .laysStatic xT "SUPPRESSED_SENTINEL" xLs)) = true := by decide +kernel
    have h3 : w ∈ (Bundle.ownAtoms "StandInMill" 204 xI xUp).filter (fun w => !tok w) := List.mem_filter.mpr ⟨hw, by simpa using h⟩
    have h3 := of_decide_eq_true (List.all_eq_true.mp h2 w h3)
    exact Or.inr h3
theorem xat_2 : ∀ w ∈ Bundle.ownAtoms "StandInMill" 225 xA xUp, w ∈ XW ∨ w = .isRef (.static xT "UNASSIGNED_STACK" xSte) ∨ w = .isRef (.static xT "SUPPRESSED_SENTINEL" xLs) ∨ w = .laysStatic xT "UNASSIGNED_STACK" xSte ∨ w = .laysStatic xT "SUPPRESSED_SENTINEL" xLs := by
  intro w hw
  by_cases h : tok w = true
  · exact Or.inl (List.mem_filter.mpr ⟨List.mem_append_right _ hw, h⟩)
  · have h2 : ((Bundle.ownAtoms "StandInMill" 225 xA xUp).filter (fun w => !tok w)).all (fun w => decide (w = .isRef (.static xT "UNASSIGNED_STACK" xSte) ∨ w = .isRef (.static xT "SUPPRESSED_SENTINEL" xLs) ∨ w = .laysStatic xT "UNASSIGNED_STACK" xSte ∨ w = .laysStatic xT "SUPPRESSED_SENTINEL" xLs)) = true := by decide +kernel
    have h3 : w ∈ (Bundle.ownAtoms "StandInMill" 225 xA xUp).filter (fun w => !tok w) := List.mem_filter.mpr ⟨hw, by simpa using h⟩
    have h3 := of_decide_eq_true (List.all_eq_true.mp h2 w h3)
    exact Or.inr h3
theorem xs_202 : ((202 : Nat), "no such loader, or no list of interfaces") ∈ XS := List.mem_of_getElem? (i := 0) rfl
theorem xs_223 : ((223 : Nat), "a fault") ∈ XS := List.mem_of_getElem? (i := 1) rfl
theorem xs_287 : ((287 : Nat), "no such class or method") ∈ XS := List.mem_of_getElem? (i := 2) rfl
theorem xs_293 : ((293 : Nat), "a parameter is no such object") ∈ XS := List.mem_of_getElem? (i := 3) rfl
end
section
theorem gf_row {Q : Handler → Pre} {E : CtlPost} {e : Env} {d : Bool} {acts : List Action} {Z : State} {f : JFrame} {a : Addr} {x : ExceptionTableEntry} {t : List ExceptionTableEntry} {ct : ClassId} {cell : Cell} (hx : covers x f.pc = true) (h0 : x.catchType ≠ 0)
    (hl : Z.vm.ClassLinks e.platform f.method.cls x.catchType ct) (hcell : Z.heap[a]? = some cell) (hobj : ∀ k, cell.vm ≠ .statics k) (hk : ∃ k, Z.vm.classes[cell.cls]? = some k) (hc : ∃ k, Z.vm.classes[ct]? = some k) :
    wp (findHandler.go f a (x :: t)) Q E e d acts Z ↔ if Z.vm.assignable cell.cls ct = true then Q (.found x.handlerPc) d acts (Z.setVm (Z.vm.noted f.method.cls x.catchType (.cls ct))) else wp (findHandler.go f a t) Q E e d acts (Z.setVm (Z.vm.noted f.method.cls x.catchType (.cls ct))) := by
  simp only [covers] at hx
  obtain ⟨ha, ht⟩ := (resolveClass_links e.toSetting hl).op (op := VmOp.resolveClass f.method.cls x.catchType) rfl
  have hal : Z.vm.Alike (Z.vm.noted f.method.cls x.catchType (.cls ct)) := (Vm.Alike.refl Z.vm).noted _ _ _
  obtain ⟨k1, hk1⟩ := hk
  obtain ⟨k2, hk2⟩ := hc
  obtain ⟨k1', hk1', -⟩ := hal.2.2 _ _ hk1
  obtain ⟨k2', hk2', -⟩ := hal.2.2 _ _ hk2
  have has : (Z.vm.noted f.method.cls x.catchType (.cls ct)).assignable cell.cls ct = Z.vm.assignable cell.cls ct := by rw [hal.assignable]
  cases hq : Z.vm.assignable cell.cls ct <;> rw [hq] at has <;> simp [findHandler.go, hx, h0, ha, ht, hcell, hobj, hk1', hk2', has, VmOp.dirties, VmOp.acts]
def gF (e : Env) (Z : State) (f : JFrame) (a : Addr) (hp : Nat) (vm' : Vm) : Prop := ∀ (Q : Handler → Pre) (E : CtlPost) (d : Bool) (acts : List Action), wp (findHandler f a) Q E e d acts Z ↔ Q (.found hp) d acts (Z.setVm vm')
theorem gF.steps {tb : Tables} {e : Env} {T target : State} {g : JFrame} {c : Code} {below : List Frame} {a : Addr} (h : At T g.method c below) {hp : Nat} {vm' : Vm} (hf : gF e ((T.setTop g).pushFrame (.throwing a)) g a hp vm')
    (hrest : Steps tb e below ((T.setVm vm').setTop { g with pc := hp, stack := [.ref a] }) target) : Steps tb e below ((T.setTop g).pushFrame (.throwing a)) target := by
  obtain ⟨hgo, hw⟩ := h.throwing a
  refine Steps.head hgo hw ?_
  have hst : ∀ r : List Frame, (stepThrowing e ((T.setTop g).pushFrame (.throwing a)) a (.java g :: r)).Is ((((T.setTop g).pushFrame (.throwing a)).setVm vm').setFrames (.java { g with pc := hp, stack := [.ref a] } :: r)) [] := by
    intro r
    simp only [stepThrowing, searchFrame, vmDo]
    generalize hr : Sem.go _ e false [] ((T.setTop g).pushFrame (.throwing a)) = res
    obtain ⟨as, rfl, ha⟩ := Sem.eq_ok_of hr (a := Handler.found hp) (s' := ((T.setTop g).pushFrame (.throwing a)).setVm vm') (acts' := []) (by simp [hf _ _ _ _])
    exact ⟨rfl, ha⟩
  rw [stepThread_throwing (frames_entered h.top _), (hst _).1]
  obtain ⟨g₀, hg⟩ := Option.isSome_iff_exists.mp h.top
  obtain ⟨r, hr⟩ := State.topJava?_eq_some.mp hg
  have hr' : (T.setVm vm').frames = .java g₀ :: r := hr
  rw [State.setTop_of_frames _ hr'] at hrest
  have e1 : ∀ F G : List Frame, ((T.setFrames F).setVm vm').setFrames G = (T.setVm vm').setFrames G := fun F G => by
    show ((T.setVm vm').setFrames F).setFrames G = _
    rw [State.setFrames_setFrames]
  rw [hr, List.tail_cons, State.pushFrame, State.setTop_of_frames _ hr, State.setFrames_setFrames, e1]
  exact hrest
def gTab (c : Code) (x1 x2 : ExceptionTableEntry) (lo hi p1 p2 : Nat) : Prop := c.exceptionTable.toList = [x1, x2] ∧ (x1.startPc = lo ∧ x1.endPc = hi ∧ x1.handlerPc = p1 ∧ x1.catchType = 13) ∧ (x2.startPc = lo ∧ x2.endPc = hi ∧ x2.handlerPc = p2 ∧ x2.catchType = 15)
theorem gTab.of {c : Code} {lo hi p1 p2 : Nat} (h : c.exceptionTable.toList.map (fun h => (h.startPc, h.endPc, h.handlerPc, h.catchType)) = [(lo, hi, p1, 13), (lo, hi, p2, 15)]) : ∃ x1 x2, gTab c x1 x2 lo hi p1 p2 := by
  cases ht : c.exceptionTable.toList with
  | nil => rw [ht] at h; cases h
  | cons x1 r =>
    cases r with
    | nil => rw [ht] at h; simp at h
    | cons x2 r2 =>
      cases r2 with
      | nil =>
        rw [ht] at h
        simp only [List.map_cons, List.map_nil, List.cons.injEq, Prod.mk.injEq, and_true] at h
        exact ⟨x1, x2, ht, ⟨h.1.1, h.1.2.1, h.1.2.2.1, h.1.2.2.2⟩, ⟨h.2.1, h.2.2.1, h.2.2.2.1, h.2.2.2.2⟩⟩
      | cons x3 r3 => rw [ht] at h; simp at h
theorem gF.two {p : Program} {l : Launch} {e : Env} {R : Room} {s : State} {m : MethodId} {args : Array Value} {below : List Frame} {meth : Method} {c : Code} {T : State} {locs : List Loc} {cells slots : Nat} (X : Stand p l e R s m args below meth c T locs cells slots)
    {x1 x2 : ExceptionTableEntry} {lo hi p1 p2 : Nat} (ht : gTab c x1 x2 lo hi p1 p2) {g : JFrame} (hg : g.method = m) (hpc : lo ≤ g.pc ∧ g.pc < hi) (hown : s.vm.findClass "StandInMillLaw" = some m.cls)
    (hl1 : (Cond.classLink "StandInMillLaw" 13 xI).before args s = true) (hl2 : (Cond.classLink "StandInMillLaw" 15 xA).before args s = true) {a : Nat} {cell : Cell} (hcell : T.heap[a]? = some cell) (hvm : cell.vm = .none) {k0 : Class} (hk0 : s.vm.classes[cell.cls]? = some k0)
    {c1 c2 : ClassId} (hc1 : s.vm.findClass xI = some c1) (hc2 : s.vm.findClass xA = some c2) {hp : Nat} (hcase : (s.vm.assignable cell.cls c1 = true ∧ hp = p1) ∨ (s.vm.assignable cell.cls c1 = false ∧ s.vm.assignable cell.cls c2 = true ∧ hp = p2)) :
    ∃ vm', s.WarmedH vm' ∧ gF e ((T.setTop g).pushFrame (.throwing a)) g a hp vm' := by
  have hpl : e.platform.magicAccessors = ({} : Platform).magicAccessors := by rw [X.admits.platform]
  obtain ⟨t1, ht1, hcl1⟩ := Cond.classLink_spec hown hl1 e.platform hpl
  cases hc1.symm.trans ht1
  obtain ⟨t2, ht2, hcl2⟩ := Cond.classLink_spec hown hl2 e.platform hpl
  cases hc2.symm.trans ht2
  obtain ⟨htab, ⟨a1, a2, a3, a4⟩, ⟨b1, b2, b3, b4⟩⟩ := ht
  subst hg
  have cov1 : covers x1 g.pc = true := by simp [covers, a1, a2, hpc]
  have cov2 : covers x2 g.pc = true := by simp [covers, b1, b2, hpc]
  have hobj : ∀ k, cell.vm ≠ .statics k := fun k h => by rw [hvm] at h; cases h
  have hW0 : s.WarmedH ((T.setTop g).pushFrame (.throwing a)).vm := X.warmed
  have hm0 : ((T.setTop g).pushFrame (.throwing a)).vm.method? g.method = some meth := X.method'
  have hh0 : ((T.setTop g).pushFrame (.throwing a)).heap[a]? = some cell := hcell
  generalize (T.setTop g).pushFrame (.throwing a) = Z at hW0 hm0 hh0
  rw [← a4] at hcl1
  rw [← b4] at hcl2
  have hcs : ∀ (V : Vm), s.WarmedH V → ∀ {z : ClassId} {kz : Class}, s.vm.classes[z]? = some kz → ∃ k, V.classes[z]? = some k := fun V hV z kz hz => by
    obtain ⟨k', hk', -⟩ := hV.alike.2.2 _ _ hz
    exact ⟨k', hk'⟩
  obtain ⟨kt1, hkt1, -⟩ := Vm.findClass_spec hc1
  obtain ⟨kt2, hkt2, -⟩ := Vm.findClass_spec hc2
  obtain ⟨-, hW1, -⟩ := State.classEntry (e := e) hW0 hcl1
  rcases hcase with ⟨hy, rfl⟩ | ⟨hno, hy, rfl⟩
  · refine ⟨Z.vm.noted g.method.cls x1.catchType (.cls c1), hW1, fun Q E d acts => ?_⟩
    rw [W.findHandler_eq hm0 X.code, htab, gf_row cov1 (by rw [a4]; decide) (hW0.classLinks hcl1) hh0 hobj (hcs _ hW0 hk0) (hcs _ hW0 hkt1), if_pos (by rw [hW0.alike.assignable]; exact hy), a3]
  · obtain ⟨-, hW2, -⟩ := State.classEntry (e := e) hW1 hcl2
    refine ⟨(Z.vm.noted g.method.cls x1.catchType (.cls c1)).noted g.method.cls x2.catchType (.cls c2), hW2, fun Q E d acts => ?_⟩
    rw [W.findHandler_eq hm0 X.code, htab, gf_row cov1 (by rw [a4]; decide) (hW0.classLinks hcl1) hh0 hobj (hcs _ hW0 hk0) (hcs _ hW0 hkt1), if_neg (by rw [hW0.alike.assignable, hno]; decide)]
    rw [gf_row (Z := Z.setVm (Z.vm.noted g.method.cls x1.catchType (.cls c1))) cov2 (by rw [b4]; decide) (hW1.classLinks hcl2) hh0 hobj (hcs _ hW1 hk0) (hcs _ hW1 hkt2), if_pos (by show (Z.vm.noted g.method.cls x1.catchType (.cls c1)).assignable _ _ = true; rw [hW1.alike.assignable]; exact hy), b3]
    rfl
end
section
section GU
variable {X : GX} {cells slots : Nat} {Q : State → Prop} {S : gS} {d : gD} {pc q : Nat} {lv : List (Option Value)} {st : List Value} {cc : ByteArray} {nL nf nw : Nat} {own nm : String} {rt : Option FieldType}
set_option maxHeartbeats 4000000 in
theorem g_callVT {y : MethodName} {b2 : ByteArray} {n2 np nf2 nw2 mc ms idx : Nat} {r2 : Option FieldType} {av : List gT} {cls : String} {S' : gS} {d' : gD} {st0 : List Value} (rest : List Value) {a κ N : Nat} {C : String} {T0 : u_T} {ty : Nat → FieldType} {as : List gT} {x1 x2 : ExceptionTableEntry} {lo hi p1 p2 hp : Nat}
    (hE : gE X cc nL "StandInMillLaw" rt nm nf nw) (hX : gX (xG X) (xs X)) (hM : GT (xl X) (xG X) y b2 n2 r2 nf2 nw2 mc ms av S d cls S' d') (hY : gY y b2 n2 r2 np) (hR : nf2 + 1 ≤ nf ∧ 8 + (n2 + 11) + nw2 ≤ nw) (hav : av = .inr (.inr (some a)) :: as) (hC : gCl κ C T0 N ty) (hk : sK S a = κ)
    (hw : Cond.methodLink "StandInMillLaw" idx y ∈ WG) (hw2 : Cond.instanceMethod y ∈ WG) (hw3 : Cond.selects C y y ∈ WG) (hw4 : Cond.classLink "StandInMillLaw" 13 xI ∈ WG) (hw5 : Cond.classLink "StandInMillLaw" 15 xA ∈ WG) (hn : as.length = np) (dg : dc cc pc (.invokevirtual idx) 3 q)
    (hi0 : (as.map tv).reverse ++ va_rf (some a) :: rest = st0) (hcs : (rest.map fun v => v.category).sum ≤ 8) (hc1 : cells + mc ≤ (xR X).cells) (hs1 : slots + ms ≤ (xR X).slots) (htab : gTab (xc X) x1 x2 lo hi p1 p2) (hpc : lo ≤ pc ∧ pc < hi)
    (hcase : ∀ c1 c2 cx, (xs X).vm.findClass xI = some c1 → (xs X).vm.findClass xA = some c2 → (xs X).vm.findClass cls = some cx → ((xs X).vm.assignable cx c1 = true ∧ hp = p1) ∨ ((xs X).vm.assignable cx c1 = false ∧ (xs X).vm.assignable cx c2 = true ∧ hp = p2))
    (k : ∀ z : Nat, gw X (cells + mc) (slots + ms) Q S' d' hp lv [va_rf (some z)]) : gw X cells slots Q S d pc lv st0 := by
  subst hav; subst hi0
  obtain ⟨dg, rfl⟩ := dg
  intro ls H locs hl hH hS T hT X0
  have hPc : ∀ U : State, U.heap = H → (xs X).WarmedH U.vm → gPx (xG X) (.inr (.inr (some a)) :: as) S d ((.inr (.inr (some a)) :: as : List gT).map tv).toArray U := fun U hU hW => ⟨⟨rfl, by rw [hU]; exact hH, hE.kn.moved hW, by rw [hU]; exact Nat.le_trans hE.sz hS.1⟩, gX.moved hW (by rw [hU]; exact hS.2.1) hX⟩
  have hrc : ∃ cellB : Cell, H[a]? = some cellB ∧ cellB.vm.isStatics = false ∧ (xs X).vm.findClass C = some cellB.cls := by
    subst hk
    obtain ⟨h0, h50, hc, -⟩ := hC
    obtain ⟨-, hat⟩ := hH.2 a h0
    obtain ⟨r, h1, cell, q1, q2, q3, q4⟩ := hat.1 h50
    exact ⟨cell, q1, by rw [q3]; rfl, by rw [q2]; exact (hE.kn.1.1 _ _ hc).2.1⟩
  obtain ⟨cellB, hcB, hoB, hclB⟩ := hrc
  have hy : y.cls ≠ "java/lang/invoke/MethodHandle" ∧ y.cls ≠ "java/lang/invoke/VarHandle" := ⟨hY.2.2.1, hY.2.2.2.1⟩
  obtain ⟨mk, methM, hnamed, hmethM, hstM, habM⟩ := Cond.instanceMethod_spec (hE.wd _ hw2)
  obtain ⟨methM', cM, hmethM', -, -, -, -, -, -, hsigM⟩ := Cond.code_spec hnamed (hE.wd _ hY.1)
  cases hmethM.symm.trans hmethM'
  obtain ⟨c2, r2', m2, s1, s2, s3, s4, kP, hkP, hkPi⟩ := Cond.selects_spec (hE.wd _ hw3)
  cases hclB.symm.trans s1
  cases (State.methodFound?_of_named hnamed hy).symm.trans s2
  cases hnamed.symm.trans s3
  have hselP : selectMethod (xe X).platform (xs X).vm cellB.cls mk = .method mk := by rw [Launch.admits_selectMethod X0.admits]; exact s4
  obtain ⟨vm₁, X₁, hstep₁⟩ := X0.invokevirtual hE.ex hE.ow (hE.wd _ hw) hnamed hmethM hstM hkP hkPi hy (a := a) (cell := cellB) (by rw [hT]; exact hcB)
    (fun z h => by rw [h] at hoB; cases hoB) hselP hmethM habM hkP hkPi (g := F0 (xm X) pc ls ((as.map tv).reverse ++ va_rf (some a) :: rest)) rfl (argsL := as.map tv) (rest := rest) (by rw [List.length_map, hn]; exact g_sig hY _ hsigM) rfl (by rw [hE.bt]; exact dg)
  generalize hU : T.setVm vm₁ = U at X₁ hstep₁
  have hUh : U.heap = H := by rw [← hU]; exact hT
  have hnU : U.methodNamed? y = some mk := X₁.named hnamed
  have hcU : (Cond.code y b2 n2 r2).before #[] U = true := g_pay hE hY.1 _ List.mem_cons_self _ _ X₁.warmed
  obtain ⟨methY, cY, hmY, hcY, -, hlY, -, -, -, -⟩ := Cond.code_spec hnU hcU
  obtain ⟨kY, hkY, -⟩ := className_of_methodNamed hnU
  have hinitY : kY.init = .initialized := Cond.initialized_spec (findClass_of_methodNamed hnU) hkY (word_at (a' := #[]) X₁.warmed (WG_good _ hY.2.1) (hE.wd _ hY.2.1))
  have hAt : At U (F0 (xm X) pc ls rest).method (xc X) (xb X) := X₁.here
  have happ : (headSpec (Cond.code y b2 n2 r2 :: WG) { frames := nf2, locals := nw2, cells := mc, slots := ms }).appliesLoose y (xe X).platform (U.calling (F0 (xm X) pc ls rest) mk ((.inr (.inr (some a)) :: as : List gT).map tv).toArray) = true :=
    Spec.appliesLoose_calling (g := F0 (xm X) pc ls rest) hAt (by rw [hE.bt]; exact dg) hnU hkY hinitY
      (X₁.room_calling (g := F0 (xm X) pc ls rest) (R' := { frames := nf2, locals := nw2, cells := mc, slots := ms }) hl.1 hmY hcY (by rw [hE.fr]; exact hR.1) (by rw [hE.lw, hlY]; have := lv_room (m := xm X) (pc := pc) (ls := ls) (rest := rest) hcs; have := hR.2; show 2 * (F0 (xm X) pc ls rest).monitorRoom + (rest.map fun v => v.category).sum + _ + nw2 ≤ nw; omega) hc1 hs1)
      (atoms_intro fun w hw => g_pay hE hY.1 w hw _ _ X₁.warmed)
  obtain ⟨mid, hmid⟩ := hAt.above
  have hfr : (U.setTop (F0 (xm X) pc ls rest)).frames = (.java (F0 (xm X) pc ls rest) :: mid) ++ xb X := by rw [State.frames_setTop' _ hAt.top, hmid]; rfl
  have hM' : MetFree (xl X) y (headSpec (Cond.code y b2 n2 r2 :: WG) { frames := nf2, locals := nw2, cells := mc, slots := ms }) (gPx (xG X) (.inr (.inr (some a)) :: as) S d) (fun _ _ _ _ _ => True) (fun a st o t => gQcT (xG X) cls S' d' a st o t ∧ ∃ L, FET st o t L mc ms ∧ ∀ q ∈ L, gA (xG X) q.base) := hM
  obtain ⟨o, s₂, hsteps, -, hend, ⟨⟨z, rfl, hH', hF', cz, hcz, hczv, hczc⟩, L, ⟨-, hW₂, hsm⟩, hL⟩⟩ := Steps.callFree hM' (xp X) X₁.admits X₁.cas X₁.clock (acts := []) hfr happ (gPx.blind _ U _ _ (hPc U hUh X₁.warmed)) trivial
  have hend : s₂.frames = .throwing z :: (U.setTop (F0 (xm X) pc ls rest)).frames := hend
  rw [State.frames_setTop' _ hAt.top] at hend
  have hWU : U.WarmedH s₂.vm := hW₂
  obtain ⟨e2, q2, q3, q4, q5, q6⟩ := hsm
  have e2 : ({ s₂ with vm := (U.calling (F0 (xm X) pc ls rest) mk ((.inr (.inr (some a)) :: as : List gT).map tv).toArray).vm } : State) = { (U.calling (F0 (xm X) pc ls rest) mk ((.inr (.inr (some a)) :: as : List gT).map tv).toArray).setFrames s₂.frames with heap := s₂.heap, slotsUsed := s₂.slotsUsed } := e2
  have e3 : s₂ = ({ (U.calling (F0 (xm X) pc ls rest) mk ((.inr (.inr (some a)) :: as : List gT).map tv).toArray).setFrames s₂.frames with heap := s₂.heap, slotsUsed := s₂.slotsUsed } : State).setVm s₂.vm := by
    have : s₂ = ({ s₂ with vm := (U.calling (F0 (xm X) pc ls rest) mk ((.inr (.inr (some a)) :: as : List gT).map tv).toArray).vm } : State).setVm s₂.vm := rfl
    rw [e2] at this
    exact this
  obtain ⟨g₀, hg0⟩ := Option.isSome_iff_exists.mp hAt.top
  obtain ⟨r, hr⟩ := State.topJava?_eq_some.mp hg0
  generalize hB : ({ U with heap := s₂.heap, slotsUsed := s₂.slotsUsed } : State).setVm s₂.vm = B
  have hrB : B.frames = .java g₀ :: r := by rw [← hB]; exact hr
  have hs₂ : s₂ = (B.setTop (F0 (xm X) pc ls rest)).pushFrame (.throwing z) := by
    refine e3.trans ?_
    rw [hend, State.calling_eq hAt.top, State.setFrames_setFrames, State.pushFrame, State.frames_setTop _ hrB, State.setTop_of_frames _ hrB, State.setFrames_setFrames, ← hB, hr]
    rfl
  have hsame : U.sameButNew ({ U with heap := s₂.heap, slotsUsed := s₂.slotsUsed } : State) L mc ms := by
    refine ⟨?_, q2, q3, q4, q5, q6⟩
    obtain ⟨t, ht, -⟩ := State.frames_cons hr
    show ({ U with heap := s₂.heap, slotsUsed := s₂.slotsUsed } : State) = { U.setFrames U.frames with heap := s₂.heap, slotsUsed := s₂.slotsUsed }
    rw [State.setFrames_self ht]
  have XB : Stand (xp X) (xl X) (xe X) (xR X) (xs X) (xm X) (xa X) (xb X) (xM X) (xc X) B (locs ++ L) (cells + mc) (slots + ms) := by
    rw [← hB]
    exact X₁.moved ((hAt.setHeapUsed s₂.heap s₂.slotsUsed).setVm hWU.alike) X₁.tail rfl rfl hWU hsame
  have hBh : B.heap = s₂.heap := by rw [← hB]; rfl
  have hcx : (xs X).vm.findClass cls = some cz.cls := by
    have h1 : U.vm.findClass cls = some cz.cls := hczc
    rw [X₁.warmed.alike.findClass] at h1
    exact h1
  obtain ⟨t1, ht1, -⟩ := Cond.classLink_spec hE.ow (hE.wd _ hw4) (xe X).platform (by rw [X0.admits.platform])
  obtain ⟨t2, ht2, -⟩ := Cond.classLink_spec hE.ow (hE.wd _ hw5) (xe X).platform (by rw [X0.admits.platform])
  obtain ⟨kx, hkx, -⟩ := Vm.findClass_spec hcx
  obtain ⟨vm₂, hW3, hfind⟩ := gF.two XB htab (g := F0 (xm X) pc ls rest) rfl hpc hE.ow (hE.wd _ hw4) (hE.wd _ hw5) (a := z) (cell := cz) (by rw [hBh]; exact hcz) hczv hkx ht1 ht2 (hcase _ _ _ ht1 ht2 hcx)
  obtain ⟨t9, a9, b9⟩ := k z ls s₂.heap (locs ++ L) hl hH' ⟨Nat.le_trans hS.1 (by rw [← hUh]; exact hF'.1), fun x h1 h2 => by
      rw [hF'.2 x (by show x < U.heap.size; rw [hUh]; exact Nat.lt_of_lt_of_le h1 hS.1) h2]
      show U.heap[x]? = _
      rw [hUh]
      exact hS.2.1 x h1 h2, fun x hx => by
      rcases List.mem_append.mp hx with h | h
      · exact hS.2.2 x h
      · exact hL x h⟩ (B.setVm vm₂) hBh (XB.noted hW3)
  refine ⟨t9, hstep₁ _ (fun acts => ?_), b9⟩
  rw [doInvoke_state]
  refine hsteps.trans ?_
  rw [hs₂]
  exact gF.steps (g := F0 (xm X) pc ls rest) XB.here hfind a9
end GU
end
section
def GW (l : Launch) (G : gG) (y : MethodName) (cc : ByteArray) (nL : Nat) (rt : Option FieldType) (hh : List (Nat × Nat × Nat × Nat)) (nf nw mc ms : Nat) (av : List gT) (S : gS) (d : gD) (rv : Option Value) (S' : gS) (d' : gD) : Prop :=
  Met l y (Cond.codeWith y cc nL rt hh :: WG) { frames := nf, locals := nw, cells := mc, slots := ms } (gPx G av S d) (gQc G rv S' d') mc ms (gA G)
theorem GW.of {l : Launch} {G : gG} {y : MethodName} {cc : ByteArray} {nL : Nat} {rt : Option FieldType} {hh : List (Nat × Nat × Nat × Nat)} {nf nw mc ms : Nat} {av : List gT} {S : gS} {d : gD} {rv : Option Value} {S' : gS} {d' : gD}
    (hy : plainName y.cls = true) (hlen : (tl av).length ≤ nL)
    (h : ∀ X : GX, xl X = l → xG X = G → xR X = { frames := nf, locals := nw, cells := mc, slots := ms } → gE X cc nL y.cls rt y.name nf nw → gX (xG X) (xs X) → (xc X).exceptionTable.toList.map (fun h => (h.startPc, h.endPc, h.handlerPc, h.catchType)) = hh → gw X 0 0 (gQ X rv S' d' mc ms) S d 0 (tl av) []) : GW l G y cc nL rt hh nf nw mc ms av S d rv S' d' := by
  refine va_MetW (hh := hh) (cc := cc) (maxL := nL) (ret := rt) hy rfl ?_
  intro p e s m args below meth c s₁ B hml hv
  obtain ⟨⟨rfl, hH, hK, hz⟩, hX⟩ := hv
  have hx := B.exec
  have hb := B.bytes
  have hr := B.returns
  have hts := atoms_spec (ws := Cond.codeWith y cc nL rt hh :: WG) B.pre
  have hown : s.vm.findClass y.cls = some m.cls := findClass_of_methodNamed B.named
  have hlocks := B.notSynchronized
  have hin : meth.name = y.name := (name_of_methodNamed B.named B.method).1
  obtain ⟨m9, meth9, c9, hn9, hm9, hc9, -, -, htab, -⟩ := Cond.codeWith_spec (hts _ List.mem_cons_self)
  cases B.named.symm.trans hn9
  cases B.method.symm.trans hm9
  cases (Stand.of_body B).code.symm.trans hc9
  rw [lg_entry_eq]
  have hl := lv_entry (av.map tv) (n := nL) (by rw [tl_len]; exact hlen)
  refine h (p, l, e, { frames := nf, locals := nw, cells := mc, slots := ms }, s, m, (av.map tv).toArray, below, meth, c, G) rfl rfl rfl ⟨hx, hb, hml, hown, fun w hw => hts w (List.mem_cons_of_mem _ hw), hK, hz, hlocks, hr, hin, rfl, rfl⟩ hX htab _ s.heap [] ?_ hH va_S.rf
  refine ⟨hl.1.trans hml.symm, hl.2.1, fun i v hi => ?_⟩
  have h9 := tl_args av 0 i v hi
  rw [Nat.zero_add] at h9
  exact hl.2.2 (i, v) h9
section GV
variable {X : GX} {cells slots : Nat} {Q : State → Prop} {S : gS} {d : gD} {pc q : Nat} {lv : List (Option Value)} {st : List Value} {cc : ByteArray} {nL nf nw : Nat} {own nm : String} {rt : Option FieldType}
theorem g_callSW {y : MethodName} {b2 : ByteArray} {n2 np nf2 nw2 mc ms idx : Nat} {r2 : Option FieldType} {hh : List (Nat × Nat × Nat × Nat)} {av : List gT} {rv : Option Value} {S' : gS} {d' : gD} {st0 stk : List Value} (rest : List Value) (hE : gE X cc nL own rt nm nf nw) (hX : gX (xG X) (xs X)) (hM : GW (xl X) (xG X) y b2 n2 r2 hh nf2 nw2 mc ms av S d rv S' d')
    (hcw : Cond.codeWith y b2 n2 r2 hh ∈ WG) (hini : Cond.initialized y.cls ∈ WG) (hyd : y.cls ≠ "java/lang/invoke/MethodHandle" ∧ y.cls ≠ "java/lang/invoke/VarHandle" ∧ (parseMethodDescriptor y.desc).map (fun d => d.parameters.length) = some np) (hR : nf2 + 1 ≤ nf ∧ 8 + (n2 + 11) + nw2 ≤ nw) (hw : Cond.methodLink own idx y ∈ WG) (hw2 : Cond.static y ∈ WG) (hn : av.length = np) (dg : dc cc pc (.invokestatic idx) 3 q)
    (hi0 : (av.map tv).reverse ++ rest = st0) (ho0 : rv.toList ++ rest = stk) (hcs : (rest.map fun v => v.category).sum ≤ 8) (hc1 : cells + mc ≤ (xR X).cells) (hs1 : slots + ms ≤ (xR X).slots) (k : gw X (cells + mc) (slots + ms) Q S' d' q lv stk) : gw X cells slots Q S d pc lv st0 := by
  subst hi0; subst ho0
  obtain ⟨dg, rfl⟩ := dg
  refine g_ret (a := (av.map tv).toArray) (fun ls H locs hl hH hS => ?_) k
  have hPc : ∀ U : State, U.heap = H → (xs X).WarmedH U.vm → gPx (xG X) av S d (av.map tv).toArray U := fun U hU hW => ⟨⟨rfl, by rw [hU]; exact hH, hE.kn.moved hW, by rw [hU]; exact Nat.le_trans hE.sz hS.1⟩, gX.moved hW (by rw [hU]; exact hS.2.1) hX⟩
  have hpay : ∀ w ∈ Cond.codeWith y b2 n2 r2 hh :: WG, ∀ (a' : Array Value) (U : State), (xs X).WarmedH U.vm → w.before a' U = true := by
    intro w hw9 a' U hU
    have hw8 : w ∈ WG := by
      rcases List.mem_cons.mp hw9 with h | h
      · rw [h]; exact hcw
      · exact h
    exact word_at hU (WG_good w hw8) (hE.wd w hw8)
  have hK : Back (xl X) (xR X) (xp X) (xe X) (xb X) (xs X) (xa X) y 3 8 (PreOf (xR X) mc ms (gPx (xG X) av S d)) (PostOf (gQc (xG X) rv S' d') mc ms (gA (xG X))) :=
    va_backW (bytes := b2) (maxL := n2) (ret := r2) (hh := hh) hM gPx.blind rfl rfl (by rw [hE.fr]; exact hR.1) (by rw [hE.lw]; exact hR.2) hpay List.mem_cons_self (fun a' U hW => word_at hW (WG_good _ hini) (hE.wd _ hini))
  intro T hT X0
  obtain ⟨mk, methM, cM, hnamed, hmethM, -, -, -, -, -, -, hsigM⟩ := Cond.codeWith_spec (hE.wd _ hcw)
  have hstatic : methM.isStatic = true := Cond.static_spec hnamed hmethM (hE.wd _ hw2)
  obtain ⟨kP, hkP, -⟩ := className_of_methodNamed hnamed
  have hinitP : kP.init = .initialized := Cond.initialized_spec (findClass_of_methodNamed hnamed) hkP (hE.wd _ hini)
  have hlen : (av.map tv).length = methM.sig.parameters.length := by
    have h2 := hyd.2.2
    rw [hsigM] at h2
    rw [List.length_map, hn]
    exact (Option.some.inj h2).symm
  obtain ⟨vm₁, X₁, hstep₁⟩ := X0.invokestatic hE.ex hE.ow (hE.wd _ hw) hnamed hmethM hstatic hkP hinitP ⟨hyd.1, hyd.2.1⟩ (g := F0 (xm X) pc ls ((av.map tv).reverse ++ rest)) rfl (argsL := av.map tv) (rest := rest) hlen rfl (by rw [hE.bt]; exact dg)
  obtain ⟨v, ⟨U', l2, c2, s2⟩, X', ⟨g', mk', t, L, e1, e2, hq, h1, hL, h2, h3⟩, hsteps⟩ := hK (xm X) (xM X) (xc X) ⟨T.setVm vm₁, locs, cells, slots⟩ (F0 (xm X) pc ls rest) (.invokestatic idx) mk (av.map tv).toArray X₁ rfl hl.1 (by rw [hE.bt]; exact dg) (lv_room hcs) (X₁.named hnamed) ⟨hc1, hs1, hPc (T.setVm vm₁) hT X₁.warmed⟩
  dsimp only [Pt.U, Pt.locs, Pt.cells, Pt.slots] at X' e1 e2 h1 h2 h3 hsteps
  subst h1; subst h2; subst h3
  exact ⟨v, (T.setVm vm₁).calling g' mk' (av.map tv).toArray, t, U', L, hT, X', hL, e1, e2, hq, fun target h => hstep₁ _ fun acts => by rw [doInvoke_state]; exact hsteps.trans h⟩
theorem g_sld {b L : Nat} {f : Nat → Int32} {i : Int32} (hE : gE X cc nL own rt nm nf nw) (hXs : va_X b L f (xs X) (xs X).heap) (hb : b < (xs X).heap.size) (hbA : ¬ gA (xG X) b) (hin : vp_in i L) (dg : dc cc pc .iaload 1 q) (kk : ∀ x, f i.toNatClampNeg = x → gw X cells slots Q S d q lv (.int x :: st)) : gw X cells slots Q S d pc lv (.int i :: va_rf (some b) :: st) := by
  obtain ⟨dg, rfl⟩ := dg
  exact fun ls H locs hl hH hS => va_sld hE.ex hE.bt hXs hb hbA hS hin dg (kk _ rfl ls H locs hl hH hS)
theorem g_slen {b L : Nat} {f : Nat → Int32} (hE : gE X cc nL own rt nm nf nw) (hXs : va_X b L f (xs X) (xs X).heap) (hb : b < (xs X).heap.size) (hbA : ¬ gA (xG X) b) (dg : dc cc pc .arraylength 1 q) (kk : gw X cells slots Q S d q lv (.int (Int32.ofNat L) :: st)) : gw X cells slots Q S d pc lv (va_rf (some b) :: st) := by
  obtain ⟨dg, rfl⟩ := dg
  exact fun ls H locs hl hH hS => va_slen hE.ex hE.bt hXs hb hbA hS dg (kk ls H locs hl hH hS)
end GV
end
