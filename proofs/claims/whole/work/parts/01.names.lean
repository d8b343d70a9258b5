def fu : Nat := 6000
def F_M : u_T := fun k => match k with
  | 0 => ("StandInMill", "types", "LStandInMill$Types;", true)
  | 1 => ("StandInMill", "loaderParents", "[I", true)
  | 2 => ("StandInMill", "loaderCount", "I", false)
  | 3 => ("StandInMill", "faces", "[LStandInMill$Face;", true)
  | 4 => ("StandInMill", "faceCount", "I", false)
  | 5 => ("StandInMill", "objectTypes", "[I", true)
  | 6 => ("StandInMill", "objectValues", "[J", true)
  | 7 => ("StandInMill", "objectCount", "I", false)
  | 8 => ("StandInMill", "rootMethods", "[LStandInMill$OwnMethod;", true)
  | 9 => ("StandInMill", "stands", "[LStandInMill$StandIn;", true)
  | 10 => ("StandInMill", "standCount", "I", false)
  | 11 => ("StandInMill", "draft", "LStandInMill$Draft;", true)
  | 12 => ("StandInMill", "writer", "LStandInMill$UnitWriter;", true)
  | 13 => ("StandInMill", "gathered", "Z", false)
  | 14 => ("StandInMill", "latestFault", "I", false)
  | 15 => ("StandInMill", "latestOutcome", "J", false)
  | 16 => ("StandInMill", "given", "[J", true)
  | _ => ("StandInMill", "seenRow", "[J", true)
def t_M : Nat → FieldType := fun k => match k with
  | 0 => .object "StandInMill$Types"
  | 1 => .array (.int)
  | 2 => .int
  | 3 => .array (.object "StandInMill$Face")
  | 4 => .int
  | 5 => .array (.int)
  | 6 => .array (.long)
  | 7 => .int
  | 8 => .array (.object "StandInMill$OwnMethod")
  | 9 => .array (.object "StandInMill$StandIn")
  | 10 => .int
  | 11 => .object "StandInMill$Draft"
  | 12 => .object "StandInMill$UnitWriter"
  | 13 => .boolean
  | 14 => .int
  | 15 => .long
  | 16 => .array (.long)
  | _ => .array (.long)
def F_Rw : u_T := fun k => match k with
  | 0 => ("StandInMill$ClassRow", "classes", "[I", true)
  | _ => ("StandInMill$ClassRow", "size", "I", false)
def t_Rw : Nat → FieldType := fun k => match k with
  | 0 => .array (.int)
  | _ => .int
def F_Dr : u_T := fun k => match k with
  | 0 => ("StandInMill$Draft", "types", "LStandInMill$Types;", true)
  | 1 => ("StandInMill$Draft", "methods", "[LStandInMill$StandMethod;", true)
  | 2 => ("StandInMill$Draft", "size", "I", false)
  | _ => ("StandInMill$Draft", "soFar", "LStandInMill$ClassRow;", true)
def t_Dr : Nat → FieldType := fun k => match k with
  | 0 => .object "StandInMill$Types"
  | 1 => .array (.object "StandInMill$StandMethod")
  | 2 => .int
  | _ => .object "StandInMill$ClassRow"
def F_Fc : u_T := fun k => match k with
  | 0 => ("StandInMill$Face", "loader", "I", true)
  | 1 => ("StandInMill$Face", "name", "I", true)
  | 2 => ("StandInMill$Face", "pack", "I", true)
  | 3 => ("StandInMill$Face", "open", "Z", true)
  | 4 => ("StandInMill$Face", "parents", "[I", true)
  | 5 => ("StandInMill$Face", "parentCount", "I", false)
  | 6 => ("StandInMill$Face", "own", "[LStandInMill$OwnMethod;", true)
  | 7 => ("StandInMill$Face", "ownCount", "I", false)
  | 8 => ("StandInMill$Face", "all", "[LStandInMill$OwnMethod;", true)
  | _ => ("StandInMill$Face", "allCount", "I", false)
def t_Fc : Nat → FieldType := fun k => match k with
  | 0 => .int
  | 1 => .int
  | 2 => .int
  | 3 => .boolean
  | 4 => .array (.int)
  | 5 => .int
  | 6 => .array (.object "StandInMill$OwnMethod")
  | 7 => .int
  | 8 => .array (.object "StandInMill$OwnMethod")
  | _ => .int
def F_Om : u_T := fun k => match k with
  | 0 => ("StandInMill$OwnMethod", "owner", "I", true)
  | 1 => ("StandInMill$OwnMethod", "number", "I", true)
  | 2 => ("StandInMill$OwnMethod", "name", "I", true)
  | 3 => ("StandInMill$OwnMethod", "parameters", "I", true)
  | 4 => ("StandInMill$OwnMethod", "result", "I", true)
  | _ => ("StandInMill$OwnMethod", "thrown", "LStandInMill$ClassRow;", true)
def t_Om : Nat → FieldType := fun k => match k with
  | 0 => .int
  | 1 => .int
  | 2 => .int
  | 3 => .int
  | 4 => .int
  | _ => .object "StandInMill$ClassRow"
def F_Si : u_T := fun k => match k with
  | 0 => ("StandInMill$StandIn", "loader", "I", true)
  | 1 => ("StandInMill$StandIn", "listed", "I", true)
  | 2 => ("StandInMill$StandIn", "pack", "I", true)
  | 3 => ("StandInMill$StandIn", "number", "I", true)
  | 4 => ("StandInMill$StandIn", "methods", "[LStandInMill$StandMethod;", true)
  | 5 => ("StandInMill$StandIn", "unit", "[B", false)
  | 6 => ("StandInMill$StandIn", "handled", "I", false)
  | _ => ("StandInMill$StandIn", "throwing", "Z", false)
def t_Si : Nat → FieldType := fun k => match k with
  | 0 => .int
  | 1 => .int
  | 2 => .int
  | 3 => .int
  | 4 => .array (.object "StandInMill$StandMethod")
  | 5 => .array (.byte)
  | 6 => .int
  | _ => .boolean
def F_Sm : u_T := fun k => match k with
  | 0 => ("StandInMill$StandMethod", "source", "LStandInMill$OwnMethod;", false)
  | 1 => ("StandInMill$StandMethod", "thrown", "LStandInMill$ClassRow;", true)
  | _ => ("StandInMill$StandMethod", "caught", "LStandInMill$ClassRow;", true)
def t_Sm : Nat → FieldType := fun k => match k with
  | 0 => .object "StandInMill$OwnMethod"
  | 1 => .object "StandInMill$ClassRow"
  | _ => .object "StandInMill$ClassRow"
def F_Ty : u_T := fun k => match k with
  | 0 => ("StandInMill$Types", "aboves", "[J", true)
  | _ => ("StandInMill$Types", "nextClass", "I", false)
def t_Ty : Nat → FieldType := fun k => match k with
  | 0 => .array (.long)
  | _ => .int
def F_Uw : u_T := fun k => match k with
  | 0 => ("StandInMill$UnitWriter", "entryOf", "[I", true)
  | 1 => ("StandInMill$UnitWriter", "entryCount", "I", false)
  | 2 => ("StandInMill$UnitWriter", "pool", "[B", true)
  | 3 => ("StandInMill$UnitWriter", "poolSize", "I", false)
  | 4 => ("StandInMill$UnitWriter", "body", "[B", true)
  | _ => ("StandInMill$UnitWriter", "bodySize", "I", false)
def t_Uw : Nat → FieldType := fun k => match k with
  | 0 => .array (.int)
  | 1 => .int
  | 2 => .array (.byte)
  | 3 => .int
  | 4 => .array (.byte)
  | _ => .int
def F_R : u_T := fun k => match k with
  | 0 => ("StandInMillModel", "thrownCode", "I", false)
  | 1 => ("StandInMillModel", "loaders", "I", false)
  | 2 => ("StandInMillModel", "parentLoader", "[I", true)
  | 3 => ("StandInMillModel", "classes", "I", false)
  | 4 => ("StandInMillModel", "parentClass", "[I", true)
  | 5 => ("StandInMillModel", "faces", "I", false)
  | 6 => ("StandInMillModel", "faceLoader", "[I", true)
  | 7 => ("StandInMillModel", "faceName", "[I", true)
  | 8 => ("StandInMillModel", "facePack", "[I", true)
  | 9 => ("StandInMillModel", "faceOpen", "[Z", true)
  | 10 => ("StandInMillModel", "faceParents", "[I", true)
  | 11 => ("StandInMillModel", "parentCount", "[I", true)
  | 12 => ("StandInMillModel", "ownCount", "[I", true)
  | 13 => ("StandInMillModel", "name", "[I", true)
  | 14 => ("StandInMillModel", "result", "[I", true)
  | 15 => ("StandInMillModel", "takes", "[I", true)
  | 16 => ("StandInMillModel", "throwCount", "[I", true)
  | 17 => ("StandInMillModel", "throwsOf", "[I", true)
  | 18 => ("StandInMillModel", "objects", "I", false)
  | 19 => ("StandInMillModel", "objectType", "[I", true)
  | 20 => ("StandInMillModel", "objectValue", "[J", true)
  | 21 => ("StandInMillModel", "stands", "I", false)
  | 22 => ("StandInMillModel", "standLoader", "[I", true)
  | 23 => ("StandInMillModel", "standList", "[I", true)
  | 24 => ("StandInMillModel", "standPack", "[I", true)
  | 25 => ("StandInMillModel", "standNumber", "[I", true)
  | 26 => ("StandInMillModel", "handler", "[I", true)
  | 27 => ("StandInMillModel", "handlerThrows", "[Z", true)
  | 28 => ("StandInMillModel", "faultNow", "I", false)
  | 29 => ("StandInMillModel", "all", "[I", true)
  | 30 => ("StandInMillModel", "allCount", "[I", true)
  | 31 => ("StandInMillModel", "founds", "I", false)
  | 32 => ("StandInMillModel", "found", "[I", true)
  | 33 => ("StandInMillModel", "may", "[I", true)
  | 34 => ("StandInMillModel", "mayCount", "[I", true)
  | 35 => ("StandInMillModel", "before", "[I", true)
  | 36 => ("StandInMillModel", "order", "[I", true)
  | 37 => ("StandInMillModel", "caughts", "I", false)
  | 38 => ("StandInMillModel", "caught", "[I", true)
  | 39 => ("StandInMillModel", "behind", "[I", true)
  | 40 => ("StandInMillModel", "behinds", "I", false)
  | 41 => ("StandInMillModel", "pool", "[I", true)
  | 42 => ("StandInMillModel", "pools", "I", false)
  | 43 => ("StandInMillModel", "outcomeNow", "J", false)
  | 44 => ("StandInMillModel", "seenNow", "[J", true)
  | 45 => ("StandInMillModel", "argType", "[I", true)
  | _ => ("StandInMillModel", "argValue", "[J", true)
def t_R : Nat → FieldType := fun k => match k with
  | 0 => .int
  | 1 => .int
  | 2 => .array (.int)
  | 3 => .int
  | 4 => .array (.int)
  | 5 => .int
  | 6 => .array (.int)
  | 7 => .array (.int)
  | 8 => .array (.int)
  | 9 => .array (.boolean)
  | 10 => .array (.int)
  | 11 => .array (.int)
  | 12 => .array (.int)
  | 13 => .array (.int)
  | 14 => .array (.int)
  | 15 => .array (.int)
  | 16 => .array (.int)
  | 17 => .array (.int)
  | 18 => .int
  | 19 => .array (.int)
  | 20 => .array (.long)
  | 21 => .int
  | 22 => .array (.int)
  | 23 => .array (.int)
  | 24 => .array (.int)
  | 25 => .array (.int)
  | 26 => .array (.int)
  | 27 => .array (.boolean)
  | 28 => .int
  | 29 => .array (.int)
  | 30 => .array (.int)
  | 31 => .int
  | 32 => .array (.int)
  | 33 => .array (.int)
  | 34 => .array (.int)
  | 35 => .array (.int)
  | 36 => .array (.int)
  | 37 => .int
  | 38 => .array (.int)
  | 39 => .array (.int)
  | 40 => .int
  | 41 => .array (.int)
  | 42 => .int
  | 43 => .long
  | 44 => .array (.long)
  | 45 => .array (.int)
  | _ => .array (.long)
abbrev classes : List vw_C := [("StandInMill", F_M, 18), ("StandInMill$ClassRow", F_Rw, 2), ("StandInMill$Draft", F_Dr, 4), ("StandInMill$Face", F_Fc, 10), ("StandInMill$OwnMethod", F_Om, 6), ("StandInMill$StandIn", F_Si, 8), ("StandInMill$StandMethod", F_Sm, 3), ("StandInMill$Types", F_Ty, 2), ("StandInMill$UnitWriter", F_Uw, 6), ("StandInMillModel", F_R, 47)]
def srt (κ k : Nat) : Nat := match κ with
  | 1 => (match k with | 0 => 2 | 1 => 2 | 3 => 2 | 5 => 2 | 6 => 2 | 8 => 2 | 9 => 2 | 11 => 2 | 12 => 2 | 15 => 1 | 16 => 2 | 17 => 2 | _ => 0)
  | 2 => (match k with | 0 => 2 | _ => 0)
  | 3 => (match k with | 0 => 2 | 1 => 2 | 3 => 2 | _ => 0)
  | 4 => (match k with | 4 => 2 | 6 => 2 | 8 => 2 | _ => 0)
  | 5 => (match k with | 5 => 2 | _ => 0)
  | 6 => (match k with | 4 => 2 | 5 => 2 | _ => 0)
  | 7 => (match k with | 0 => 2 | 1 => 2 | 2 => 2 | _ => 0)
  | 8 => (match k with | 0 => 2 | _ => 0)
  | 9 => (match k with | 0 => 2 | 2 => 2 | 4 => 2 | _ => 0)
  | 10 => (match k with | 2 => 2 | 4 => 2 | 6 => 2 | 7 => 2 | 8 => 2 | 9 => 2 | 10 => 2 | 11 => 2 | 12 => 2 | 13 => 2 | 14 => 2 | 15 => 2 | 16 => 2 | 17 => 2 | 19 => 2 | 20 => 2 | 22 => 2 | 23 => 2 | 24 => 2 | 25 => 2 | 26 => 2 | 27 => 2 | 29 => 2 | 30 => 2 | 32 => 2 | 33 => 2 | 34 => 2 | 35 => 2 | 36 => 2 | 38 => 2 | 39 => 2 | 41 => 2 | 43 => 1 | 44 => 2 | 45 => 2 | 46 => 2 | _ => 0)
  | 51 => 1
  | 60 => 2
  | 61 => 2
  | 62 => 2
  | 63 => 2
  | _ => 0
def aks : List Nat := [50, 51, 52, 53, 60, 61, 62, 63]
def aty (κ : Nat) : FieldType := match κ with
  | 50 => .int
  | 51 => .long
  | 52 => .byte
  | 53 => .boolean
  | 60 => .object "StandInMill$Face"
  | 61 => .object "StandInMill$OwnMethod"
  | 62 => .object "StandInMill$StandIn"
  | 63 => .object "StandInMill$StandMethod"
  | _ => .int
def AOs : List String := ["StandInMill$Face", "StandInMill$OwnMethod", "StandInMill$StandIn", "StandInMill$StandMethod"]
def y_Ty_bit : MethodName := ⟨"StandInMill$Types", "bit", "(I)J"⟩
abbrev b_Ty_bit : ByteArray := prog_8_method_2_code
def y_Ty_init : MethodName := ⟨"StandInMill$Types", "<init>", "()V"⟩
abbrev b_Ty_init : ByteArray := prog_8_method_1_code
def y_Rw_init : MethodName := ⟨"StandInMill$ClassRow", "<init>", "(I)V"⟩
abbrev b_Rw_init : ByteArray := prog_2_method_1_code
def y_Dr_init : MethodName := ⟨"StandInMill$Draft", "<init>", "(LStandInMill$Types;)V"⟩
abbrev b_Dr_init : ByteArray := prog_3_method_1_code
def y_Uw_init : MethodName := ⟨"StandInMill$UnitWriter", "<init>", "()V"⟩
abbrev b_Uw_init : ByteArray := prog_9_method_1_code
def y_Om_init : MethodName := ⟨"StandInMill$OwnMethod", "<init>", "(IIIII)V"⟩
abbrev b_Om_init : ByteArray := prog_5_method_1_code
def y_Ar_fillJ : MethodName := ⟨"java/util/Arrays", "fill", "([JJ)V"⟩
abbrev b_Ar_fillJ : ByteArray := prog_19_method_101_code
def y_M_init : MethodName := ⟨"StandInMill", "<init>", "()V"⟩
abbrev b_M_init : ByteArray := prog_1_method_1_code
def y_M_isWithin : MethodName := ⟨"StandInMill", "isWithin", "(II)Z"⟩
abbrev b_M_isWithin : ByteArray := prog_1_method_21_code
def y_M_isLoader : MethodName := ⟨"StandInMill", "isLoader", "(I)Z"⟩
abbrev b_M_isLoader : ByteArray := prog_1_method_28_code
def y_M_loader : MethodName := ⟨"StandInMill", "loader", "(I)I"⟩
abbrev b_M_loader : ByteArray := prog_1_method_2_code
def y_Ty_isClass : MethodName := ⟨"StandInMill$Types", "isClass", "(I)Z"⟩
abbrev b_Ty_isClass : ByteArray := prog_8_method_6_code
def y_Ty_addClass : MethodName := ⟨"StandInMill$Types", "addClass", "(I)I"⟩
abbrev b_Ty_addClass : ByteArray := prog_8_method_3_code
def y_M_type : MethodName := ⟨"StandInMill", "type", "(I)I"⟩
abbrev b_M_type : ByteArray := prog_1_method_3_code
def y_M_faceMadeBy : MethodName := ⟨"StandInMill", "faceMadeBy", "(III)I"⟩
abbrev b_M_faceMadeBy : ByteArray := prog_1_method_35_code
def y_M_faceFoundBy : MethodName := ⟨"StandInMill", "faceFoundBy", "(III)I"⟩
abbrev b_M_faceFoundBy : ByteArray := prog_1_method_34_code
def y_Fc_init : MethodName := ⟨"StandInMill$Face", "<init>", "(IIIZ)V"⟩
abbrev b_Fc_init : ByteArray := prog_4_method_1_code
def y_Ty_addFace : MethodName := ⟨"StandInMill$Types", "addFace", "(I)V"⟩
abbrev b_Ty_addFace : ByteArray := prog_8_method_4_code
def y_M_face : MethodName := ⟨"StandInMill", "face", "(IIIZ)I"⟩
abbrev b_M_face : ByteArray := prog_1_method_4_code
def y_M_isFace : MethodName := ⟨"StandInMill", "isFace", "(I)Z"⟩
abbrev b_M_isFace : ByteArray := prog_1_method_29_code
def y_Fc_hasParent : MethodName := ⟨"StandInMill$Face", "hasParent", "(I)Z"⟩
abbrev b_Fc_hasParent : ByteArray := prog_4_method_2_code
def y_M_isVisible : MethodName := ⟨"StandInMill", "isVisible", "(II)Z"⟩
abbrev b_M_isVisible : ByteArray := prog_1_method_36_code
def y_Fc_addParent : MethodName := ⟨"StandInMill$Face", "addParent", "(I)V"⟩
abbrev b_Fc_addParent : ByteArray := prog_4_method_3_code
def y_Ty_isBelow : MethodName := ⟨"StandInMill$Types", "isBelow", "(II)Z"⟩
abbrev b_Ty_isBelow : ByteArray := prog_8_method_8_code
def y_Ty_putBelow : MethodName := ⟨"StandInMill$Types", "putBelow", "(II)V"⟩
abbrev b_Ty_putBelow : ByteArray := prog_8_method_5_code
def y_M_extend : MethodName := ⟨"StandInMill", "extend", "(II)Z"⟩
abbrev b_M_extend : ByteArray := prog_1_method_5_code
def y_M_byteOf : MethodName := ⟨"StandInMill", "byteOf", "(II)I"⟩
abbrev b_M_byteOf : ByteArray := prog_1_method_24_code
def y_M_cutAtZero : MethodName := ⟨"StandInMill", "cutAtZero", "(I)I"⟩
abbrev b_M_cutAtZero : ByteArray := prog_1_method_25_code
def y_M_isPlain : MethodName := ⟨"StandInMill", "isPlain", "(I)Z"⟩
abbrev b_M_isPlain : ByteArray := prog_1_method_22_code
def y_Ty_isThere : MethodName := ⟨"StandInMill$Types", "isThere", "(I)Z"⟩
abbrev b_Ty_isThere : ByteArray := prog_8_method_7_code
def y_M_isResult : MethodName := ⟨"StandInMill", "isResult", "(I)Z"⟩
abbrev b_M_isResult : ByteArray := prog_1_method_30_code
def y_M_lengthOf : MethodName := ⟨"StandInMill", "lengthOf", "(I)I"⟩
abbrev b_M_lengthOf : ByteArray := prog_1_method_26_code
def y_M_areParameters : MethodName := ⟨"StandInMill", "areParameters", "(I)Z"⟩
abbrev b_M_areParameters : ByteArray := prog_1_method_31_code
def y_Fc_hasOwn : MethodName := ⟨"StandInMill$Face", "hasOwn", "(II)Z"⟩
abbrev b_Fc_hasOwn : ByteArray := prog_4_method_4_code
def y_Fc_addOwn : MethodName := ⟨"StandInMill$Face", "addOwn", "(LStandInMill$OwnMethod;)V"⟩
abbrev b_Fc_addOwn : ByteArray := prog_4_method_5_code
def y_M_method : MethodName := ⟨"StandInMill", "method", "(III)I"⟩
abbrev b_M_method : ByteArray := prog_1_method_6_code
def y_Rw_has : MethodName := ⟨"StandInMill$ClassRow", "has", "(I)Z"⟩
abbrev b_Rw_has : ByteArray := prog_2_method_3_code
def y_Rw_add : MethodName := ⟨"StandInMill$ClassRow", "add", "(I)V"⟩
abbrev b_Rw_add : ByteArray := prog_2_method_4_code
def y_M_throwing : MethodName := ⟨"StandInMill", "throwing", "(III)Z"⟩
abbrev b_M_throwing : ByteArray := prog_1_method_7_code
def y_M_isBox : MethodName := ⟨"StandInMill", "isBox", "(I)Z"⟩
abbrev b_M_isBox : ByteArray := prog_1_method_23_code
def y_M_fitted : MethodName := ⟨"StandInMill", "fitted", "(IJ)J"⟩
abbrev b_M_fitted : ByteArray := prog_1_method_27_code
def y_M_object : MethodName := ⟨"StandInMill", "object", "(IJ)I"⟩
abbrev b_M_object : ByteArray := prog_1_method_8_code
def y_M_value : MethodName := ⟨"StandInMill", "value", "(II)J"⟩
abbrev b_M_value : ByteArray := prog_1_method_9_code
def y_M_below : MethodName := ⟨"StandInMill", "below", "(II)Z"⟩
abbrev b_M_below : ByteArray := prog_1_method_10_code
def y_M_find : MethodName := ⟨"StandInMill", "find", "(III)I"⟩
abbrev b_M_find : ByteArray := prog_1_method_11_code
def y_M_areFaces : MethodName := ⟨"StandInMill", "areFaces", "(I)Z"⟩
abbrev b_M_areFaces : ByteArray := prog_1_method_32_code
def y_M_standMadeFor : MethodName := ⟨"StandInMill", "standMadeFor", "(II)I"⟩
abbrev b_M_standMadeFor : ByteArray := prog_1_method_37_code
def y_M_areVisible : MethodName := ⟨"StandInMill", "areVisible", "(II)Z"⟩
abbrev b_M_areVisible : ByteArray := prog_1_method_40_code
def y_M_hasTwice : MethodName := ⟨"StandInMill", "hasTwice", "(I)Z"⟩
abbrev b_M_hasTwice : ByteArray := prog_1_method_41_code
def y_M_packageOf : MethodName := ⟨"StandInMill", "packageOf", "(I)I"⟩
abbrev b_M_packageOf : ByteArray := prog_1_method_43_code
def y_M_isInTwoPackages : MethodName := ⟨"StandInMill", "isInTwoPackages", "(I)Z"⟩
abbrev b_M_isInTwoPackages : ByteArray := prog_1_method_42_code
def y_M_faultOfList : MethodName := ⟨"StandInMill", "faultOfList", "(II)I"⟩
abbrev b_M_faultOfList : ByteArray := prog_1_method_38_code
def y_Fc_gather : MethodName := ⟨"StandInMill$Face", "gather", "(LStandInMill$OwnMethod;)V"⟩
abbrev b_Fc_gather : ByteArray := prog_4_method_8_code
def y_Fc_gatherOwn : MethodName := ⟨"StandInMill$Face", "gatherOwn", "()V"⟩
abbrev b_Fc_gatherOwn : ByteArray := prog_4_method_6_code
def y_Fc_gatherFrom : MethodName := ⟨"StandInMill$Face", "gatherFrom", "(LStandInMill$Face;)V"⟩
abbrev b_Fc_gatherFrom : ByteArray := prog_4_method_7_code
def y_M_gatherMethods : MethodName := ⟨"StandInMill", "gatherMethods", "()V"⟩
abbrev b_M_gatherMethods : ByteArray := prog_1_method_45_code
def y_Dr_clear : MethodName := ⟨"StandInMill$Draft", "clear", "()V"⟩
abbrev b_Dr_clear : ByteArray := prog_3_method_2_code
def y_Om_hasSignatureOf : MethodName := ⟨"StandInMill$OwnMethod", "hasSignatureOf", "(LStandInMill$OwnMethod;)Z"⟩
abbrev b_Om_hasSignatureOf : ByteArray := prog_5_method_2_code
def y_Rw_clear : MethodName := ⟨"StandInMill$ClassRow", "clear", "()V"⟩
abbrev b_Rw_clear : ByteArray := prog_2_method_5_code
def y_Rw_copyFrom : MethodName := ⟨"StandInMill$ClassRow", "copyFrom", "(LStandInMill$ClassRow;)V"⟩
abbrev b_Rw_copyFrom : ByteArray := prog_2_method_6_code
def y_Ty_isBelowOneOf : MethodName := ⟨"StandInMill$Types", "isBelowOneOf", "(ILStandInMill$ClassRow;)Z"⟩
abbrev b_Ty_isBelowOneOf : ByteArray := prog_8_method_9_code
def y_Ty_addBelow : MethodName := ⟨"StandInMill$Types", "addBelow", "(LStandInMill$ClassRow;LStandInMill$ClassRow;LStandInMill$ClassRow;)V"⟩
abbrev b_Ty_addBelow : ByteArray := prog_8_method_10_code
def y_Dr_narrow : MethodName := ⟨"StandInMill$Draft", "narrow", "(LStandInMill$ClassRow;LStandInMill$ClassRow;)V"⟩
abbrev b_Dr_narrow : ByteArray := prog_3_method_4_code
def y_Sm_init : MethodName := ⟨"StandInMill$StandMethod", "<init>", "()V"⟩
abbrev b_Sm_init : ByteArray := prog_7_method_1_code
def y_Dr_insert : MethodName := ⟨"StandInMill$Draft", "insert", "(ILStandInMill$OwnMethod;)V"⟩
abbrev b_Dr_insert : ByteArray := prog_3_method_5_code
def y_Dr_take : MethodName := ⟨"StandInMill$Draft", "take", "(LStandInMill$OwnMethod;)V"⟩
abbrev b_Dr_take : ByteArray := prog_3_method_3_code
def y_M_fillDraft : MethodName := ⟨"StandInMill", "fillDraft", "(I)V"⟩
abbrev b_M_fillDraft : ByteArray := prog_1_method_44_code
def y_Dr_endOfSignature : MethodName := ⟨"StandInMill$Draft", "endOfSignature", "(I)I"⟩
abbrev b_Dr_endOfSignature : ByteArray := prog_3_method_7_code
def y_Dr_isBelowAll : MethodName := ⟨"StandInMill$Draft", "isBelowAll", "(III)Z"⟩
abbrev b_Dr_isBelowAll : ByteArray := prog_3_method_9_code
def y_Dr_resultsAgreeWithin : MethodName := ⟨"StandInMill$Draft", "resultsAgreeWithin", "(II)Z"⟩
abbrev b_Dr_resultsAgreeWithin : ByteArray := prog_3_method_8_code
def y_Dr_resultsAgree : MethodName := ⟨"StandInMill$Draft", "resultsAgree", "()Z"⟩
abbrev b_Dr_resultsAgree : ByteArray := prog_3_method_6_code
def y_M_faultOfDraft : MethodName := ⟨"StandInMill", "faultOfDraft", "()I"⟩
abbrev b_M_faultOfDraft : ByteArray := prog_1_method_39_code
def y_M_standsOfPackage : MethodName := ⟨"StandInMill", "standsOfPackage", "(I)I"⟩
abbrev b_M_standsOfPackage : ByteArray := prog_1_method_47_code
def y_Si_init : MethodName := ⟨"StandInMill$StandIn", "<init>", "(IIIII)V"⟩
abbrev b_Si_init : ByteArray := prog_6_method_1_code
def y_Rw_at : MethodName := ⟨"StandInMill$ClassRow", "at", "(I)I"⟩
abbrev b_Rw_at : ByteArray := prog_2_method_2_code
def y_Ty_dropBelow : MethodName := ⟨"StandInMill$Types", "dropBelow", "(LStandInMill$ClassRow;I)V"⟩
abbrev b_Ty_dropBelow : ByteArray := prog_8_method_11_code
def y_Dr_fillCaught : MethodName := ⟨"StandInMill$Draft", "fillCaught", "(LStandInMill$StandMethod;)V"⟩
abbrev b_Dr_fillCaught : ByteArray := prog_3_method_11_code
def y_Dr_handOver : MethodName := ⟨"StandInMill$Draft", "handOver", "([LStandInMill$StandMethod;)V"⟩
abbrev b_Dr_handOver : ByteArray := prog_3_method_10_code
def y_M_madeOfDraft : MethodName := ⟨"StandInMill", "madeOfDraft", "(II)LStandInMill$StandIn;"⟩
abbrev b_M_madeOfDraft : ByteArray := prog_1_method_46_code
def y_Ar_fillI : MethodName := ⟨"java/util/Arrays", "fill", "([II)V"⟩
abbrev b_Ar_fillI : ByteArray := prog_19_method_103_code
def y_Uw_put : MethodName := ⟨"StandInMill$UnitWriter", "put", "(I)V"⟩
abbrev b_Uw_put : ByteArray := prog_9_method_14_code
def y_Uw_putInPool : MethodName := ⟨"StandInMill$UnitWriter", "putInPool", "(I)V"⟩
abbrev b_Uw_putInPool : ByteArray := prog_9_method_13_code
def y_Uw_putEntry : MethodName := ⟨"StandInMill$UnitWriter", "putEntry", "(III)Z"⟩
abbrev b_Uw_putEntry : ByteArray := prog_9_method_12_code
def y_Uw_putType : MethodName := ⟨"StandInMill$UnitWriter", "putType", "(I)V"⟩
abbrev b_Uw_putType : ByteArray := prog_9_method_10_code
def y_Uw_putTypes : MethodName := ⟨"StandInMill$UnitWriter", "putTypes", "(I)V"⟩
abbrev b_Uw_putTypes : ByteArray := prog_9_method_5_code
def y_Uw_putRow : MethodName := ⟨"StandInMill$UnitWriter", "putRow", "(LStandInMill$ClassRow;)V"⟩
abbrev b_Uw_putRow : ByteArray := prog_9_method_6_code
def y_Uw_putMethodEntry : MethodName := ⟨"StandInMill$UnitWriter", "putMethodEntry", "(LStandInMill$OwnMethod;)V"⟩
abbrev b_Uw_putMethodEntry : ByteArray := prog_9_method_11_code
def y_Om_parameterCount : MethodName := ⟨"StandInMill$OwnMethod", "parameterCount", "()I"⟩
abbrev b_Om_parameterCount : ByteArray := prog_5_method_3_code
def y_Uw_putParameterCode : MethodName := ⟨"StandInMill$UnitWriter", "putParameterCode", "(LStandInMill$OwnMethod;)V"⟩
abbrev b_Uw_putParameterCode : ByteArray := prog_9_method_8_code
def y_Uw_putResultCode : MethodName := ⟨"StandInMill$UnitWriter", "putResultCode", "(I)V"⟩
abbrev b_Uw_putResultCode : ByteArray := prog_9_method_9_code
def y_Uw_putCode : MethodName := ⟨"StandInMill$UnitWriter", "putCode", "(LStandInMill$OwnMethod;Z)V"⟩
abbrev b_Uw_putCode : ByteArray := prog_9_method_7_code
def y_Uw_putMethod : MethodName := ⟨"StandInMill$UnitWriter", "putMethod", "(LStandInMill$StandMethod;)V"⟩
abbrev b_Uw_putMethod : ByteArray := prog_9_method_4_code
def y_Uw_joined : MethodName := ⟨"StandInMill$UnitWriter", "joined", "()[B"⟩
abbrev b_Uw_joined : ByteArray := prog_9_method_3_code
def y_Uw_write : MethodName := ⟨"StandInMill$UnitWriter", "write", "(LStandInMill$StandIn;)[B"⟩
abbrev b_Uw_write : ByteArray := prog_9_method_2_code
def y_M_stand : MethodName := ⟨"StandInMill", "stand", "(II)I"⟩
abbrev b_M_stand : ByteArray := prog_1_method_12_code
def y_M_fault : MethodName := ⟨"StandInMill", "fault", "()I"⟩
abbrev b_M_fault : ByteArray := prog_1_method_13_code
def y_M_about : MethodName := ⟨"StandInMill", "about", "(II)I"⟩
abbrev b_M_about : ByteArray := prog_1_method_14_code
def y_M_hasMethod : MethodName := ⟨"StandInMill", "hasMethod", "(II)Z"⟩
abbrev b_M_hasMethod : ByteArray := prog_1_method_33_code
def y_M_told : MethodName := ⟨"StandInMill", "told", "(III)I"⟩
abbrev b_M_told : ByteArray := prog_1_method_15_code
def y_M_octet : MethodName := ⟨"StandInMill", "octet", "(II)I"⟩
abbrev b_M_octet : ByteArray := prog_1_method_16_code
def y_M_handler : MethodName := ⟨"StandInMill", "handler", "(IIZ)Z"⟩
abbrev b_M_handler : ByteArray := prog_1_method_17_code
def y_M_isObjectBelow : MethodName := ⟨"StandInMill", "isObjectBelow", "(JI)Z"⟩
abbrev b_M_isObjectBelow : ByteArray := prog_1_method_49_code
def y_M_takesGiven : MethodName := ⟨"StandInMill", "takesGiven", "(LStandInMill$OwnMethod;)Z"⟩
abbrev b_M_takesGiven : ByteArray := prog_1_method_48_code
def y_M_showObject : MethodName := ⟨"StandInMill", "showObject", "(II)V"⟩
abbrev b_M_showObject : ByteArray := prog_1_method_51_code
def y_M_showHandler : MethodName := ⟨"StandInMill", "showHandler", "(LStandInMill$OwnMethod;)V"⟩
abbrev b_M_showHandler : ByteArray := prog_1_method_50_code
def y_M_fitThrown : MethodName := ⟨"StandInMill", "fitThrown", "(LStandInMill$StandMethod;I)I"⟩
abbrev b_M_fitThrown : ByteArray := prog_1_method_53_code
def y_M_fitAnswer : MethodName := ⟨"StandInMill", "fitAnswer", "(II)I"⟩
abbrev b_M_fitAnswer : ByteArray := prog_1_method_52_code
def y_M_call : MethodName := ⟨"StandInMill", "call", "(IIJJJ)I"⟩
abbrev b_M_call : ByteArray := prog_1_method_18_code
def y_M_outcome : MethodName := ⟨"StandInMill", "outcome", "()J"⟩
abbrev b_M_outcome : ByteArray := prog_1_method_19_code
def y_M_seen : MethodName := ⟨"StandInMill", "seen", "(I)J"⟩
abbrev b_M_seen : ByteArray := prog_1_method_20_code
def y_R_init : MethodName := ⟨"StandInMillModel", "<init>", "()V"⟩
abbrev b_R_init : ByteArray := prog_11_method_1_code
def y_R_isClass : MethodName := ⟨"StandInMillModel", "isClass", "(I)Z"⟩
abbrev b_R_isClass : ByteArray := prog_11_method_2_code
def y_R_isFace : MethodName := ⟨"StandInMillModel", "isFace", "(I)Z"⟩
abbrev b_R_isFace : ByteArray := prog_11_method_3_code
def y_R_isPlain : MethodName := ⟨"StandInMillModel", "isPlain", "(I)Z"⟩
abbrev b_R_isPlain : ByteArray := prog_11_method_4_code
def y_R_isBox : MethodName := ⟨"StandInMillModel", "isBox", "(I)Z"⟩
abbrev b_R_isBox : ByteArray := prog_11_method_5_code
def y_R_there : MethodName := ⟨"StandInMillModel", "there", "(I)Z"⟩
abbrev b_R_there : ByteArray := prog_11_method_6_code
def y_R_isBelow : MethodName := ⟨"StandInMillModel", "isBelow", "(II)Z"⟩
abbrev b_R_isBelow : ByteArray := prog_11_method_7_code
def y_R_fitted : MethodName := ⟨"StandInMillModel", "fitted", "(IJ)J"⟩
abbrev b_R_fitted : ByteArray := prog_11_method_8_code
def y_R_madeBy : MethodName := ⟨"StandInMillModel", "madeBy", "(III)I"⟩
abbrev b_R_madeBy : ByteArray := prog_11_method_9_code
def y_R_finds : MethodName := ⟨"StandInMillModel", "finds", "(III)I"⟩
abbrev b_R_finds : ByteArray := prog_11_method_10_code
def y_R_visible : MethodName := ⟨"StandInMillModel", "visible", "(II)Z"⟩
abbrev b_R_visible : ByteArray := prog_11_method_11_code
def y_R_sameSignature : MethodName := ⟨"StandInMillModel", "sameSignature", "(II)Z"⟩
abbrev b_R_sameSignature : ByteArray := prog_11_method_12_code
def y_R_takesCount : MethodName := ⟨"StandInMillModel", "takesCount", "(I)I"⟩
abbrev b_R_takesCount : ByteArray := prog_11_method_13_code
def y_R_listMethods : MethodName := ⟨"StandInMillModel", "listMethods", "()V"⟩
abbrev b_R_listMethods : ByteArray := prog_11_method_14_code
def y_R_add : MethodName := ⟨"StandInMillModel", "add", "(I)V"⟩
abbrev b_R_add : ByteArray := prog_11_method_15_code
def y_R_belowOneOf : MethodName := ⟨"StandInMillModel", "belowOneOf", "(II)Z"⟩
abbrev b_R_belowOneOf : ByteArray := prog_11_method_16_code
def y_R_merge : MethodName := ⟨"StandInMillModel", "merge", "(II)V"⟩
abbrev b_R_merge : ByteArray := prog_11_method_17_code
def y_R_describe : MethodName := ⟨"StandInMillModel", "describe", "(I)V"⟩
abbrev b_R_describe : ByteArray := prog_11_method_18_code
def y_R_wrongResults : MethodName := ⟨"StandInMillModel", "wrongResults", "(I)Z"⟩
abbrev b_R_wrongResults : ByteArray := prog_11_method_19_code
def y_R_faultOf : MethodName := ⟨"StandInMillModel", "faultOf", "(II)I"⟩
abbrev b_R_faultOf : ByteArray := prog_11_method_20_code
def y_R_catchFor : MethodName := ⟨"StandInMillModel", "catchFor", "(I)V"⟩
abbrev b_R_catchFor : ByteArray := prog_11_method_21_code
def y_R_say : MethodName := ⟨"StandInMillModel", "say", "(I)V"⟩
abbrev b_R_say : ByteArray := prog_11_method_22_code
def y_R_entry : MethodName := ⟨"StandInMillModel", "entry", "(III)I"⟩
abbrev b_R_entry : ByteArray := prog_11_method_23_code
def y_R_owner : MethodName := ⟨"StandInMillModel", "owner", "(I)I"⟩
abbrev b_R_owner : ByteArray := prog_11_method_24_code
def y_R_numberOf : MethodName := ⟨"StandInMillModel", "numberOf", "(I)I"⟩
abbrev b_R_numberOf : ByteArray := prog_11_method_25_code
def y_R_sayCode : MethodName := ⟨"StandInMillModel", "sayCode", "(I)V"⟩
abbrev b_R_sayCode : ByteArray := prog_11_method_26_code
def y_R_sayMethod : MethodName := ⟨"StandInMillModel", "sayMethod", "(I)V"⟩
abbrev b_R_sayMethod : ByteArray := prog_11_method_27_code
def y_R_unit : MethodName := ⟨"StandInMillModel", "unit", "(I)V"⟩
abbrev b_R_unit : ByteArray := prog_11_method_28_code
def y_R_poolBytes : MethodName := ⟨"StandInMillModel", "poolBytes", "()I"⟩
abbrev b_R_poolBytes : ByteArray := prog_11_method_29_code
def y_R_unitByte : MethodName := ⟨"StandInMillModel", "unitByte", "(I)I"⟩
abbrev b_R_unitByte : ByteArray := prog_11_method_30_code
def y_R_thrown : MethodName := ⟨"StandInMillModel", "thrown", "()I"⟩
abbrev b_R_thrown : ByteArray := prog_11_method_31_code
def y_R_loader : MethodName := ⟨"StandInMillModel", "loader", "(I)I"⟩
abbrev b_R_loader : ByteArray := prog_11_method_32_code
def y_R_type : MethodName := ⟨"StandInMillModel", "type", "(I)I"⟩
abbrev b_R_type : ByteArray := prog_11_method_33_code
def y_R_face : MethodName := ⟨"StandInMillModel", "face", "(IIIZ)I"⟩
abbrev b_R_face : ByteArray := prog_11_method_34_code
def y_R_extend : MethodName := ⟨"StandInMillModel", "extend", "(II)Z"⟩
abbrev b_R_extend : ByteArray := prog_11_method_35_code
def y_R_method : MethodName := ⟨"StandInMillModel", "method", "(III)I"⟩
abbrev b_R_method : ByteArray := prog_11_method_36_code
def y_R_throwing : MethodName := ⟨"StandInMillModel", "throwing", "(III)Z"⟩
abbrev b_R_throwing : ByteArray := prog_11_method_37_code
def y_R_object : MethodName := ⟨"StandInMillModel", "object", "(IJ)I"⟩
abbrev b_R_object : ByteArray := prog_11_method_38_code
def y_R_value : MethodName := ⟨"StandInMillModel", "value", "(II)J"⟩
abbrev b_R_value : ByteArray := prog_11_method_39_code
def y_R_below : MethodName := ⟨"StandInMillModel", "below", "(II)Z"⟩
abbrev b_R_below : ByteArray := prog_11_method_40_code
def y_R_find : MethodName := ⟨"StandInMillModel", "find", "(III)I"⟩
abbrev b_R_find : ByteArray := prog_11_method_41_code
def y_R_cleaned : MethodName := ⟨"StandInMillModel", "cleaned", "(I)I"⟩
abbrev b_R_cleaned : ByteArray := prog_11_method_42_code
def y_R_stand : MethodName := ⟨"StandInMillModel", "stand", "(II)I"⟩
abbrev b_R_stand : ByteArray := prog_11_method_43_code
def y_R_fault : MethodName := ⟨"StandInMillModel", "fault", "()I"⟩
abbrev b_R_fault : ByteArray := prog_11_method_44_code
def y_R_isStand : MethodName := ⟨"StandInMillModel", "isStand", "(I)Z"⟩
abbrev b_R_isStand : ByteArray := prog_11_method_45_code
def y_R_about : MethodName := ⟨"StandInMillModel", "about", "(II)I"⟩
abbrev b_R_about : ByteArray := prog_11_method_46_code
def y_R_told : MethodName := ⟨"StandInMillModel", "told", "(III)I"⟩
abbrev b_R_told : ByteArray := prog_11_method_47_code
def y_R_octet : MethodName := ⟨"StandInMillModel", "octet", "(II)I"⟩
abbrev b_R_octet : ByteArray := prog_11_method_48_code
def y_R_handler : MethodName := ⟨"StandInMillModel", "handler", "(IIZ)Z"⟩
abbrev b_R_handler : ByteArray := prog_11_method_49_code
def y_R_takesAs : MethodName := ⟨"StandInMillModel", "takesAs", "(IIJ)Z"⟩
abbrev b_R_takesAs : ByteArray := prog_11_method_50_code
def y_R_fit : MethodName := ⟨"StandInMillModel", "fit", "(II)I"⟩
abbrev b_R_fit : ByteArray := prog_11_method_51_code
def y_R_call : MethodName := ⟨"StandInMillModel", "call", "(IIJJJ)I"⟩
abbrev b_R_call : ByteArray := prog_11_method_52_code
def y_R_outcome : MethodName := ⟨"StandInMillModel", "outcome", "()J"⟩
abbrev b_R_outcome : ByteArray := prog_11_method_53_code
def y_R_seen : MethodName := ⟨"StandInMillModel", "seen", "(I)J"⟩
abbrev b_R_seen : ByteArray := prog_11_method_54_code
def y_L_stand : MethodName := ⟨"StandInMillLaw", "stand", "(LStandInMill;II[J)I"⟩
abbrev b_L_stand : ByteArray := method_3_code
def y_L_call : MethodName := ⟨"StandInMillLaw", "call", "(LStandInMill;IIJJJ[J)I"⟩
abbrev b_L_call : ByteArray := method_4_code
def y_L_law : MethodName := ⟨"StandInMillLaw", "law", "([I)Z"⟩
abbrev b_L_law : ByteArray := code
def NWf : List (String × Nat × String × String × String × String) := [("StandInMill", 124, "StandInMill$Face", "loader", "I", "StandInMill"), ("StandInMill", 314, "StandInMill$Face", "name", "I", "StandInMill"), ("StandInMill", 315, "StandInMill$Face", "pack", "I", "StandInMill"), ("StandInMill", 121, "StandInMill$Face", "parentCount", "I", "StandInMill"), ("StandInMill$Face", 44, "StandInMill$OwnMethod", "name", "I", "StandInMill"), ("StandInMill$Face", 45, "StandInMill$OwnMethod", "parameters", "I", "StandInMill"), ("StandInMill", 150, "StandInMill$Face", "ownCount", "I", "StandInMill"), ("StandInMill", 163, "StandInMill$Face", "own", "[LStandInMill$OwnMethod;", "StandInMill"), ("StandInMill", 166, "StandInMill$OwnMethod", "thrown", "LStandInMill$ClassRow;", "StandInMill"), ("StandInMill", 175, "StandInMill$ClassRow", "size", "I", "StandInMill"), ("StandInMill", 248, "StandInMill$StandIn", "loader", "I", "StandInMill"), ("StandInMill", 316, "StandInMill$StandIn", "listed", "I", "StandInMill"), ("StandInMill", 336, "StandInMill$Face", "open", "Z", "StandInMill"), ("StandInMill$Face", 59, "StandInMill$OwnMethod", "owner", "I", "StandInMill"), ("StandInMill$Face", 62, "StandInMill$OwnMethod", "number", "I", "StandInMill"), ("StandInMill", 357, "StandInMill$Face", "parents", "[I", "StandInMill"), ("StandInMill$Types", 37, "StandInMill$ClassRow", "size", "I", "StandInMill"), ("StandInMill$Types", 42, "StandInMill$ClassRow", "classes", "[I", "StandInMill"), ("StandInMill$Draft", 34, "StandInMill$StandMethod", "source", "LStandInMill$OwnMethod;", "StandInMill"), ("StandInMill$Draft", 47, "StandInMill$StandMethod", "thrown", "LStandInMill$ClassRow;", "StandInMill"), ("StandInMill$Draft", 50, "StandInMill$OwnMethod", "thrown", "LStandInMill$ClassRow;", "StandInMill"), ("StandInMill$Draft", 44, "StandInMill$OwnMethod", "result", "I", "StandInMill"), ("StandInMill", 348, "StandInMill$Face", "allCount", "I", "StandInMill"), ("StandInMill", 351, "StandInMill$Face", "all", "[LStandInMill$OwnMethod;", "StandInMill"), ("StandInMill", 332, "StandInMill$Draft", "size", "I", "StandInMill"), ("StandInMill", 238, "StandInMill$StandIn", "pack", "I", "StandInMill"), ("StandInMill$Draft", 96, "StandInMill$StandMethod", "caught", "LStandInMill$ClassRow;", "StandInMill"), ("StandInMill$Draft", 105, "StandInMill$ClassRow", "size", "I", "StandInMill"), ("StandInMill", 244, "StandInMill$StandIn", "methods", "[LStandInMill$StandMethod;", "StandInMill"), ("StandInMill$UnitWriter", 109, "StandInMill$ClassRow", "size", "I", "StandInMill"), ("StandInMill$UnitWriter", 147, "StandInMill$OwnMethod", "owner", "I", "StandInMill"), ("StandInMill$UnitWriter", 150, "StandInMill$OwnMethod", "number", "I", "StandInMill"), ("StandInMill$UnitWriter", 89, "StandInMill$OwnMethod", "parameters", "I", "StandInMill"), ("StandInMill$UnitWriter", 92, "StandInMill$OwnMethod", "result", "I", "StandInMill"), ("StandInMill$UnitWriter", 74, "StandInMill$StandMethod", "source", "LStandInMill$OwnMethod;", "StandInMill"), ("StandInMill$UnitWriter", 80, "StandInMill$OwnMethod", "name", "I", "StandInMill"), ("StandInMill$UnitWriter", 98, "StandInMill$StandMethod", "thrown", "LStandInMill$ClassRow;", "StandInMill"), ("StandInMill$UnitWriter", 106, "StandInMill$StandMethod", "caught", "LStandInMill$ClassRow;", "StandInMill"), ("StandInMill$UnitWriter", 38, "StandInMill$StandIn", "pack", "I", "StandInMill"), ("StandInMill$UnitWriter", 47, "StandInMill$StandIn", "number", "I", "StandInMill"), ("StandInMill$UnitWriter", 50, "StandInMill$StandIn", "listed", "I", "StandInMill"), ("StandInMill$UnitWriter", 56, "StandInMill$StandIn", "methods", "[LStandInMill$StandMethod;", "StandInMill"), ("StandInMill", 234, "StandInMill$StandIn", "unit", "[B", "StandInMill"), ("StandInMill", 241, "StandInMill$StandIn", "number", "I", "StandInMill"), ("StandInMill", 252, "StandInMill$StandMethod", "source", "LStandInMill$OwnMethod;", "StandInMill"), ("StandInMill", 265, "StandInMill$OwnMethod", "name", "I", "StandInMill"), ("StandInMill", 268, "StandInMill$OwnMethod", "result", "I", "StandInMill"), ("StandInMill", 271, "StandInMill$OwnMethod", "parameters", "I", "StandInMill"), ("StandInMill", 277, "StandInMill$OwnMethod", "owner", "I", "StandInMill"), ("StandInMill", 280, "StandInMill$OwnMethod", "number", "I", "StandInMill"), ("StandInMill", 264, "StandInMill$StandMethod", "thrown", "LStandInMill$ClassRow;", "StandInMill"), ("StandInMill", 258, "StandInMill$StandMethod", "caught", "LStandInMill$ClassRow;", "StandInMill"), ("StandInMill", 281, "StandInMill$StandIn", "handled", "I", "StandInMill"), ("StandInMill", 284, "StandInMill$StandIn", "throwing", "Z", "StandInMill")]
def NWm : List (String × Nat × MethodName × String) := [("StandInMill", 56, y_Uw_init, "StandInMill"), ("StandInMill$Types", 34, y_M_isWithin, "StandInMill"), ("StandInMill$Types", 31, y_M_isPlain, "StandInMill"), ("StandInMill$Draft", 72, y_Sm_init, "StandInMill"), ("StandInMill$Draft", 81, y_M_isPlain, "StandInMill"), ("StandInMill$ClassRow", 19, y_M_isWithin, "StandInMill"), ("StandInMill$UnitWriter", 118, y_M_lengthOf, "StandInMill"), ("StandInMill$UnitWriter", 122, y_M_byteOf, "StandInMill"), ("StandInMill$OwnMethod", 36, y_M_lengthOf, "StandInMill"), ("StandInMill$UnitWriter", 143, y_M_isPlain, "StandInMill")]
def NW : List Cond := NWf.map (fun q => .fieldLinkNest q.1 q.2.1 q.2.2.1 q.2.2.2.1 q.2.2.2.2.1 q.2.2.2.2.2) ++ NWm.map (fun q => .methodLinkNest q.1 q.2.1 q.2.2.1 q.2.2.2)
theorem NW_form : ∀ w ∈ NW, (∃ a i b n dd q, w = .fieldLinkNest a i b n dd q) ∨ (∃ a i x q, w = .methodLinkNest a i x q) := by
  intro w hw
  rcases List.mem_append.mp hw with h | h
  · obtain ⟨q, -, rfl⟩ := List.mem_map.mp h
    exact Or.inl ⟨_, _, _, _, _, _, rfl⟩
  · obtain ⟨q, -, rfl⟩ := List.mem_map.mp h
    exact Or.inr ⟨_, _, _, _, rfl⟩
theorem nf_0 : Cond.fieldLinkNest "StandInMill" 124 "StandInMill$Face" "loader" "I" "StandInMill" ∈ NW := List.mem_append_left _ (List.mem_map.mpr ⟨_, List.mem_of_getElem? (i := 0) rfl, rfl⟩)
theorem nf_1 : Cond.fieldLinkNest "StandInMill" 314 "StandInMill$Face" "name" "I" "StandInMill" ∈ NW := List.mem_append_left _ (List.mem_map.mpr ⟨_, List.mem_of_getElem? (i := 1) rfl, rfl⟩)
theorem nf_2 : Cond.fieldLinkNest "StandInMill" 315 "StandInMill$Face" "pack" "I" "StandInMill" ∈ NW := List.mem_append_left _ (List.mem_map.mpr ⟨_, List.mem_of_getElem? (i := 2) rfl, rfl⟩)
theorem nf_3 : Cond.fieldLinkNest "StandInMill" 121 "StandInMill$Face" "parentCount" "I" "StandInMill" ∈ NW := List.mem_append_left _ (List.mem_map.mpr ⟨_, List.mem_of_getElem? (i := 3) rfl, rfl⟩)
theorem nf_4 : Cond.fieldLinkNest "StandInMill$Face" 44 "StandInMill$OwnMethod" "name" "I" "StandInMill" ∈ NW := List.mem_append_left _ (List.mem_map.mpr ⟨_, List.mem_of_getElem? (i := 4) rfl, rfl⟩)
theorem nf_5 : Cond.fieldLinkNest "StandInMill$Face" 45 "StandInMill$OwnMethod" "parameters" "I" "StandInMill" ∈ NW := List.mem_append_left _ (List.mem_map.mpr ⟨_, List.mem_of_getElem? (i := 5) rfl, rfl⟩)
theorem nf_6 : Cond.fieldLinkNest "StandInMill" 150 "StandInMill$Face" "ownCount" "I" "StandInMill" ∈ NW := List.mem_append_left _ (List.mem_map.mpr ⟨_, List.mem_of_getElem? (i := 6) rfl, rfl⟩)
theorem nf_7 : Cond.fieldLinkNest "StandInMill" 163 "StandInMill$Face" "own" "[LStandInMill$OwnMethod;" "StandInMill" ∈ NW := List.mem_append_left _ (List.mem_map.mpr ⟨_, List.mem_of_getElem? (i := 7) rfl, rfl⟩)
theorem nf_8 : Cond.fieldLinkNest "StandInMill" 166 "StandInMill$OwnMethod" "thrown" "LStandInMill$ClassRow;" "StandInMill" ∈ NW := List.mem_append_left _ (List.mem_map.mpr ⟨_, List.mem_of_getElem? (i := 8) rfl, rfl⟩)
theorem nf_9 : Cond.fieldLinkNest "StandInMill" 175 "StandInMill$ClassRow" "size" "I" "StandInMill" ∈ NW := List.mem_append_left _ (List.mem_map.mpr ⟨_, List.mem_of_getElem? (i := 9) rfl, rfl⟩)
theorem nf_10 : Cond.fieldLinkNest "StandInMill" 248 "StandInMill$StandIn" "loader" "I" "StandInMill" ∈ NW := List.mem_append_left _ (List.mem_map.mpr ⟨_, List.mem_of_getElem? (i := 10) rfl, rfl⟩)
theorem nf_11 : Cond.fieldLinkNest "StandInMill" 316 "StandInMill$StandIn" "listed" "I" "StandInMill" ∈ NW := List.mem_append_left _ (List.mem_map.mpr ⟨_, List.mem_of_getElem? (i := 11) rfl, rfl⟩)
theorem nf_12 : Cond.fieldLinkNest "StandInMill" 336 "StandInMill$Face" "open" "Z" "StandInMill" ∈ NW := List.mem_append_left _ (List.mem_map.mpr ⟨_, List.mem_of_getElem? (i := 12) rfl, rfl⟩)
theorem nf_13 : Cond.fieldLinkNest "StandInMill$Face" 59 "StandInMill$OwnMethod" "owner" "I" "StandInMill" ∈ NW := List.mem_append_left _ (List.mem_map.mpr ⟨_, List.mem_of_getElem? (i := 13) rfl, rfl⟩)
theorem nf_14 : Cond.fieldLinkNest "StandInMill$Face" 62 "StandInMill$OwnMethod" "number" "I" "StandInMill" ∈ NW := List.mem_append_left _ (List.mem_map.mpr ⟨_, List.mem_of_getElem? (i := 14) rfl, rfl⟩)
theorem nf_15 : Cond.fieldLinkNest "StandInMill" 357 "StandInMill$Face" "parents" "[I" "StandInMill" ∈ NW := List.mem_append_left _ (List.mem_map.mpr ⟨_, List.mem_of_getElem? (i := 15) rfl, rfl⟩)
theorem nf_16 : Cond.fieldLinkNest "StandInMill$Types" 37 "StandInMill$ClassRow" "size" "I" "StandInMill" ∈ NW := List.mem_append_left _ (List.mem_map.mpr ⟨_, List.mem_of_getElem? (i := 16) rfl, rfl⟩)
theorem nf_17 : Cond.fieldLinkNest "StandInMill$Types" 42 "StandInMill$ClassRow" "classes" "[I" "StandInMill" ∈ NW := List.mem_append_left _ (List.mem_map.mpr ⟨_, List.mem_of_getElem? (i := 17) rfl, rfl⟩)
theorem nf_18 : Cond.fieldLinkNest "StandInMill$Draft" 34 "StandInMill$StandMethod" "source" "LStandInMill$OwnMethod;" "StandInMill" ∈ NW := List.mem_append_left _ (List.mem_map.mpr ⟨_, List.mem_of_getElem? (i := 18) rfl, rfl⟩)
theorem nf_19 : Cond.fieldLinkNest "StandInMill$Draft" 47 "StandInMill$StandMethod" "thrown" "LStandInMill$ClassRow;" "StandInMill" ∈ NW := List.mem_append_left _ (List.mem_map.mpr ⟨_, List.mem_of_getElem? (i := 19) rfl, rfl⟩)
theorem nf_20 : Cond.fieldLinkNest "StandInMill$Draft" 50 "StandInMill$OwnMethod" "thrown" "LStandInMill$ClassRow;" "StandInMill" ∈ NW := List.mem_append_left _ (List.mem_map.mpr ⟨_, List.mem_of_getElem? (i := 20) rfl, rfl⟩)
theorem nf_21 : Cond.fieldLinkNest "StandInMill$Draft" 44 "StandInMill$OwnMethod" "result" "I" "StandInMill" ∈ NW := List.mem_append_left _ (List.mem_map.mpr ⟨_, List.mem_of_getElem? (i := 21) rfl, rfl⟩)
theorem nf_22 : Cond.fieldLinkNest "StandInMill" 348 "StandInMill$Face" "allCount" "I" "StandInMill" ∈ NW := List.mem_append_left _ (List.mem_map.mpr ⟨_, List.mem_of_getElem? (i := 22) rfl, rfl⟩)
theorem nf_23 : Cond.fieldLinkNest "StandInMill" 351 "StandInMill$Face" "all" "[LStandInMill$OwnMethod;" "StandInMill" ∈ NW := List.mem_append_left _ (List.mem_map.mpr ⟨_, List.mem_of_getElem? (i := 23) rfl, rfl⟩)
theorem nf_24 : Cond.fieldLinkNest "StandInMill" 332 "StandInMill$Draft" "size" "I" "StandInMill" ∈ NW := List.mem_append_left _ (List.mem_map.mpr ⟨_, List.mem_of_getElem? (i := 24) rfl, rfl⟩)
theorem nf_25 : Cond.fieldLinkNest "StandInMill" 238 "StandInMill$StandIn" "pack" "I" "StandInMill" ∈ NW := List.mem_append_left _ (List.mem_map.mpr ⟨_, List.mem_of_getElem? (i := 25) rfl, rfl⟩)
theorem nf_26 : Cond.fieldLinkNest "StandInMill$Draft" 96 "StandInMill$StandMethod" "caught" "LStandInMill$ClassRow;" "StandInMill" ∈ NW := List.mem_append_left _ (List.mem_map.mpr ⟨_, List.mem_of_getElem? (i := 26) rfl, rfl⟩)
theorem nf_27 : Cond.fieldLinkNest "StandInMill$Draft" 105 "StandInMill$ClassRow" "size" "I" "StandInMill" ∈ NW := List.mem_append_left _ (List.mem_map.mpr ⟨_, List.mem_of_getElem? (i := 27) rfl, rfl⟩)
theorem nf_28 : Cond.fieldLinkNest "StandInMill" 244 "StandInMill$StandIn" "methods" "[LStandInMill$StandMethod;" "StandInMill" ∈ NW := List.mem_append_left _ (List.mem_map.mpr ⟨_, List.mem_of_getElem? (i := 28) rfl, rfl⟩)
theorem nf_29 : Cond.fieldLinkNest "StandInMill$UnitWriter" 109 "StandInMill$ClassRow" "size" "I" "StandInMill" ∈ NW := List.mem_append_left _ (List.mem_map.mpr ⟨_, List.mem_of_getElem? (i := 29) rfl, rfl⟩)
theorem nf_30 : Cond.fieldLinkNest "StandInMill$UnitWriter" 147 "StandInMill$OwnMethod" "owner" "I" "StandInMill" ∈ NW := List.mem_append_left _ (List.mem_map.mpr ⟨_, List.mem_of_getElem? (i := 30) rfl, rfl⟩)
theorem nf_31 : Cond.fieldLinkNest "StandInMill$UnitWriter" 150 "StandInMill$OwnMethod" "number" "I" "StandInMill" ∈ NW := List.mem_append_left _ (List.mem_map.mpr ⟨_, List.mem_of_getElem? (i := 31) rfl, rfl⟩)
theorem nf_32 : Cond.fieldLinkNest "StandInMill$UnitWriter" 89 "StandInMill$OwnMethod" "parameters" "I" "StandInMill" ∈ NW := List.mem_append_left _ (List.mem_map.mpr ⟨_, List.mem_of_getElem? (i := 32) rfl, rfl⟩)
theorem nf_33 : Cond.fieldLinkNest "StandInMill$UnitWriter" 92 "StandInMill$OwnMethod" "result" "I" "StandInMill" ∈ NW := List.mem_append_left _ (List.mem_map.mpr ⟨_, List.mem_of_getElem? (i := 33) rfl, rfl⟩)
theorem nf_34 : Cond.fieldLinkNest "StandInMill$UnitWriter" 74 "StandInMill$StandMethod" "source" "LStandInMill$OwnMethod;" "StandInMill" ∈ NW := List.mem_append_left _ (List.mem_map.mpr ⟨_, List.mem_of_getElem? (i := 34) rfl, rfl⟩)
theorem nf_35 : Cond.fieldLinkNest "StandInMill$UnitWriter" 80 "StandInMill$OwnMethod" "name" "I" "StandInMill" ∈ NW := List.mem_append_left _ (List.mem_map.mpr ⟨_, List.mem_of_getElem? (i := 35) rfl, rfl⟩)
theorem nf_36 : Cond.fieldLinkNest "StandInMill$UnitWriter" 98 "StandInMill$StandMethod" "thrown" "LStandInMill$ClassRow;" "StandInMill" ∈ NW := List.mem_append_left _ (List.mem_map.mpr ⟨_, List.mem_of_getElem? (i := 36) rfl, rfl⟩)
theorem nf_37 : Cond.fieldLinkNest "StandInMill$UnitWriter" 106 "StandInMill$StandMethod" "caught" "LStandInMill$ClassRow;" "StandInMill" ∈ NW := List.mem_append_left _ (List.mem_map.mpr ⟨_, List.mem_of_getElem? (i := 37) rfl, rfl⟩)
theorem nf_38 : Cond.fieldLinkNest "StandInMill$UnitWriter" 38 "StandInMill$StandIn" "pack" "I" "StandInMill" ∈ NW := List.mem_append_left _ (List.mem_map.mpr ⟨_, List.mem_of_getElem? (i := 38) rfl, rfl⟩)
theorem nf_39 : Cond.fieldLinkNest "StandInMill$UnitWriter" 47 "StandInMill$StandIn" "number" "I" "StandInMill" ∈ NW := List.mem_append_left _ (List.mem_map.mpr ⟨_, List.mem_of_getElem? (i := 39) rfl, rfl⟩)
theorem nf_40 : Cond.fieldLinkNest "StandInMill$UnitWriter" 50 "StandInMill$StandIn" "listed" "I" "StandInMill" ∈ NW := List.mem_append_left _ (List.mem_map.mpr ⟨_, List.mem_of_getElem? (i := 40) rfl, rfl⟩)
theorem nf_41 : Cond.fieldLinkNest "StandInMill$UnitWriter" 56 "StandInMill$StandIn" "methods" "[LStandInMill$StandMethod;" "StandInMill" ∈ NW := List.mem_append_left _ (List.mem_map.mpr ⟨_, List.mem_of_getElem? (i := 41) rfl, rfl⟩)
theorem nf_42 : Cond.fieldLinkNest "StandInMill" 234 "StandInMill$StandIn" "unit" "[B" "StandInMill" ∈ NW := List.mem_append_left _ (List.mem_map.mpr ⟨_, List.mem_of_getElem? (i := 42) rfl, rfl⟩)
theorem nf_43 : Cond.fieldLinkNest "StandInMill" 241 "StandInMill$StandIn" "number" "I" "StandInMill" ∈ NW := List.mem_append_left _ (List.mem_map.mpr ⟨_, List.mem_of_getElem? (i := 43) rfl, rfl⟩)
theorem nf_44 : Cond.fieldLinkNest "StandInMill" 252 "StandInMill$StandMethod" "source" "LStandInMill$OwnMethod;" "StandInMill" ∈ NW := List.mem_append_left _ (List.mem_map.mpr ⟨_, List.mem_of_getElem? (i := 44) rfl, rfl⟩)
theorem nf_45 : Cond.fieldLinkNest "StandInMill" 265 "StandInMill$OwnMethod" "name" "I" "StandInMill" ∈ NW := List.mem_append_left _ (List.mem_map.mpr ⟨_, List.mem_of_getElem? (i := 45) rfl, rfl⟩)
theorem nf_46 : Cond.fieldLinkNest "StandInMill" 268 "StandInMill$OwnMethod" "result" "I" "StandInMill" ∈ NW := List.mem_append_left _ (List.mem_map.mpr ⟨_, List.mem_of_getElem? (i := 46) rfl, rfl⟩)
theorem nf_47 : Cond.fieldLinkNest "StandInMill" 271 "StandInMill$OwnMethod" "parameters" "I" "StandInMill" ∈ NW := List.mem_append_left _ (List.mem_map.mpr ⟨_, List.mem_of_getElem? (i := 47) rfl, rfl⟩)
theorem nf_48 : Cond.fieldLinkNest "StandInMill" 277 "StandInMill$OwnMethod" "owner" "I" "StandInMill" ∈ NW := List.mem_append_left _ (List.mem_map.mpr ⟨_, List.mem_of_getElem? (i := 48) rfl, rfl⟩)
theorem nf_49 : Cond.fieldLinkNest "StandInMill" 280 "StandInMill$OwnMethod" "number" "I" "StandInMill" ∈ NW := List.mem_append_left _ (List.mem_map.mpr ⟨_, List.mem_of_getElem? (i := 49) rfl, rfl⟩)
theorem nf_50 : Cond.fieldLinkNest "StandInMill" 264 "StandInMill$StandMethod" "thrown" "LStandInMill$ClassRow;" "StandInMill" ∈ NW := List.mem_append_left _ (List.mem_map.mpr ⟨_, List.mem_of_getElem? (i := 50) rfl, rfl⟩)
theorem nf_51 : Cond.fieldLinkNest "StandInMill" 258 "StandInMill$StandMethod" "caught" "LStandInMill$ClassRow;" "StandInMill" ∈ NW := List.mem_append_left _ (List.mem_map.mpr ⟨_, List.mem_of_getElem? (i := 51) rfl, rfl⟩)
theorem nf_52 : Cond.fieldLinkNest "StandInMill" 281 "StandInMill$StandIn" "handled" "I" "StandInMill" ∈ NW := List.mem_append_left _ (List.mem_map.mpr ⟨_, List.mem_of_getElem? (i := 52) rfl, rfl⟩)
theorem nf_53 : Cond.fieldLinkNest "StandInMill" 284 "StandInMill$StandIn" "throwing" "Z" "StandInMill" ∈ NW := List.mem_append_left _ (List.mem_map.mpr ⟨_, List.mem_of_getElem? (i := 53) rfl, rfl⟩)
theorem nm_0 : Cond.methodLinkNest "StandInMill" 56 y_Uw_init "StandInMill" ∈ NW := List.mem_append_right _ (List.mem_map.mpr ⟨_, List.mem_of_getElem? (i := 0) rfl, rfl⟩)
theorem nm_1 : Cond.methodLinkNest "StandInMill$Types" 34 y_M_isWithin "StandInMill" ∈ NW := List.mem_append_right _ (List.mem_map.mpr ⟨_, List.mem_of_getElem? (i := 1) rfl, rfl⟩)
theorem nm_2 : Cond.methodLinkNest "StandInMill$Types" 31 y_M_isPlain "StandInMill" ∈ NW := List.mem_append_right _ (List.mem_map.mpr ⟨_, List.mem_of_getElem? (i := 2) rfl, rfl⟩)
theorem nm_3 : Cond.methodLinkNest "StandInMill$Draft" 72 y_Sm_init "StandInMill" ∈ NW := List.mem_append_right _ (List.mem_map.mpr ⟨_, List.mem_of_getElem? (i := 3) rfl, rfl⟩)
theorem nm_4 : Cond.methodLinkNest "StandInMill$Draft" 81 y_M_isPlain "StandInMill" ∈ NW := List.mem_append_right _ (List.mem_map.mpr ⟨_, List.mem_of_getElem? (i := 4) rfl, rfl⟩)
theorem nm_5 : Cond.methodLinkNest "StandInMill$ClassRow" 19 y_M_isWithin "StandInMill" ∈ NW := List.mem_append_right _ (List.mem_map.mpr ⟨_, List.mem_of_getElem? (i := 5) rfl, rfl⟩)
theorem nm_6 : Cond.methodLinkNest "StandInMill$UnitWriter" 118 y_M_lengthOf "StandInMill" ∈ NW := List.mem_append_right _ (List.mem_map.mpr ⟨_, List.mem_of_getElem? (i := 6) rfl, rfl⟩)
theorem nm_7 : Cond.methodLinkNest "StandInMill$UnitWriter" 122 y_M_byteOf "StandInMill" ∈ NW := List.mem_append_right _ (List.mem_map.mpr ⟨_, List.mem_of_getElem? (i := 7) rfl, rfl⟩)
theorem nm_8 : Cond.methodLinkNest "StandInMill$OwnMethod" 36 y_M_lengthOf "StandInMill" ∈ NW := List.mem_append_right _ (List.mem_map.mpr ⟨_, List.mem_of_getElem? (i := 8) rfl, rfl⟩)
theorem nm_9 : Cond.methodLinkNest "StandInMill$UnitWriter" 143 y_M_isPlain "StandInMill" ∈ NW := List.mem_append_right _ (List.mem_map.mpr ⟨_, List.mem_of_getElem? (i := 9) rfl, rfl⟩)
def wc_0 : List Cond := [.methodLink "StandInMill$Types" 3 objectInit,
  .instanceMethod objectInit,
  .code objectInit ⟨#[0xb1]⟩ 1 none,
  .arrayClass (.long),
  .fieldLink "StandInMill$Types" 11 "StandInMill$Types" "aboves" "[J",
  .fieldLink "StandInMill$Types" 15 "StandInMill$Types" "nextClass" "I",
  .methodLink "StandInMill$Types" 19 y_Ty_bit,
  .static y_Ty_bit,
  .methodLink "StandInMill$ClassRow" 3 objectInit,
  .arrayClass (.int),
  .fieldLink "StandInMill$ClassRow" 9 "StandInMill$ClassRow" "classes" "[I",
  .methodLink "StandInMill$Draft" 3 objectInit,
  .classLink "StandInMill$Draft" 9 "StandInMill$StandMethod",
  .fieldLink "StandInMill$Draft" 11 "StandInMill$Draft" "methods" "[LStandInMill$StandMethod;",
  .classLink "StandInMill$Draft" 17 "StandInMill$ClassRow",
  .instantiable "StandInMill$ClassRow" 2,
  .initialized "StandInMill$ClassRow",
  .methodLink "StandInMill$Draft" 19 y_Rw_init,
  .instanceMethod y_Rw_init,
  .fieldLink "StandInMill$Draft" 22 "StandInMill$Draft" "soFar" "LStandInMill$ClassRow;",
  .fieldLink "StandInMill$Draft" 26 "StandInMill$Draft" "types" "LStandInMill$Types;",
  .methodLink "StandInMill$UnitWriter" 5 objectInit,
  .fieldLink "StandInMill$UnitWriter" 11 "StandInMill$UnitWriter" "entryOf" "[I",
  .arrayClass (.byte),
  .fieldLink "StandInMill$UnitWriter" 15 "StandInMill$UnitWriter" "pool" "[B",
  .fieldLink "StandInMill$UnitWriter" 19 "StandInMill$UnitWriter" "body" "[B",
  .methodLink "StandInMill$OwnMethod" 3 objectInit,
  .classLink "StandInMill$OwnMethod" 9 "StandInMill$ClassRow",
  .methodLink "StandInMill$OwnMethod" 11 y_Rw_init,
  .fieldLink "StandInMill$OwnMethod" 14 "StandInMill$OwnMethod" "thrown" "LStandInMill$ClassRow;",
  .fieldLink "StandInMill$OwnMethod" 20 "StandInMill$OwnMethod" "owner" "I",
  .fieldLink "StandInMill$OwnMethod" 24 "StandInMill$OwnMethod" "number" "I",
  .fieldLink "StandInMill$OwnMethod" 27 "StandInMill$OwnMethod" "name" "I",
  .fieldLink "StandInMill$OwnMethod" 30 "StandInMill$OwnMethod" "parameters" "I",
  .fieldLink "StandInMill$OwnMethod" 33 "StandInMill$OwnMethod" "result" "I",
  .methodLink "StandInMill" 1 objectInit,
  .classLink "StandInMill" 7 "StandInMill$Types",
  .instantiable "StandInMill$Types" 2,
  .initialized "StandInMill$Types",
  .methodLink "StandInMill" 9 y_Ty_init]
def wc_1 : List Cond := [.instanceMethod y_Ty_init,
  .fieldLink "StandInMill" 10 "StandInMill" "types" "LStandInMill$Types;",
  .fieldLink "StandInMill" 16 "StandInMill" "loaderParents" "[I",
  .classLink "StandInMill" 20 "StandInMill$Face",
  .fieldLink "StandInMill" 22 "StandInMill" "faces" "[LStandInMill$Face;",
  .fieldLink "StandInMill" 26 "StandInMill" "objectTypes" "[I",
  .fieldLink "StandInMill" 29 "StandInMill" "objectValues" "[J",
  .classLink "StandInMill" 33 "StandInMill$OwnMethod",
  .fieldLink "StandInMill" 35 "StandInMill" "rootMethods" "[LStandInMill$OwnMethod;",
  .classLink "StandInMill" 39 "StandInMill$StandIn",
  .fieldLink "StandInMill" 41 "StandInMill" "stands" "[LStandInMill$StandIn;",
  .classLink "StandInMill" 45 "StandInMill$Draft",
  .instantiable "StandInMill$Draft" 4,
  .initialized "StandInMill$Draft",
  .methodLink "StandInMill" 47 y_Dr_init,
  .instanceMethod y_Dr_init,
  .fieldLink "StandInMill" 50 "StandInMill" "draft" "LStandInMill$Draft;",
  .classLink "StandInMill" 54 "StandInMill$UnitWriter",
  .instantiable "StandInMill$UnitWriter" 6,
  .initialized "StandInMill$UnitWriter",
  .instanceMethod y_Uw_init,
  .fieldLink "StandInMill" 57 "StandInMill" "writer" "LStandInMill$UnitWriter;",
  .constantLong "StandInMill" 61 (-1),
  .fieldLink "StandInMill" 63 "StandInMill" "latestOutcome" "J",
  .fieldLink "StandInMill" 67 "StandInMill" "given" "[J",
  .fieldLink "StandInMill" 70 "StandInMill" "seenRow" "[J",
  .fieldLink "StandInMill" 73 "StandInMill" "loaderCount" "I",
  .instantiable "StandInMill$OwnMethod" 6,
  .initialized "StandInMill$OwnMethod",
  .methodLink "StandInMill" 77 y_Om_init,
  .instanceMethod y_Om_init,
  .methodLink "StandInMill" 80 y_Ar_fillJ,
  .static y_Ar_fillJ,
  .methodLink "StandInMill" 94 y_M_isWithin,
  .static y_M_isWithin,
  .methodLink "StandInMill" 86 y_M_isLoader,
  .instanceMethod y_M_isLoader,
  .selects "StandInMill" y_M_isLoader y_M_isLoader,
  .methodLink "StandInMill$Types" 23 y_Ty_isClass,
  .instanceMethod y_Ty_isClass]
def wc_2 : List Cond := [.selects "StandInMill$Types" y_Ty_isClass y_Ty_isClass,
  .methodLink "StandInMill" 90 y_Ty_addClass,
  .instanceMethod y_Ty_addClass,
  .selects "StandInMill$Types" y_Ty_addClass y_Ty_addClass,
  .fieldLink "StandInMill" 102 "StandInMill" "faceCount" "I",
  .methodLink "StandInMill" 311 y_M_faceMadeBy,
  .instanceMethod y_M_faceMadeBy,
  .selects "StandInMill" y_M_faceMadeBy y_M_faceMadeBy,
  .methodLink "StandInMill$Face" 3 objectInit,
  .fieldLink "StandInMill$Face" 9 "StandInMill$Face" "parents" "[I",
  .classLink "StandInMill$Face" 15 "StandInMill$OwnMethod",
  .fieldLink "StandInMill$Face" 17 "StandInMill$Face" "own" "[LStandInMill$OwnMethod;",
  .fieldLink "StandInMill$Face" 21 "StandInMill$Face" "all" "[LStandInMill$OwnMethod;",
  .fieldLink "StandInMill$Face" 24 "StandInMill$Face" "loader" "I",
  .fieldLink "StandInMill$Face" 28 "StandInMill$Face" "name" "I",
  .fieldLink "StandInMill$Face" 31 "StandInMill$Face" "pack" "I",
  .fieldLink "StandInMill$Face" 34 "StandInMill$Face" "open" "Z",
  .methodLink "StandInMill" 98 y_M_faceFoundBy,
  .instanceMethod y_M_faceFoundBy,
  .selects "StandInMill" y_M_faceFoundBy y_M_faceFoundBy,
  .instantiable "StandInMill$Face" 10,
  .initialized "StandInMill$Face",
  .methodLink "StandInMill" 105 y_Fc_init,
  .instanceMethod y_Fc_init,
  .methodLink "StandInMill" 108 y_Ty_addFace,
  .instanceMethod y_Ty_addFace,
  .selects "StandInMill$Types" y_Ty_addFace y_Ty_addFace,
  .fieldLink "StandInMill$Face" 38 "StandInMill$Face" "parentCount" "I",
  .methodLink "StandInMill$Types" 27 y_Ty_isBelow,
  .instanceMethod y_Ty_isBelow,
  .selects "StandInMill$Types" y_Ty_isBelow y_Ty_isBelow,
  .fieldLink "StandInMill" 112 "StandInMill" "standCount" "I",
  .methodLink "StandInMill" 115 y_M_isFace,
  .instanceMethod y_M_isFace,
  .selects "StandInMill" y_M_isFace y_M_isFace,
  .methodLink "StandInMill" 118 y_Fc_hasParent,
  .instanceMethod y_Fc_hasParent,
  .selects "StandInMill$Face" y_Fc_hasParent y_Fc_hasParent,
  .methodLink "StandInMill" 127 y_M_isVisible,
  .instanceMethod y_M_isVisible]
def wc_3 : List Cond := [.selects "StandInMill" y_M_isVisible y_M_isVisible,
  .methodLink "StandInMill" 130 y_Fc_addParent,
  .instanceMethod y_Fc_addParent,
  .selects "StandInMill$Face" y_Fc_addParent y_Fc_addParent,
  .methodLink "StandInMill" 133 y_Ty_putBelow,
  .instanceMethod y_Ty_putBelow,
  .selects "StandInMill$Types" y_Ty_putBelow y_Ty_putBelow,
  .fieldLink "StandInMill" 137 "StandInMill" "gathered" "Z",
  .methodLink "StandInMill" 274 y_M_byteOf,
  .static y_M_byteOf,
  .static y_M_isPlain,
  .methodLink "StandInMill" 305 y_Ty_isThere,
  .instanceMethod y_Ty_isThere,
  .selects "StandInMill$Types" y_Ty_isThere y_Ty_isThere,
  .methodLink "StandInMill" 308 y_M_lengthOf,
  .static y_M_lengthOf,
  .fieldLink "StandInMill$Face" 41 "StandInMill$Face" "ownCount" "I",
  .methodLink "StandInMill" 141 y_M_cutAtZero,
  .static y_M_cutAtZero,
  .methodLink "StandInMill" 144 y_M_isResult,
  .instanceMethod y_M_isResult,
  .selects "StandInMill" y_M_isResult y_M_isResult,
  .methodLink "StandInMill" 147 y_M_areParameters,
  .instanceMethod y_M_areParameters,
  .selects "StandInMill" y_M_areParameters y_M_areParameters,
  .methodLink "StandInMill" 153 y_Fc_hasOwn,
  .instanceMethod y_Fc_hasOwn,
  .selects "StandInMill$Face" y_Fc_hasOwn y_Fc_hasOwn,
  .methodLink "StandInMill" 156 y_Fc_addOwn,
  .instanceMethod y_Fc_addOwn,
  .selects "StandInMill$Face" y_Fc_addOwn y_Fc_addOwn,
  .fieldLink "StandInMill$ClassRow" 15 "StandInMill$ClassRow" "size" "I",
  .methodLink "StandInMill$ClassRow" 23 y_Rw_has,
  .instanceMethod y_Rw_has,
  .selects "StandInMill$ClassRow" y_Rw_has y_Rw_has,
  .methodLink "StandInMill" 160 y_Ty_isClass,
  .methodLink "StandInMill" 170 y_Rw_has,
  .methodLink "StandInMill" 178 y_Rw_add,
  .instanceMethod y_Rw_add,
  .selects "StandInMill$ClassRow" y_Rw_add y_Rw_add]
def wc_4 : List Cond := [.fieldLink "StandInMill" 184 "StandInMill" "objectCount" "I",
  .methodLink "StandInMill" 181 y_M_isBox,
  .static y_M_isBox,
  .methodLink "StandInMill" 187 y_M_fitted,
  .static y_M_fitted,
  .methodLink "StandInMill" 191 y_Ty_isBelow,
  .methodLink "StandInMill" 333 y_M_packageOf,
  .instanceMethod y_M_packageOf,
  .selects "StandInMill" y_M_packageOf y_M_packageOf,
  .methodLink "StandInMill" 319 y_M_areVisible,
  .instanceMethod y_M_areVisible,
  .selects "StandInMill" y_M_areVisible y_M_areVisible,
  .methodLink "StandInMill" 322 y_M_hasTwice,
  .static y_M_hasTwice,
  .methodLink "StandInMill" 325 y_M_isInTwoPackages,
  .instanceMethod y_M_isInTwoPackages,
  .selects "StandInMill" y_M_isInTwoPackages y_M_isInTwoPackages,
  .fieldLink "StandInMill$Face" 48 "StandInMill$Face" "allCount" "I",
  .methodLink "StandInMill$Face" 51 y_Fc_gather,
  .instanceMethod y_Fc_gather,
  .selects "StandInMill$Face" y_Fc_gather y_Fc_gather,
  .methodLink "StandInMill$Face" 55 y_Fc_hasOwn,
  .methodLink "StandInMill" 354 y_Fc_gatherOwn,
  .instanceMethod y_Fc_gatherOwn,
  .selects "StandInMill$Face" y_Fc_gatherOwn y_Fc_gatherOwn,
  .methodLink "StandInMill" 360 y_Fc_gatherFrom,
  .instanceMethod y_Fc_gatherFrom,
  .selects "StandInMill$Face" y_Fc_gatherFrom y_Fc_gatherFrom,
  .fieldLink "StandInMill$Draft" 30 "StandInMill$Draft" "size" "I",
  .methodLink "StandInMill$ClassRow" 27 y_Rw_clear,
  .instanceMethod y_Rw_clear,
  .selects "StandInMill$ClassRow" y_Rw_clear y_Rw_clear,
  .methodLink "StandInMill$ClassRow" 30 y_Rw_add,
  .methodLink "StandInMill$Types" 46 y_Ty_isBelowOneOf,
  .instanceMethod y_Ty_isBelowOneOf,
  .selects "StandInMill$Types" y_Ty_isBelowOneOf y_Ty_isBelowOneOf,
  .methodLink "StandInMill$Types" 50 y_Rw_add,
  .methodLink "StandInMill$Draft" 59 y_Rw_copyFrom,
  .instanceMethod y_Rw_copyFrom,
  .selects "StandInMill$ClassRow" y_Rw_copyFrom y_Rw_copyFrom]
def wc_5 : List Cond := [.methodLink "StandInMill$Draft" 63 y_Rw_clear,
  .methodLink "StandInMill$Draft" 66 y_Ty_addBelow,
  .instanceMethod y_Ty_addBelow,
  .selects "StandInMill$Types" y_Ty_addBelow y_Ty_addBelow,
  .methodLink "StandInMill$StandMethod" 3 objectInit,
  .classLink "StandInMill$StandMethod" 9 "StandInMill$ClassRow",
  .methodLink "StandInMill$StandMethod" 11 y_Rw_init,
  .fieldLink "StandInMill$StandMethod" 14 "StandInMill$StandMethod" "thrown" "LStandInMill$ClassRow;",
  .fieldLink "StandInMill$StandMethod" 20 "StandInMill$StandMethod" "caught" "LStandInMill$ClassRow;",
  .instantiable "StandInMill$StandMethod" 3,
  .initialized "StandInMill$StandMethod",
  .instanceMethod y_Sm_init,
  .methodLink "StandInMill$Draft" 38 y_Om_hasSignatureOf,
  .instanceMethod y_Om_hasSignatureOf,
  .selects "StandInMill$OwnMethod" y_Om_hasSignatureOf y_Om_hasSignatureOf,
  .methodLink "StandInMill$Draft" 51 y_Dr_narrow,
  .instanceMethod y_Dr_narrow,
  .selects "StandInMill$Draft" y_Dr_narrow y_Dr_narrow,
  .methodLink "StandInMill$Draft" 55 y_Dr_insert,
  .instanceMethod y_Dr_insert,
  .selects "StandInMill$Draft" y_Dr_insert y_Dr_insert,
  .methodLink "StandInMill" 342 y_Dr_clear,
  .instanceMethod y_Dr_clear,
  .selects "StandInMill$Draft" y_Dr_clear y_Dr_clear,
  .methodLink "StandInMill" 345 y_Dr_take,
  .instanceMethod y_Dr_take,
  .selects "StandInMill$Draft" y_Dr_take y_Dr_take,
  .methodLink "StandInMill" 339 y_M_gatherMethods,
  .instanceMethod y_M_gatherMethods,
  .selects "StandInMill" y_M_gatherMethods y_M_gatherMethods,
  .methodLink "StandInMill$Draft" 89 y_Ty_isBelow,
  .methodLink "StandInMill$Draft" 85 y_Dr_isBelowAll,
  .instanceMethod y_Dr_isBelowAll,
  .selects "StandInMill$Draft" y_Dr_isBelowAll y_Dr_isBelowAll,
  .methodLink "StandInMill$Draft" 73 y_Dr_endOfSignature,
  .instanceMethod y_Dr_endOfSignature,
  .selects "StandInMill$Draft" y_Dr_endOfSignature y_Dr_endOfSignature,
  .methodLink "StandInMill$Draft" 77 y_Dr_resultsAgreeWithin,
  .instanceMethod y_Dr_resultsAgreeWithin,
  .selects "StandInMill$Draft" y_Dr_resultsAgreeWithin y_Dr_resultsAgreeWithin]
def wc_6 : List Cond := [.methodLink "StandInMill" 328 y_Dr_resultsAgree,
  .instanceMethod y_Dr_resultsAgree,
  .selects "StandInMill$Draft" y_Dr_resultsAgree y_Dr_resultsAgree,
  .methodLink "StandInMill$StandIn" 3 objectInit,
  .fieldLink "StandInMill$StandIn" 9 "StandInMill$StandIn" "handled" "I",
  .fieldLink "StandInMill$StandIn" 15 "StandInMill$StandIn" "loader" "I",
  .fieldLink "StandInMill$StandIn" 18 "StandInMill$StandIn" "listed" "I",
  .fieldLink "StandInMill$StandIn" 21 "StandInMill$StandIn" "pack" "I",
  .fieldLink "StandInMill$StandIn" 24 "StandInMill$StandIn" "number" "I",
  .classLink "StandInMill$StandIn" 27 "StandInMill$StandMethod",
  .fieldLink "StandInMill$StandIn" 29 "StandInMill$StandIn" "methods" "[LStandInMill$StandMethod;",
  .methodLink "StandInMill$Draft" 99 y_Rw_has,
  .methodLink "StandInMill$Draft" 102 y_Rw_add,
  .methodLink "StandInMill$Draft" 106 y_Rw_at,
  .instanceMethod y_Rw_at,
  .selects "StandInMill$ClassRow" y_Rw_at y_Rw_at,
  .methodLink "StandInMill$Draft" 109 y_Ty_isBelowOneOf,
  .methodLink "StandInMill$Draft" 113 y_Ty_dropBelow,
  .instanceMethod y_Ty_dropBelow,
  .selects "StandInMill$Types" y_Ty_dropBelow y_Ty_dropBelow,
  .methodLink "StandInMill$Draft" 92 y_Dr_fillCaught,
  .instanceMethod y_Dr_fillCaught,
  .selects "StandInMill$Draft" y_Dr_fillCaught y_Dr_fillCaught,
  .instantiable "StandInMill$StandIn" 8,
  .initialized "StandInMill$StandIn",
  .methodLink "StandInMill" 364 y_M_standsOfPackage,
  .instanceMethod y_M_standsOfPackage,
  .selects "StandInMill" y_M_standsOfPackage y_M_standsOfPackage,
  .methodLink "StandInMill" 367 y_Si_init,
  .instanceMethod y_Si_init,
  .methodLink "StandInMill" 368 y_Dr_handOver,
  .instanceMethod y_Dr_handOver,
  .selects "StandInMill$Draft" y_Dr_handOver y_Dr_handOver,
  .fieldLink "StandInMill$UnitWriter" 35 "StandInMill$UnitWriter" "bodySize" "I",
  .fieldLink "StandInMill$UnitWriter" 32 "StandInMill$UnitWriter" "poolSize" "I",
  .methodLink "StandInMill$UnitWriter" 43 y_Uw_put,
  .instanceMethod y_Uw_put,
  .selects "StandInMill$UnitWriter" y_Uw_put y_Uw_put,
  .fieldLink "StandInMill$UnitWriter" 28 "StandInMill$UnitWriter" "entryCount" "I",
  .methodLink "StandInMill$UnitWriter" 151 y_Uw_putInPool]
def wc_7 : List Cond := [.instanceMethod y_Uw_putInPool,
  .selects "StandInMill$UnitWriter" y_Uw_putInPool y_Uw_putInPool,
  .methodLink "StandInMill$UnitWriter" 85 y_Uw_putEntry,
  .instanceMethod y_Uw_putEntry,
  .selects "StandInMill$UnitWriter" y_Uw_putEntry y_Uw_putEntry,
  .methodLink "StandInMill$UnitWriter" 95 y_Uw_putType,
  .instanceMethod y_Uw_putType,
  .selects "StandInMill$UnitWriter" y_Uw_putType y_Uw_putType,
  .methodLink "StandInMill$UnitWriter" 126 y_Rw_at,
  .methodLink "StandInMill$UnitWriter" 133 y_Om_parameterCount,
  .instanceMethod y_Om_parameterCount,
  .selects "StandInMill$OwnMethod" y_Om_parameterCount y_Om_parameterCount,
  .methodLink "StandInMill$UnitWriter" 129 y_Uw_putMethodEntry,
  .instanceMethod y_Uw_putMethodEntry,
  .selects "StandInMill$UnitWriter" y_Uw_putMethodEntry y_Uw_putMethodEntry,
  .methodLink "StandInMill$UnitWriter" 137 y_Uw_putParameterCode,
  .instanceMethod y_Uw_putParameterCode,
  .selects "StandInMill$UnitWriter" y_Uw_putParameterCode y_Uw_putParameterCode,
  .methodLink "StandInMill$UnitWriter" 140 y_Uw_putResultCode,
  .instanceMethod y_Uw_putResultCode,
  .selects "StandInMill$UnitWriter" y_Uw_putResultCode y_Uw_putResultCode,
  .methodLink "StandInMill$UnitWriter" 53 y_Uw_putTypes,
  .instanceMethod y_Uw_putTypes,
  .selects "StandInMill$UnitWriter" y_Uw_putTypes y_Uw_putTypes,
  .methodLink "StandInMill$UnitWriter" 102 y_Uw_putRow,
  .instanceMethod y_Uw_putRow,
  .selects "StandInMill$UnitWriter" y_Uw_putRow y_Uw_putRow,
  .methodLink "StandInMill$UnitWriter" 114 y_Uw_putCode,
  .instanceMethod y_Uw_putCode,
  .selects "StandInMill$UnitWriter" y_Uw_putCode y_Uw_putCode,
  .methodLink "StandInMill$UnitWriter" 68 arraycopyName,
  .native arraycopyName,
  .static arraycopyName,
  .initialized "java/lang/System",
  .methodLink "StandInMill$UnitWriter" 22 y_Ar_fillI,
  .static y_Ar_fillI,
  .methodLink "StandInMill$UnitWriter" 60 y_Uw_putMethod,
  .instanceMethod y_Uw_putMethod,
  .selects "StandInMill$UnitWriter" y_Uw_putMethod y_Uw_putMethod,
  .methodLink "StandInMill$UnitWriter" 64 y_Uw_joined]
def wc_8 : List Cond := [.instanceMethod y_Uw_joined,
  .selects "StandInMill$UnitWriter" y_Uw_joined y_Uw_joined,
  .fieldLink "StandInMill" 194 "StandInMill" "latestFault" "I",
  .methodLink "StandInMill" 197 y_M_areFaces,
  .instanceMethod y_M_areFaces,
  .selects "StandInMill" y_M_areFaces y_M_areFaces,
  .methodLink "StandInMill" 207 y_M_standMadeFor,
  .instanceMethod y_M_standMadeFor,
  .selects "StandInMill" y_M_standMadeFor y_M_standMadeFor,
  .methodLink "StandInMill" 211 y_M_faultOfList,
  .instanceMethod y_M_faultOfList,
  .selects "StandInMill" y_M_faultOfList y_M_faultOfList,
  .methodLink "StandInMill" 226 y_M_madeOfDraft,
  .instanceMethod y_M_madeOfDraft,
  .selects "StandInMill" y_M_madeOfDraft y_M_madeOfDraft,
  .methodLink "StandInMill" 230 y_Uw_write,
  .instanceMethod y_Uw_write,
  .selects "StandInMill$UnitWriter" y_Uw_write y_Uw_write,
  .methodLink "StandInMill" 214 y_M_fillDraft,
  .instanceMethod y_M_fillDraft,
  .selects "StandInMill" y_M_fillDraft y_M_fillDraft,
  .methodLink "StandInMill" 217 y_M_faultOfDraft,
  .instanceMethod y_M_faultOfDraft,
  .selects "StandInMill" y_M_faultOfDraft y_M_faultOfDraft,
  .classLink "StandInMill" 200 "java/lang/IndexOutOfBoundsException",
  .instantiable "java/lang/IndexOutOfBoundsException" 6,
  .initialized "java/lang/IndexOutOfBoundsException",
  .classLink "StandInMill" 221 "java/lang/IllegalArgumentException",
  .instantiable "java/lang/IllegalArgumentException" 6,
  .initialized "java/lang/IllegalArgumentException",
  .methodLink "StandInMill" 249 y_M_hasMethod,
  .instanceMethod y_M_hasMethod,
  .selects "StandInMill" y_M_hasMethod y_M_hasMethod,
  .methodLink "StandInMill" 261 y_Rw_at,
  .methodLink "StandInMill" 372 y_Om_parameterCount,
  .methodLink "StandInMill" 375 y_M_isPlain,
  .methodLink "StandInMill" 378 y_M_isObjectBelow,
  .instanceMethod y_M_isObjectBelow,
  .selects "StandInMill" y_M_isObjectBelow y_M_isObjectBelow,
  .methodLink "StandInMill" 382 y_M_showObject]
def wc_9 : List Cond := [.instanceMethod y_M_showObject,
  .selects "StandInMill" y_M_showObject y_M_showObject,
  .methodLink "StandInMill" 385 y_Ty_isBelowOneOf,
  .methodLink "StandInMill" 289 y_M_takesGiven,
  .instanceMethod y_M_takesGiven,
  .selects "StandInMill" y_M_takesGiven y_M_takesGiven,
  .methodLink "StandInMill" 295 y_M_showHandler,
  .instanceMethod y_M_showHandler,
  .selects "StandInMill" y_M_showHandler y_M_showHandler,
  .methodLink "StandInMill" 302 y_M_fitAnswer,
  .instanceMethod y_M_fitAnswer,
  .selects "StandInMill" y_M_fitAnswer y_M_fitAnswer,
  .methodLink "StandInMill" 298 y_M_fitThrown,
  .instanceMethod y_M_fitThrown,
  .selects "StandInMill" y_M_fitThrown y_M_fitThrown,
  .methodLink "StandInMillModel" 1 objectInit,
  .fieldLink "StandInMillModel" 7 "StandInMillModel" "thrownCode" "I",
  .fieldLink "StandInMillModel" 13 "StandInMillModel" "loaders" "I",
  .fieldLink "StandInMillModel" 16 "StandInMillModel" "parentLoader" "[I",
  .fieldLink "StandInMillModel" 20 "StandInMillModel" "classes" "I",
  .fieldLink "StandInMillModel" 23 "StandInMillModel" "parentClass" "[I",
  .fieldLink "StandInMillModel" 26 "StandInMillModel" "faces" "I",
  .fieldLink "StandInMillModel" 29 "StandInMillModel" "faceLoader" "[I",
  .fieldLink "StandInMillModel" 32 "StandInMillModel" "faceName" "[I",
  .fieldLink "StandInMillModel" 35 "StandInMillModel" "facePack" "[I",
  .arrayClass (.boolean),
  .fieldLink "StandInMillModel" 38 "StandInMillModel" "faceOpen" "[Z",
  .fieldLink "StandInMillModel" 42 "StandInMillModel" "faceParents" "[I",
  .fieldLink "StandInMillModel" 45 "StandInMillModel" "parentCount" "[I",
  .fieldLink "StandInMillModel" 48 "StandInMillModel" "ownCount" "[I",
  .fieldLink "StandInMillModel" 51 "StandInMillModel" "name" "[I",
  .fieldLink "StandInMillModel" 54 "StandInMillModel" "result" "[I",
  .fieldLink "StandInMillModel" 57 "StandInMillModel" "takes" "[I",
  .fieldLink "StandInMillModel" 60 "StandInMillModel" "throwCount" "[I",
  .fieldLink "StandInMillModel" 63 "StandInMillModel" "throwsOf" "[I",
  .fieldLink "StandInMillModel" 66 "StandInMillModel" "objects" "I",
  .fieldLink "StandInMillModel" 69 "StandInMillModel" "objectType" "[I",
  .fieldLink "StandInMillModel" 72 "StandInMillModel" "objectValue" "[J",
  .fieldLink "StandInMillModel" 76 "StandInMillModel" "stands" "I",
  .fieldLink "StandInMillModel" 79 "StandInMillModel" "standLoader" "[I"]
def wc_10 : List Cond := [.fieldLink "StandInMillModel" 82 "StandInMillModel" "standList" "[I",
  .fieldLink "StandInMillModel" 85 "StandInMillModel" "standPack" "[I",
  .fieldLink "StandInMillModel" 88 "StandInMillModel" "standNumber" "[I",
  .fieldLink "StandInMillModel" 91 "StandInMillModel" "handler" "[I",
  .fieldLink "StandInMillModel" 94 "StandInMillModel" "handlerThrows" "[Z",
  .fieldLink "StandInMillModel" 97 "StandInMillModel" "faultNow" "I",
  .fieldLink "StandInMillModel" 100 "StandInMillModel" "all" "[I",
  .fieldLink "StandInMillModel" 103 "StandInMillModel" "allCount" "[I",
  .fieldLink "StandInMillModel" 106 "StandInMillModel" "founds" "I",
  .fieldLink "StandInMillModel" 109 "StandInMillModel" "found" "[I",
  .fieldLink "StandInMillModel" 112 "StandInMillModel" "may" "[I",
  .fieldLink "StandInMillModel" 115 "StandInMillModel" "mayCount" "[I",
  .fieldLink "StandInMillModel" 118 "StandInMillModel" "before" "[I",
  .fieldLink "StandInMillModel" 121 "StandInMillModel" "order" "[I",
  .fieldLink "StandInMillModel" 124 "StandInMillModel" "caughts" "I",
  .fieldLink "StandInMillModel" 127 "StandInMillModel" "caught" "[I",
  .fieldLink "StandInMillModel" 130 "StandInMillModel" "behind" "[I",
  .fieldLink "StandInMillModel" 133 "StandInMillModel" "behinds" "I",
  .fieldLink "StandInMillModel" 136 "StandInMillModel" "pool" "[I",
  .fieldLink "StandInMillModel" 139 "StandInMillModel" "pools" "I",
  .constantLong "StandInMillModel" 142 (-1),
  .fieldLink "StandInMillModel" 144 "StandInMillModel" "outcomeNow" "J",
  .fieldLink "StandInMillModel" 148 "StandInMillModel" "seenNow" "[J",
  .fieldLink "StandInMillModel" 151 "StandInMillModel" "argType" "[I",
  .fieldLink "StandInMillModel" 154 "StandInMillModel" "argValue" "[J",
  .methodLink "StandInMillModel" 157 y_R_isPlain,
  .static y_R_isPlain,
  .methodLink "StandInMillModel" 161 y_R_isClass,
  .instanceMethod y_R_isClass,
  .selects "StandInMillModel" y_R_isClass y_R_isClass,
  .methodLink "StandInMillModel" 164 y_R_isFace,
  .instanceMethod y_R_isFace,
  .selects "StandInMillModel" y_R_isFace y_R_isFace,
  .methodLink "StandInMillModel" 167 y_R_isBox,
  .static y_R_isBox,
  .methodLink "StandInMillModel" 170 y_R_there,
  .instanceMethod y_R_there,
  .selects "StandInMillModel" y_R_there y_R_there,
  .methodLink "StandInMillModel" 173 y_R_madeBy,
  .instanceMethod y_R_madeBy]
def wc_11 : List Cond := [.selects "StandInMillModel" y_R_madeBy y_R_madeBy,
  .methodLink "StandInMillModel" 177 y_R_finds,
  .instanceMethod y_R_finds,
  .selects "StandInMillModel" y_R_finds y_R_finds,
  .methodLink "StandInMillModel" 180 y_R_sameSignature,
  .instanceMethod y_R_sameSignature,
  .selects "StandInMillModel" y_R_sameSignature y_R_sameSignature,
  .methodLink "StandInMillModel" 184 y_R_isBelow,
  .instanceMethod y_R_isBelow,
  .selects "StandInMillModel" y_R_isBelow y_R_isBelow,
  .methodLink "StandInMillModel" 187 y_R_belowOneOf,
  .instanceMethod y_R_belowOneOf,
  .selects "StandInMillModel" y_R_belowOneOf y_R_belowOneOf,
  .methodLink "StandInMillModel" 190 y_R_listMethods,
  .instanceMethod y_R_listMethods,
  .selects "StandInMillModel" y_R_listMethods y_R_listMethods,
  .methodLink "StandInMillModel" 193 y_R_add,
  .instanceMethod y_R_add,
  .selects "StandInMillModel" y_R_add y_R_add,
  .methodLink "StandInMillModel" 197 y_R_merge,
  .instanceMethod y_R_merge,
  .selects "StandInMillModel" y_R_merge y_R_merge,
  .methodLink "StandInMillModel" 201 y_R_visible,
  .instanceMethod y_R_visible,
  .selects "StandInMillModel" y_R_visible y_R_visible,
  .methodLink "StandInMillModel" 204 y_R_describe,
  .instanceMethod y_R_describe,
  .selects "StandInMillModel" y_R_describe y_R_describe,
  .methodLink "StandInMillModel" 207 y_R_wrongResults,
  .instanceMethod y_R_wrongResults,
  .selects "StandInMillModel" y_R_wrongResults y_R_wrongResults,
  .methodLink "StandInMillModel" 210 y_R_say,
  .instanceMethod y_R_say,
  .selects "StandInMillModel" y_R_say y_R_say,
  .methodLink "StandInMillModel" 213 y_R_owner,
  .static y_R_owner,
  .methodLink "StandInMillModel" 217 y_R_numberOf,
  .static y_R_numberOf,
  .methodLink "StandInMillModel" 220 y_R_entry,
  .instanceMethod y_R_entry]
def wc_12 : List Cond := [.selects "StandInMillModel" y_R_entry y_R_entry,
  .methodLink "StandInMillModel" 223 y_R_takesCount,
  .instanceMethod y_R_takesCount,
  .selects "StandInMillModel" y_R_takesCount y_R_takesCount,
  .methodLink "StandInMillModel" 226 y_R_sayCode,
  .instanceMethod y_R_sayCode,
  .selects "StandInMillModel" y_R_sayCode y_R_sayCode,
  .methodLink "StandInMillModel" 229 y_R_catchFor,
  .instanceMethod y_R_catchFor,
  .selects "StandInMillModel" y_R_catchFor y_R_catchFor,
  .methodLink "StandInMillModel" 232 y_R_sayMethod,
  .instanceMethod y_R_sayMethod,
  .selects "StandInMillModel" y_R_sayMethod y_R_sayMethod,
  .methodLink "StandInMillModel" 235 y_R_fitted,
  .static y_R_fitted,
  .methodLink "StandInMillModel" 239 y_R_cleaned,
  .instanceMethod y_R_cleaned,
  .selects "StandInMillModel" y_R_cleaned y_R_cleaned,
  .methodLink "StandInMillModel" 242 y_R_faultOf,
  .instanceMethod y_R_faultOf,
  .selects "StandInMillModel" y_R_faultOf y_R_faultOf,
  .methodLink "StandInMillModel" 246 y_R_isStand,
  .instanceMethod y_R_isStand,
  .selects "StandInMillModel" y_R_isStand y_R_isStand,
  .methodLink "StandInMillModel" 249 y_R_unit,
  .instanceMethod y_R_unit,
  .selects "StandInMillModel" y_R_unit y_R_unit,
  .methodLink "StandInMillModel" 252 y_R_poolBytes,
  .instanceMethod y_R_poolBytes,
  .selects "StandInMillModel" y_R_poolBytes y_R_poolBytes,
  .methodLink "StandInMillModel" 256 y_R_unitByte,
  .instanceMethod y_R_unitByte,
  .selects "StandInMillModel" y_R_unitByte y_R_unitByte,
  .methodLink "StandInMillModel" 263 y_R_fit,
  .instanceMethod y_R_fit,
  .selects "StandInMillModel" y_R_fit y_R_fit,
  .methodLink "StandInMillModel" 259 y_R_takesAs,
  .instanceMethod y_R_takesAs,
  .selects "StandInMillModel" y_R_takesAs y_R_takesAs,
  .methodLink "StandInMillLaw" 7 y_M_stand]
def wc_13 : List Cond := [.instanceMethod y_M_stand,
  .selects "StandInMill" y_M_stand y_M_stand,
  .classLink "StandInMillLaw" 13 "java/lang/IndexOutOfBoundsException",
  .classLink "StandInMillLaw" 15 "java/lang/IllegalArgumentException",
  .codeWith y_L_stand b_L_stand 5 (some (.int)) [(0, 10, 13, 13), (0, 10, 17, 15)],
  .static y_L_stand,
  .initialized "StandInMillLaw",
  .methodLink "StandInMillLaw" 17 y_M_call,
  .instanceMethod y_M_call,
  .selects "StandInMill" y_M_call y_M_call,
  .codeWith y_L_call b_L_call 11 (some (.int)) [(0, 16, 19, 13), (0, 16, 23, 15)],
  .static y_L_call,
  .classLink "StandInMillLaw" 8 "StandInMill",
  .instantiable "StandInMill" 18,
  .initialized "StandInMill",
  .methodLink "StandInMillLaw" 21 y_M_init,
  .instanceMethod y_M_init,
  .classLink "StandInMillLaw" 22 "StandInMillModel",
  .instantiable "StandInMillModel" 47,
  .initialized "StandInMillModel",
  .methodLink "StandInMillLaw" 24 y_R_init,
  .instanceMethod y_R_init,
  .methodLink "StandInMillLaw" 25 y_M_loader,
  .instanceMethod y_M_loader,
  .selects "StandInMill" y_M_loader y_M_loader,
  .methodLink "StandInMillLaw" 29 y_R_loader,
  .instanceMethod y_R_loader,
  .selects "StandInMillModel" y_R_loader y_R_loader,
  .methodLink "StandInMillLaw" 30 y_M_type,
  .instanceMethod y_M_type,
  .selects "StandInMill" y_M_type y_M_type,
  .methodLink "StandInMillLaw" 33 y_R_type,
  .instanceMethod y_R_type,
  .selects "StandInMillModel" y_R_type y_R_type,
  .methodLink "StandInMillLaw" 34 y_M_face,
  .instanceMethod y_M_face,
  .selects "StandInMill" y_M_face y_M_face,
  .methodLink "StandInMillLaw" 38 y_R_face,
  .instanceMethod y_R_face,
  .selects "StandInMillModel" y_R_face y_R_face]
def wc_14 : List Cond := [.methodLink "StandInMillLaw" 39 y_M_extend,
  .instanceMethod y_M_extend,
  .selects "StandInMill" y_M_extend y_M_extend,
  .methodLink "StandInMillLaw" 43 y_R_extend,
  .instanceMethod y_R_extend,
  .selects "StandInMillModel" y_R_extend y_R_extend,
  .methodLink "StandInMillLaw" 44 y_M_method,
  .instanceMethod y_M_method,
  .selects "StandInMill" y_M_method y_M_method,
  .methodLink "StandInMillLaw" 48 y_R_method,
  .instanceMethod y_R_method,
  .selects "StandInMillModel" y_R_method y_R_method,
  .methodLink "StandInMillLaw" 49 y_M_throwing,
  .instanceMethod y_M_throwing,
  .selects "StandInMill" y_M_throwing y_M_throwing,
  .methodLink "StandInMillLaw" 53 y_R_throwing,
  .instanceMethod y_R_throwing,
  .selects "StandInMillModel" y_R_throwing y_R_throwing,
  .constantLong "StandInMillLaw" 54 4294967295,
  .methodLink "StandInMillLaw" 56 y_M_object,
  .instanceMethod y_M_object,
  .selects "StandInMill" y_M_object y_M_object,
  .methodLink "StandInMillLaw" 60 y_R_object,
  .instanceMethod y_R_object,
  .selects "StandInMillModel" y_R_object y_R_object,
  .methodLink "StandInMillLaw" 61 y_M_value,
  .instanceMethod y_M_value,
  .selects "StandInMill" y_M_value y_M_value,
  .methodLink "StandInMillLaw" 65 y_R_value,
  .instanceMethod y_R_value,
  .selects "StandInMillModel" y_R_value y_R_value,
  .methodLink "StandInMillLaw" 66 y_M_below,
  .instanceMethod y_M_below,
  .selects "StandInMill" y_M_below y_M_below,
  .methodLink "StandInMillLaw" 69 y_R_below,
  .instanceMethod y_R_below,
  .selects "StandInMillModel" y_R_below y_R_below,
  .methodLink "StandInMillLaw" 70 y_M_find,
  .instanceMethod y_M_find,
  .selects "StandInMill" y_M_find y_M_find]
def wc_15 : List Cond := [.methodLink "StandInMillLaw" 73 y_R_find,
  .instanceMethod y_R_find,
  .selects "StandInMillModel" y_R_find y_R_find,
  .methodLink "StandInMillLaw" 74 y_L_stand,
  .methodLink "StandInMillLaw" 79 y_R_stand,
  .instanceMethod y_R_stand,
  .selects "StandInMillModel" y_R_stand y_R_stand,
  .methodLink "StandInMillLaw" 80 y_R_thrown,
  .instanceMethod y_R_thrown,
  .selects "StandInMillModel" y_R_thrown y_R_thrown,
  .methodLink "StandInMillLaw" 84 y_M_fault,
  .instanceMethod y_M_fault,
  .selects "StandInMill" y_M_fault y_M_fault,
  .methodLink "StandInMillLaw" 87 y_R_fault,
  .instanceMethod y_R_fault,
  .selects "StandInMillModel" y_R_fault y_R_fault,
  .methodLink "StandInMillLaw" 88 y_M_about,
  .instanceMethod y_M_about,
  .selects "StandInMill" y_M_about y_M_about,
  .methodLink "StandInMillLaw" 91 y_R_about,
  .instanceMethod y_R_about,
  .selects "StandInMillModel" y_R_about y_R_about,
  .methodLink "StandInMillLaw" 92 y_M_told,
  .instanceMethod y_M_told,
  .selects "StandInMill" y_M_told y_M_told,
  .methodLink "StandInMillLaw" 95 y_R_told,
  .instanceMethod y_R_told,
  .selects "StandInMillModel" y_R_told y_R_told,
  .methodLink "StandInMillLaw" 96 y_M_octet,
  .instanceMethod y_M_octet,
  .selects "StandInMill" y_M_octet y_M_octet,
  .methodLink "StandInMillLaw" 99 y_R_octet,
  .instanceMethod y_R_octet,
  .selects "StandInMillModel" y_R_octet y_R_octet,
  .methodLink "StandInMillLaw" 100 y_M_handler,
  .instanceMethod y_M_handler,
  .selects "StandInMill" y_M_handler y_M_handler,
  .methodLink "StandInMillLaw" 104 y_R_handler,
  .instanceMethod y_R_handler,
  .selects "StandInMillModel" y_R_handler y_R_handler]
def wc_16 : List Cond := [.methodLink "StandInMillLaw" 105 y_L_call,
  .methodLink "StandInMillLaw" 108 y_R_call,
  .instanceMethod y_R_call,
  .selects "StandInMillModel" y_R_call y_R_call,
  .methodLink "StandInMillLaw" 109 y_M_outcome,
  .instanceMethod y_M_outcome,
  .selects "StandInMill" y_M_outcome y_M_outcome,
  .methodLink "StandInMillLaw" 113 y_R_outcome,
  .instanceMethod y_R_outcome,
  .selects "StandInMillModel" y_R_outcome y_R_outcome,
  .methodLink "StandInMillLaw" 114 y_M_seen,
  .instanceMethod y_M_seen,
  .selects "StandInMill" y_M_seen y_M_seen,
  .methodLink "StandInMillLaw" 118 y_R_seen,
  .instanceMethod y_R_seen,
  .selects "StandInMillModel" y_R_seen y_R_seen,
  .code y_Ty_bit b_Ty_bit 1 (some (.long)),
  .code y_Ty_init b_Ty_init 2 none,
  .code y_Rw_init b_Rw_init 2 none,
  .code y_Dr_init b_Dr_init 2 none,
  .code y_Uw_init b_Uw_init 1 none,
  .code y_Om_init b_Om_init 6 none,
  .code y_Ar_fillJ b_Ar_fillJ 5 none,
  .initialized "java/util/Arrays",
  .code y_M_init b_M_init 1 none,
  .code y_M_isWithin b_M_isWithin 2 (some (.boolean)),
  .code y_M_isLoader b_M_isLoader 2 (some (.boolean)),
  .code y_M_loader b_M_loader 2 (some (.int)),
  .code y_Ty_isClass b_Ty_isClass 2 (some (.boolean)),
  .code y_Ty_addClass b_Ty_addClass 2 (some (.int)),
  .code y_M_type b_M_type 2 (some (.int)),
  .code y_M_faceMadeBy b_M_faceMadeBy 5 (some (.int)),
  .code y_M_faceFoundBy b_M_faceFoundBy 8 (some (.int)),
  .code y_Fc_init b_Fc_init 5 none,
  .code y_Ty_addFace b_Ty_addFace 2 none,
  .code y_M_face b_M_face 6 (some (.int)),
  .code y_M_isFace b_M_isFace 2 (some (.boolean)),
  .code y_Fc_hasParent b_Fc_hasParent 3 (some (.boolean)),
  .code y_M_isVisible b_M_isVisible 4 (some (.boolean)),
  .code y_Fc_addParent b_Fc_addParent 2 none]
def wc_17 : List Cond := [.code y_Ty_isBelow b_Ty_isBelow 3 (some (.boolean)),
  .code y_Ty_putBelow b_Ty_putBelow 4 none,
  .code y_M_extend b_M_extend 4 (some (.boolean)),
  .code y_M_byteOf b_M_byteOf 2 (some (.int)),
  .code y_M_cutAtZero b_M_cutAtZero 3 (some (.int)),
  .code y_M_isPlain b_M_isPlain 1 (some (.boolean)),
  .code y_Ty_isThere b_Ty_isThere 2 (some (.boolean)),
  .code y_M_isResult b_M_isResult 2 (some (.boolean)),
  .code y_M_lengthOf b_M_lengthOf 2 (some (.int)),
  .code y_M_areParameters b_M_areParameters 3 (some (.boolean)),
  .code y_Fc_hasOwn b_Fc_hasOwn 4 (some (.boolean)),
  .code y_Fc_addOwn b_Fc_addOwn 2 none,
  .code y_M_method b_M_method 7 (some (.int)),
  .code y_Rw_has b_Rw_has 3 (some (.boolean)),
  .code y_Rw_add b_Rw_add 2 none,
  .code y_M_throwing b_M_throwing 6 (some (.boolean)),
  .code y_M_isBox b_M_isBox 1 (some (.boolean)),
  .code y_M_fitted b_M_fitted 3 (some (.long)),
  .code y_M_object b_M_object 4 (some (.int)),
  .code y_M_value b_M_value 3 (some (.long)),
  .code y_M_below b_M_below 3 (some (.boolean)),
  .code y_M_find b_M_find 4 (some (.int)),
  .code y_M_areFaces b_M_areFaces 3 (some (.boolean)),
  .code y_M_standMadeFor b_M_standMadeFor 4 (some (.int)),
  .code y_M_areVisible b_M_areVisible 4 (some (.boolean)),
  .code y_M_hasTwice b_M_hasTwice 3 (some (.boolean)),
  .code y_M_packageOf b_M_packageOf 4 (some (.int)),
  .code y_M_isInTwoPackages b_M_isInTwoPackages 5 (some (.boolean)),
  .code y_M_faultOfList b_M_faultOfList 3 (some (.int)),
  .code y_Fc_gather b_Fc_gather 3 none,
  .code y_Fc_gatherOwn b_Fc_gatherOwn 2 none,
  .code y_Fc_gatherFrom b_Fc_gatherFrom 4 none,
  .code y_M_gatherMethods b_M_gatherMethods 4 none,
  .code y_Dr_clear b_Dr_clear 1 none,
  .code y_Om_hasSignatureOf b_Om_hasSignatureOf 2 (some (.boolean)),
  .code y_Rw_clear b_Rw_clear 1 none,
  .code y_Rw_copyFrom b_Rw_copyFrom 3 none,
  .code y_Ty_isBelowOneOf b_Ty_isBelowOneOf 4 (some (.boolean)),
  .code y_Ty_addBelow b_Ty_addBelow 5 none,
  .code y_Dr_narrow b_Dr_narrow 3 none]
def wc_18 : List Cond := [.code y_Sm_init b_Sm_init 1 none,
  .code y_Dr_insert b_Dr_insert 5 none,
  .code y_Dr_take b_Dr_take 4 none,
  .code y_M_fillDraft b_M_fillDraft 5 none,
  .code y_Dr_endOfSignature b_Dr_endOfSignature 3 (some (.int)),
  .code y_Dr_isBelowAll b_Dr_isBelowAll 5 (some (.boolean)),
  .code y_Dr_resultsAgreeWithin b_Dr_resultsAgreeWithin 6 (some (.boolean)),
  .code y_Dr_resultsAgree b_Dr_resultsAgree 3 (some (.boolean)),
  .code y_M_faultOfDraft b_M_faultOfDraft 1 (some (.int)),
  .code y_M_standsOfPackage b_M_standsOfPackage 4 (some (.int)),
  .code y_Si_init b_Si_init 6 none,
  .code y_Rw_at b_Rw_at 2 (some (.int)),
  .code y_Ty_dropBelow b_Ty_dropBelow 5 none,
  .code y_Dr_fillCaught b_Dr_fillCaught 5 none,
  .code y_Dr_handOver b_Dr_handOver 3 none,
  .code y_M_madeOfDraft b_M_madeOfDraft 5 (some (.object "StandInMill$StandIn")),
  .code y_Ar_fillI b_Ar_fillI 4 none,
  .code y_Uw_put b_Uw_put 2 none,
  .code y_Uw_putInPool b_Uw_putInPool 2 none,
  .code y_Uw_putEntry b_Uw_putEntry 5 (some (.boolean)),
  .code y_Uw_putType b_Uw_putType 2 none,
  .code y_Uw_putTypes b_Uw_putTypes 3 none,
  .code y_Uw_putRow b_Uw_putRow 3 none,
  .code y_Uw_putMethodEntry b_Uw_putMethodEntry 3 none,
  .code y_Om_parameterCount b_Om_parameterCount 1 (some (.int)),
  .code y_Uw_putParameterCode b_Uw_putParameterCode 5 none,
  .code y_Uw_putResultCode b_Uw_putResultCode 2 none,
  .code y_Uw_putCode b_Uw_putCode 3 none,
  .code y_Uw_putMethod b_Uw_putMethod 4 none,
  .code y_Uw_joined b_Uw_joined 2 (some (.array (.byte))),
  .code y_Uw_write b_Uw_write 3 (some (.array (.byte))),
  .code y_M_stand b_M_stand 6 (some (.int)),
  .code y_M_fault b_M_fault 1 (some (.int)),
  .code y_M_about b_M_about 4 (some (.int)),
  .code y_M_hasMethod b_M_hasMethod 3 (some (.boolean)),
  .code y_M_told b_M_told 6 (some (.int)),
  .code y_M_octet b_M_octet 3 (some (.int)),
  .code y_M_handler b_M_handler 4 (some (.boolean)),
  .code y_M_isObjectBelow b_M_isObjectBelow 4 (some (.boolean)),
  .code y_M_takesGiven b_M_takesGiven 4 (some (.boolean))]
def wc_19 : List Cond := [.code y_M_showObject b_M_showObject 4 none,
  .code y_M_showHandler b_M_showHandler 4 none,
  .code y_M_fitThrown b_M_fitThrown 3 (some (.int)),
  .code y_M_fitAnswer b_M_fitAnswer 4 (some (.int)),
  .code y_M_call b_M_call 11 (some (.int)),
  .code y_M_outcome b_M_outcome 1 (some (.long)),
  .code y_M_seen b_M_seen 2 (some (.long)),
  .code y_R_init b_R_init 2 none,
  .code y_R_isClass b_R_isClass 2 (some (.boolean)),
  .code y_R_isFace b_R_isFace 2 (some (.boolean)),
  .code y_R_isPlain b_R_isPlain 1 (some (.boolean)),
  .code y_R_isBox b_R_isBox 1 (some (.boolean)),
  .code y_R_there b_R_there 2 (some (.boolean)),
  .code y_R_isBelow b_R_isBelow 6 (some (.boolean)),
  .code y_R_fitted b_R_fitted 3 (some (.long)),
  .code y_R_madeBy b_R_madeBy 5 (some (.int)),
  .code y_R_finds b_R_finds 7 (some (.int)),
  .code y_R_visible b_R_visible 3 (some (.boolean)),
  .code y_R_sameSignature b_R_sameSignature 3 (some (.boolean)),
  .code y_R_takesCount b_R_takesCount 3 (some (.int)),
  .code y_R_listMethods b_R_listMethods 9 none,
  .code y_R_add b_R_add 3 none,
  .code y_R_belowOneOf b_R_belowOneOf 4 (some (.boolean)),
  .code y_R_merge b_R_merge 10 none,
  .code y_R_describe b_R_describe 7 none,
  .code y_R_wrongResults b_R_wrongResults 9 (some (.boolean)),
  .code y_R_faultOf b_R_faultOf 9 (some (.int)),
  .code y_R_catchFor b_R_catchFor 7 none,
  .code y_R_say b_R_say 2 none,
  .code y_R_entry b_R_entry 5 (some (.int)),
  .code y_R_owner b_R_owner 1 (some (.int)),
  .code y_R_numberOf b_R_numberOf 1 (some (.int)),
  .code y_R_sayCode b_R_sayCode 6 none,
  .code y_R_sayMethod b_R_sayMethod 6 none,
  .code y_R_unit b_R_unit 5 none,
  .code y_R_poolBytes b_R_poolBytes 3 (some (.int)),
  .code y_R_unitByte b_R_unitByte 5 (some (.int)),
  .code y_R_thrown b_R_thrown 1 (some (.int)),
  .code y_R_loader b_R_loader 2 (some (.int)),
  .code y_R_type b_R_type 2 (some (.int))]
def wc_20 : List Cond := [.code y_R_face b_R_face 5 (some (.int)),
  .code y_R_extend b_R_extend 5 (some (.boolean)),
  .code y_R_method b_R_method 10 (some (.int)),
  .code y_R_throwing b_R_throwing 6 (some (.boolean)),
  .code y_R_object b_R_object 4 (some (.int)),
  .code y_R_value b_R_value 3 (some (.long)),
  .code y_R_below b_R_below 3 (some (.boolean)),
  .code y_R_find b_R_find 5 (some (.int)),
  .code y_R_cleaned b_R_cleaned 4 (some (.int)),
  .code y_R_stand b_R_stand 7 (some (.int)),
  .code y_R_fault b_R_fault 1 (some (.int)),
  .code y_R_isStand b_R_isStand 2 (some (.boolean)),
  .code y_R_about b_R_about 3 (some (.int)),
  .code y_R_told b_R_told 6 (some (.int)),
  .code y_R_octet b_R_octet 3 (some (.int)),
  .code y_R_handler b_R_handler 4 (some (.boolean)),
  .code y_R_takesAs b_R_takesAs 5 (some (.boolean)),
  .code y_R_fit b_R_fit 7 (some (.int)),
  .code y_R_call b_R_call 13 (some (.int)),
  .code y_R_outcome b_R_outcome 1 (some (.long)),
  .code y_R_seen b_R_seen 2 (some (.long))]
def WL : List (List Cond) := [u_ws "StandInMill" F_M 18, u_ws "StandInMill$ClassRow" F_Rw 2, u_ws "StandInMill$Draft" F_Dr 4, u_ws "StandInMill$Face" F_Fc 10, u_ws "StandInMill$OwnMethod" F_Om 6, u_ws "StandInMill$StandIn" F_Si 8, u_ws "StandInMill$StandMethod" F_Sm 3, u_ws "StandInMill$Types" F_Ty 2, u_ws "StandInMill$UnitWriter" F_Uw 6, u_ws "StandInMillModel" F_R 47, wc_0, wc_1, wc_2, wc_3, wc_4, wc_5, wc_6, wc_7, wc_8, wc_9, wc_10, wc_11, wc_12, wc_13, wc_14, wc_15, wc_16, wc_17, wc_18, wc_19, wc_20]
def WG : List Cond := WL.flatten
theorem in_WG {l : List Cond} (i : Nat) (h : WL[i]? = some l) {w : Cond} (hw : w ∈ l) : w ∈ WG := List.mem_flatten.mpr ⟨l, List.mem_of_getElem? h, hw⟩
theorem WG_good : ∀ w ∈ WG, (w.onTables && w.keeps) = true ∨ ∃ ty, w = .arrayClass ty := by
  intro w hw
  have h : (WG.all goodWord) = true := by decide +kernel
  exact good_of_word (List.all_eq_true.mp h w hw)
theorem m_0 : (.methodLink "StandInMill$Types" 3 objectInit : Cond) ∈ WG := in_WG 10 rfl (List.mem_of_getElem? (i := 0) rfl)
theorem m_1 : (.instanceMethod objectInit : Cond) ∈ WG := in_WG 10 rfl (List.mem_of_getElem? (i := 1) rfl)
theorem m_2 : (.code objectInit ⟨#[0xb1]⟩ 1 none : Cond) ∈ WG := in_WG 10 rfl (List.mem_of_getElem? (i := 2) rfl)
theorem m_3 : (.arrayClass (.long) : Cond) ∈ WG := in_WG 10 rfl (List.mem_of_getElem? (i := 3) rfl)
theorem m_4 : (.fieldLink "StandInMill$Types" 11 "StandInMill$Types" "aboves" "[J" : Cond) ∈ WG := in_WG 10 rfl (List.mem_of_getElem? (i := 4) rfl)
theorem m_5 : (.fieldLink "StandInMill$Types" 15 "StandInMill$Types" "nextClass" "I" : Cond) ∈ WG := in_WG 10 rfl (List.mem_of_getElem? (i := 5) rfl)
theorem m_6 : (.methodLink "StandInMill$Types" 19 y_Ty_bit : Cond) ∈ WG := in_WG 10 rfl (List.mem_of_getElem? (i := 6) rfl)
theorem m_7 : (.static y_Ty_bit : Cond) ∈ WG := in_WG 10 rfl (List.mem_of_getElem? (i := 7) rfl)
theorem m_8 : (.methodLink "StandInMill$ClassRow" 3 objectInit : Cond) ∈ WG := in_WG 10 rfl (List.mem_of_getElem? (i := 8) rfl)
theorem m_9 : (.arrayClass (.int) : Cond) ∈ WG := in_WG 10 rfl (List.mem_of_getElem? (i := 9) rfl)
theorem m_10 : (.fieldLink "StandInMill$ClassRow" 9 "StandInMill$ClassRow" "classes" "[I" : Cond) ∈ WG := in_WG 10 rfl (List.mem_of_getElem? (i := 10) rfl)
theorem m_11 : (.methodLink "StandInMill$Draft" 3 objectInit : Cond) ∈ WG := in_WG 10 rfl (List.mem_of_getElem? (i := 11) rfl)
theorem m_12 : (.classLink "StandInMill$Draft" 9 "StandInMill$StandMethod" : Cond) ∈ WG := in_WG 10 rfl (List.mem_of_getElem? (i := 12) rfl)
theorem m_13 : (.fieldLink "StandInMill$Draft" 11 "StandInMill$Draft" "methods" "[LStandInMill$StandMethod;" : Cond) ∈ WG := in_WG 10 rfl (List.mem_of_getElem? (i := 13) rfl)
theorem m_14 : (.classLink "StandInMill$Draft" 17 "StandInMill$ClassRow" : Cond) ∈ WG := in_WG 10 rfl (List.mem_of_getElem? (i := 14) rfl)
theorem m_15 : (.instantiable "StandInMill$ClassRow" 2 : Cond) ∈ WG := in_WG 10 rfl (List.mem_of_getElem? (i := 15) rfl)
theorem m_16 : (.initialized "StandInMill$ClassRow" : Cond) ∈ WG := in_WG 10 rfl (List.mem_of_getElem? (i := 16) rfl)
theorem m_17 : (.methodLink "StandInMill$Draft" 19 y_Rw_init : Cond) ∈ WG := in_WG 10 rfl (List.mem_of_getElem? (i := 17) rfl)
theorem m_18 : (.instanceMethod y_Rw_init : Cond) ∈ WG := in_WG 10 rfl (List.mem_of_getElem? (i := 18) rfl)
theorem m_19 : (.fieldLink "StandInMill$Draft" 22 "StandInMill$Draft" "soFar" "LStandInMill$ClassRow;" : Cond) ∈ WG := in_WG 10 rfl (List.mem_of_getElem? (i := 19) rfl)
theorem m_20 : (.fieldLink "StandInMill$Draft" 26 "StandInMill$Draft" "types" "LStandInMill$Types;" : Cond) ∈ WG := in_WG 10 rfl (List.mem_of_getElem? (i := 20) rfl)
theorem m_21 : (.methodLink "StandInMill$UnitWriter" 5 objectInit : Cond) ∈ WG := in_WG 10 rfl (List.mem_of_getElem? (i := 21) rfl)
theorem m_22 : (.fieldLink "StandInMill$UnitWriter" 11 "StandInMill$UnitWriter" "entryOf" "[I" : Cond) ∈ WG := in_WG 10 rfl (List.mem_of_getElem? (i := 22) rfl)
theorem m_23 : (.arrayClass (.byte) : Cond) ∈ WG := in_WG 10 rfl (List.mem_of_getElem? (i := 23) rfl)
theorem m_24 : (.fieldLink "StandInMill$UnitWriter" 15 "StandInMill$UnitWriter" "pool" "[B" : Cond) ∈ WG := in_WG 10 rfl (List.mem_of_getElem? (i := 24) rfl)
theorem m_25 : (.fieldLink "StandInMill$UnitWriter" 19 "StandInMill$UnitWriter" "body" "[B" : Cond) ∈ WG := in_WG 10 rfl (List.mem_of_getElem? (i := 25) rfl)
theorem m_26 : (.methodLink "StandInMill$OwnMethod" 3 objectInit : Cond) ∈ WG := in_WG 10 rfl (List.mem_of_getElem? (i := 26) rfl)
theorem m_27 : (.classLink "StandInMill$OwnMethod" 9 "StandInMill$ClassRow" : Cond) ∈ WG := in_WG 10 rfl (List.mem_of_getElem? (i := 27) rfl)
theorem m_28 : (.methodLink "StandInMill$OwnMethod" 11 y_Rw_init : Cond) ∈ WG := in_WG 10 rfl (List.mem_of_getElem? (i := 28) rfl)
theorem m_29 : (.fieldLink "StandInMill$OwnMethod" 14 "StandInMill$OwnMethod" "thrown" "LStandInMill$ClassRow;" : Cond) ∈ WG := in_WG 10 rfl (List.mem_of_getElem? (i := 29) rfl)
theorem m_30 : (.fieldLink "StandInMill$OwnMethod" 20 "StandInMill$OwnMethod" "owner" "I" : Cond) ∈ WG := in_WG 10 rfl (List.mem_of_getElem? (i := 30) rfl)
theorem m_31 : (.fieldLink "StandInMill$OwnMethod" 24 "StandInMill$OwnMethod" "number" "I" : Cond) ∈ WG := in_WG 10 rfl (List.mem_of_getElem? (i := 31) rfl)
theorem m_32 : (.fieldLink "StandInMill$OwnMethod" 27 "StandInMill$OwnMethod" "name" "I" : Cond) ∈ WG := in_WG 10 rfl (List.mem_of_getElem? (i := 32) rfl)
theorem m_33 : (.fieldLink "StandInMill$OwnMethod" 30 "StandInMill$OwnMethod" "parameters" "I" : Cond) ∈ WG := in_WG 10 rfl (List.mem_of_getElem? (i := 33) rfl)
theorem m_34 : (.fieldLink "StandInMill$OwnMethod" 33 "StandInMill$OwnMethod" "result" "I" : Cond) ∈ WG := in_WG 10 rfl (List.mem_of_getElem? (i := 34) rfl)
theorem m_35 : (.methodLink "StandInMill" 1 objectInit : Cond) ∈ WG := in_WG 10 rfl (List.mem_of_getElem? (i := 35) rfl)
theorem m_36 : (.classLink "StandInMill" 7 "StandInMill$Types" : Cond) ∈ WG := in_WG 10 rfl (List.mem_of_getElem? (i := 36) rfl)
theorem m_37 : (.instantiable "StandInMill$Types" 2 : Cond) ∈ WG := in_WG 10 rfl (List.mem_of_getElem? (i := 37) rfl)
theorem m_38 : (.initialized "StandInMill$Types" : Cond) ∈ WG := in_WG 10 rfl (List.mem_of_getElem? (i := 38) rfl)
theorem m_39 : (.methodLink "StandInMill" 9 y_Ty_init : Cond) ∈ WG := in_WG 10 rfl (List.mem_of_getElem? (i := 39) rfl)
theorem m_40 : (.instanceMethod y_Ty_init : Cond) ∈ WG := in_WG 11 rfl (List.mem_of_getElem? (i := 0) rfl)
theorem m_41 : (.fieldLink "StandInMill" 10 "StandInMill" "types" "LStandInMill$Types;" : Cond) ∈ WG := in_WG 11 rfl (List.mem_of_getElem? (i := 1) rfl)
theorem m_42 : (.fieldLink "StandInMill" 16 "StandInMill" "loaderParents" "[I" : Cond) ∈ WG := in_WG 11 rfl (List.mem_of_getElem? (i := 2) rfl)
theorem m_43 : (.classLink "StandInMill" 20 "StandInMill$Face" : Cond) ∈ WG := in_WG 11 rfl (List.mem_of_getElem? (i := 3) rfl)
theorem m_44 : (.fieldLink "StandInMill" 22 "StandInMill" "faces" "[LStandInMill$Face;" : Cond) ∈ WG := in_WG 11 rfl (List.mem_of_getElem? (i := 4) rfl)
theorem m_45 : (.fieldLink "StandInMill" 26 "StandInMill" "objectTypes" "[I" : Cond) ∈ WG := in_WG 11 rfl (List.mem_of_getElem? (i := 5) rfl)
theorem m_46 : (.fieldLink "StandInMill" 29 "StandInMill" "objectValues" "[J" : Cond) ∈ WG := in_WG 11 rfl (List.mem_of_getElem? (i := 6) rfl)
theorem m_47 : (.classLink "StandInMill" 33 "StandInMill$OwnMethod" : Cond) ∈ WG := in_WG 11 rfl (List.mem_of_getElem? (i := 7) rfl)
theorem m_48 : (.fieldLink "StandInMill" 35 "StandInMill" "rootMethods" "[LStandInMill$OwnMethod;" : Cond) ∈ WG := in_WG 11 rfl (List.mem_of_getElem? (i := 8) rfl)
theorem m_49 : (.classLink "StandInMill" 39 "StandInMill$StandIn" : Cond) ∈ WG := in_WG 11 rfl (List.mem_of_getElem? (i := 9) rfl)
theorem m_50 : (.fieldLink "StandInMill" 41 "StandInMill" "stands" "[LStandInMill$StandIn;" : Cond) ∈ WG := in_WG 11 rfl (List.mem_of_getElem? (i := 10) rfl)
theorem m_51 : (.classLink "StandInMill" 45 "StandInMill$Draft" : Cond) ∈ WG := in_WG 11 rfl (List.mem_of_getElem? (i := 11) rfl)
theorem m_52 : (.instantiable "StandInMill$Draft" 4 : Cond) ∈ WG := in_WG 11 rfl (List.mem_of_getElem? (i := 12) rfl)
theorem m_53 : (.initialized "StandInMill$Draft" : Cond) ∈ WG := in_WG 11 rfl (List.mem_of_getElem? (i := 13) rfl)
theorem m_54 : (.methodLink "StandInMill" 47 y_Dr_init : Cond) ∈ WG := in_WG 11 rfl (List.mem_of_getElem? (i := 14) rfl)
theorem m_55 : (.instanceMethod y_Dr_init : Cond) ∈ WG := in_WG 11 rfl (List.mem_of_getElem? (i := 15) rfl)
theorem m_56 : (.fieldLink "StandInMill" 50 "StandInMill" "draft" "LStandInMill$Draft;" : Cond) ∈ WG := in_WG 11 rfl (List.mem_of_getElem? (i := 16) rfl)
theorem m_57 : (.classLink "StandInMill" 54 "StandInMill$UnitWriter" : Cond) ∈ WG := in_WG 11 rfl (List.mem_of_getElem? (i := 17) rfl)
theorem m_58 : (.instantiable "StandInMill$UnitWriter" 6 : Cond) ∈ WG := in_WG 11 rfl (List.mem_of_getElem? (i := 18) rfl)
theorem m_59 : (.initialized "StandInMill$UnitWriter" : Cond) ∈ WG := in_WG 11 rfl (List.mem_of_getElem? (i := 19) rfl)
theorem m_60 : (.instanceMethod y_Uw_init : Cond) ∈ WG := in_WG 11 rfl (List.mem_of_getElem? (i := 20) rfl)
theorem m_61 : (.fieldLink "StandInMill" 57 "StandInMill" "writer" "LStandInMill$UnitWriter;" : Cond) ∈ WG := in_WG 11 rfl (List.mem_of_getElem? (i := 21) rfl)
theorem m_62 : (.constantLong "StandInMill" 61 (-1) : Cond) ∈ WG := in_WG 11 rfl (List.mem_of_getElem? (i := 22) rfl)
theorem m_63 : (.fieldLink "StandInMill" 63 "StandInMill" "latestOutcome" "J" : Cond) ∈ WG := in_WG 11 rfl (List.mem_of_getElem? (i := 23) rfl)
theorem m_64 : (.fieldLink "StandInMill" 67 "StandInMill" "given" "[J" : Cond) ∈ WG := in_WG 11 rfl (List.mem_of_getElem? (i := 24) rfl)
theorem m_65 : (.fieldLink "StandInMill" 70 "StandInMill" "seenRow" "[J" : Cond) ∈ WG := in_WG 11 rfl (List.mem_of_getElem? (i := 25) rfl)
theorem m_66 : (.fieldLink "StandInMill" 73 "StandInMill" "loaderCount" "I" : Cond) ∈ WG := in_WG 11 rfl (List.mem_of_getElem? (i := 26) rfl)
theorem m_67 : (.instantiable "StandInMill$OwnMethod" 6 : Cond) ∈ WG := in_WG 11 rfl (List.mem_of_getElem? (i := 27) rfl)
theorem m_68 : (.initialized "StandInMill$OwnMethod" : Cond) ∈ WG := in_WG 11 rfl (List.mem_of_getElem? (i := 28) rfl)
theorem m_69 : (.methodLink "StandInMill" 77 y_Om_init : Cond) ∈ WG := in_WG 11 rfl (List.mem_of_getElem? (i := 29) rfl)
theorem m_70 : (.instanceMethod y_Om_init : Cond) ∈ WG := in_WG 11 rfl (List.mem_of_getElem? (i := 30) rfl)
theorem m_71 : (.methodLink "StandInMill" 80 y_Ar_fillJ : Cond) ∈ WG := in_WG 11 rfl (List.mem_of_getElem? (i := 31) rfl)
theorem m_72 : (.static y_Ar_fillJ : Cond) ∈ WG := in_WG 11 rfl (List.mem_of_getElem? (i := 32) rfl)
theorem m_73 : (.methodLink "StandInMill" 94 y_M_isWithin : Cond) ∈ WG := in_WG 11 rfl (List.mem_of_getElem? (i := 33) rfl)
theorem m_74 : (.static y_M_isWithin : Cond) ∈ WG := in_WG 11 rfl (List.mem_of_getElem? (i := 34) rfl)
theorem m_75 : (.methodLink "StandInMill" 86 y_M_isLoader : Cond) ∈ WG := in_WG 11 rfl (List.mem_of_getElem? (i := 35) rfl)
theorem m_76 : (.instanceMethod y_M_isLoader : Cond) ∈ WG := in_WG 11 rfl (List.mem_of_getElem? (i := 36) rfl)
theorem m_77 : (.selects "StandInMill" y_M_isLoader y_M_isLoader : Cond) ∈ WG := in_WG 11 rfl (List.mem_of_getElem? (i := 37) rfl)
theorem m_78 : (.methodLink "StandInMill$Types" 23 y_Ty_isClass : Cond) ∈ WG := in_WG 11 rfl (List.mem_of_getElem? (i := 38) rfl)
theorem m_79 : (.instanceMethod y_Ty_isClass : Cond) ∈ WG := in_WG 11 rfl (List.mem_of_getElem? (i := 39) rfl)
theorem m_80 : (.selects "StandInMill$Types" y_Ty_isClass y_Ty_isClass : Cond) ∈ WG := in_WG 12 rfl (List.mem_of_getElem? (i := 0) rfl)
theorem m_81 : (.methodLink "StandInMill" 90 y_Ty_addClass : Cond) ∈ WG := in_WG 12 rfl (List.mem_of_getElem? (i := 1) rfl)
theorem m_82 : (.instanceMethod y_Ty_addClass : Cond) ∈ WG := in_WG 12 rfl (List.mem_of_getElem? (i := 2) rfl)
theorem m_83 : (.selects "StandInMill$Types" y_Ty_addClass y_Ty_addClass : Cond) ∈ WG := in_WG 12 rfl (List.mem_of_getElem? (i := 3) rfl)
theorem m_84 : (.fieldLink "StandInMill" 102 "StandInMill" "faceCount" "I" : Cond) ∈ WG := in_WG 12 rfl (List.mem_of_getElem? (i := 4) rfl)
theorem m_85 : (.methodLink "StandInMill" 311 y_M_faceMadeBy : Cond) ∈ WG := in_WG 12 rfl (List.mem_of_getElem? (i := 5) rfl)
theorem m_86 : (.instanceMethod y_M_faceMadeBy : Cond) ∈ WG := in_WG 12 rfl (List.mem_of_getElem? (i := 6) rfl)
theorem m_87 : (.selects "StandInMill" y_M_faceMadeBy y_M_faceMadeBy : Cond) ∈ WG := in_WG 12 rfl (List.mem_of_getElem? (i := 7) rfl)
theorem m_88 : (.methodLink "StandInMill$Face" 3 objectInit : Cond) ∈ WG := in_WG 12 rfl (List.mem_of_getElem? (i := 8) rfl)
theorem m_89 : (.fieldLink "StandInMill$Face" 9 "StandInMill$Face" "parents" "[I" : Cond) ∈ WG := in_WG 12 rfl (List.mem_of_getElem? (i := 9) rfl)
theorem m_90 : (.classLink "StandInMill$Face" 15 "StandInMill$OwnMethod" : Cond) ∈ WG := in_WG 12 rfl (List.mem_of_getElem? (i := 10) rfl)
theorem m_91 : (.fieldLink "StandInMill$Face" 17 "StandInMill$Face" "own" "[LStandInMill$OwnMethod;" : Cond) ∈ WG := in_WG 12 rfl (List.mem_of_getElem? (i := 11) rfl)
theorem m_92 : (.fieldLink "StandInMill$Face" 21 "StandInMill$Face" "all" "[LStandInMill$OwnMethod;" : Cond) ∈ WG := in_WG 12 rfl (List.mem_of_getElem? (i := 12) rfl)
theorem m_93 : (.fieldLink "StandInMill$Face" 24 "StandInMill$Face" "loader" "I" : Cond) ∈ WG := in_WG 12 rfl (List.mem_of_getElem? (i := 13) rfl)
theorem m_94 : (.fieldLink "StandInMill$Face" 28 "StandInMill$Face" "name" "I" : Cond) ∈ WG := in_WG 12 rfl (List.mem_of_getElem? (i := 14) rfl)
theorem m_95 : (.fieldLink "StandInMill$Face" 31 "StandInMill$Face" "pack" "I" : Cond) ∈ WG := in_WG 12 rfl (List.mem_of_getElem? (i := 15) rfl)
theorem m_96 : (.fieldLink "StandInMill$Face" 34 "StandInMill$Face" "open" "Z" : Cond) ∈ WG := in_WG 12 rfl (List.mem_of_getElem? (i := 16) rfl)
theorem m_97 : (.methodLink "StandInMill" 98 y_M_faceFoundBy : Cond) ∈ WG := in_WG 12 rfl (List.mem_of_getElem? (i := 17) rfl)
theorem m_98 : (.instanceMethod y_M_faceFoundBy : Cond) ∈ WG := in_WG 12 rfl (List.mem_of_getElem? (i := 18) rfl)
theorem m_99 : (.selects "StandInMill" y_M_faceFoundBy y_M_faceFoundBy : Cond) ∈ WG := in_WG 12 rfl (List.mem_of_getElem? (i := 19) rfl)
theorem m_100 : (.instantiable "StandInMill$Face" 10 : Cond) ∈ WG := in_WG 12 rfl (List.mem_of_getElem? (i := 20) rfl)
theorem m_101 : (.initialized "StandInMill$Face" : Cond) ∈ WG := in_WG 12 rfl (List.mem_of_getElem? (i := 21) rfl)
theorem m_102 : (.methodLink "StandInMill" 105 y_Fc_init : Cond) ∈ WG := in_WG 12 rfl (List.mem_of_getElem? (i := 22) rfl)
theorem m_103 : (.instanceMethod y_Fc_init : Cond) ∈ WG := in_WG 12 rfl (List.mem_of_getElem? (i := 23) rfl)
theorem m_104 : (.methodLink "StandInMill" 108 y_Ty_addFace : Cond) ∈ WG := in_WG 12 rfl (List.mem_of_getElem? (i := 24) rfl)
theorem m_105 : (.instanceMethod y_Ty_addFace : Cond) ∈ WG := in_WG 12 rfl (List.mem_of_getElem? (i := 25) rfl)
theorem m_106 : (.selects "StandInMill$Types" y_Ty_addFace y_Ty_addFace : Cond) ∈ WG := in_WG 12 rfl (List.mem_of_getElem? (i := 26) rfl)
theorem m_107 : (.fieldLink "StandInMill$Face" 38 "StandInMill$Face" "parentCount" "I" : Cond) ∈ WG := in_WG 12 rfl (List.mem_of_getElem? (i := 27) rfl)
theorem m_108 : (.methodLink "StandInMill$Types" 27 y_Ty_isBelow : Cond) ∈ WG := in_WG 12 rfl (List.mem_of_getElem? (i := 28) rfl)
theorem m_109 : (.instanceMethod y_Ty_isBelow : Cond) ∈ WG := in_WG 12 rfl (List.mem_of_getElem? (i := 29) rfl)
theorem m_110 : (.selects "StandInMill$Types" y_Ty_isBelow y_Ty_isBelow : Cond) ∈ WG := in_WG 12 rfl (List.mem_of_getElem? (i := 30) rfl)
theorem m_111 : (.fieldLink "StandInMill" 112 "StandInMill" "standCount" "I" : Cond) ∈ WG := in_WG 12 rfl (List.mem_of_getElem? (i := 31) rfl)
theorem m_112 : (.methodLink "StandInMill" 115 y_M_isFace : Cond) ∈ WG := in_WG 12 rfl (List.mem_of_getElem? (i := 32) rfl)
theorem m_113 : (.instanceMethod y_M_isFace : Cond) ∈ WG := in_WG 12 rfl (List.mem_of_getElem? (i := 33) rfl)
theorem m_114 : (.selects "StandInMill" y_M_isFace y_M_isFace : Cond) ∈ WG := in_WG 12 rfl (List.mem_of_getElem? (i := 34) rfl)
theorem m_115 : (.methodLink "StandInMill" 118 y_Fc_hasParent : Cond) ∈ WG := in_WG 12 rfl (List.mem_of_getElem? (i := 35) rfl)
theorem m_116 : (.instanceMethod y_Fc_hasParent : Cond) ∈ WG := in_WG 12 rfl (List.mem_of_getElem? (i := 36) rfl)
theorem m_117 : (.selects "StandInMill$Face" y_Fc_hasParent y_Fc_hasParent : Cond) ∈ WG := in_WG 12 rfl (List.mem_of_getElem? (i := 37) rfl)
theorem m_118 : (.methodLink "StandInMill" 127 y_M_isVisible : Cond) ∈ WG := in_WG 12 rfl (List.mem_of_getElem? (i := 38) rfl)
theorem m_119 : (.instanceMethod y_M_isVisible : Cond) ∈ WG := in_WG 12 rfl (List.mem_of_getElem? (i := 39) rfl)
theorem m_120 : (.selects "StandInMill" y_M_isVisible y_M_isVisible : Cond) ∈ WG := in_WG 13 rfl (List.mem_of_getElem? (i := 0) rfl)
theorem m_121 : (.methodLink "StandInMill" 130 y_Fc_addParent : Cond) ∈ WG := in_WG 13 rfl (List.mem_of_getElem? (i := 1) rfl)
theorem m_122 : (.instanceMethod y_Fc_addParent : Cond) ∈ WG := in_WG 13 rfl (List.mem_of_getElem? (i := 2) rfl)
theorem m_123 : (.selects "StandInMill$Face" y_Fc_addParent y_Fc_addParent : Cond) ∈ WG := in_WG 13 rfl (List.mem_of_getElem? (i := 3) rfl)
theorem m_124 : (.methodLink "StandInMill" 133 y_Ty_putBelow : Cond) ∈ WG := in_WG 13 rfl (List.mem_of_getElem? (i := 4) rfl)
theorem m_125 : (.instanceMethod y_Ty_putBelow : Cond) ∈ WG := in_WG 13 rfl (List.mem_of_getElem? (i := 5) rfl)
theorem m_126 : (.selects "StandInMill$Types" y_Ty_putBelow y_Ty_putBelow : Cond) ∈ WG := in_WG 13 rfl (List.mem_of_getElem? (i := 6) rfl)
theorem m_127 : (.fieldLink "StandInMill" 137 "StandInMill" "gathered" "Z" : Cond) ∈ WG := in_WG 13 rfl (List.mem_of_getElem? (i := 7) rfl)
theorem m_128 : (.methodLink "StandInMill" 274 y_M_byteOf : Cond) ∈ WG := in_WG 13 rfl (List.mem_of_getElem? (i := 8) rfl)
theorem m_129 : (.static y_M_byteOf : Cond) ∈ WG := in_WG 13 rfl (List.mem_of_getElem? (i := 9) rfl)
theorem m_130 : (.static y_M_isPlain : Cond) ∈ WG := in_WG 13 rfl (List.mem_of_getElem? (i := 10) rfl)
theorem m_131 : (.methodLink "StandInMill" 305 y_Ty_isThere : Cond) ∈ WG := in_WG 13 rfl (List.mem_of_getElem? (i := 11) rfl)
theorem m_132 : (.instanceMethod y_Ty_isThere : Cond) ∈ WG := in_WG 13 rfl (List.mem_of_getElem? (i := 12) rfl)
theorem m_133 : (.selects "StandInMill$Types" y_Ty_isThere y_Ty_isThere : Cond) ∈ WG := in_WG 13 rfl (List.mem_of_getElem? (i := 13) rfl)
theorem m_134 : (.methodLink "StandInMill" 308 y_M_lengthOf : Cond) ∈ WG := in_WG 13 rfl (List.mem_of_getElem? (i := 14) rfl)
theorem m_135 : (.static y_M_lengthOf : Cond) ∈ WG := in_WG 13 rfl (List.mem_of_getElem? (i := 15) rfl)
theorem m_136 : (.fieldLink "StandInMill$Face" 41 "StandInMill$Face" "ownCount" "I" : Cond) ∈ WG := in_WG 13 rfl (List.mem_of_getElem? (i := 16) rfl)
theorem m_137 : (.methodLink "StandInMill" 141 y_M_cutAtZero : Cond) ∈ WG := in_WG 13 rfl (List.mem_of_getElem? (i := 17) rfl)
theorem m_138 : (.static y_M_cutAtZero : Cond) ∈ WG := in_WG 13 rfl (List.mem_of_getElem? (i := 18) rfl)
theorem m_139 : (.methodLink "StandInMill" 144 y_M_isResult : Cond) ∈ WG := in_WG 13 rfl (List.mem_of_getElem? (i := 19) rfl)
theorem m_140 : (.instanceMethod y_M_isResult : Cond) ∈ WG := in_WG 13 rfl (List.mem_of_getElem? (i := 20) rfl)
theorem m_141 : (.selects "StandInMill" y_M_isResult y_M_isResult : Cond) ∈ WG := in_WG 13 rfl (List.mem_of_getElem? (i := 21) rfl)
theorem m_142 : (.methodLink "StandInMill" 147 y_M_areParameters : Cond) ∈ WG := in_WG 13 rfl (List.mem_of_getElem? (i := 22) rfl)
theorem m_143 : (.instanceMethod y_M_areParameters : Cond) ∈ WG := in_WG 13 rfl (List.mem_of_getElem? (i := 23) rfl)
theorem m_144 : (.selects "StandInMill" y_M_areParameters y_M_areParameters : Cond) ∈ WG := in_WG 13 rfl (List.mem_of_getElem? (i := 24) rfl)
theorem m_145 : (.methodLink "StandInMill" 153 y_Fc_hasOwn : Cond) ∈ WG := in_WG 13 rfl (List.mem_of_getElem? (i := 25) rfl)
theorem m_146 : (.instanceMethod y_Fc_hasOwn : Cond) ∈ WG := in_WG 13 rfl (List.mem_of_getElem? (i := 26) rfl)
theorem m_147 : (.selects "StandInMill$Face" y_Fc_hasOwn y_Fc_hasOwn : Cond) ∈ WG := in_WG 13 rfl (List.mem_of_getElem? (i := 27) rfl)
theorem m_148 : (.methodLink "StandInMill" 156 y_Fc_addOwn : Cond) ∈ WG := in_WG 13 rfl (List.mem_of_getElem? (i := 28) rfl)
theorem m_149 : (.instanceMethod y_Fc_addOwn : Cond) ∈ WG := in_WG 13 rfl (List.mem_of_getElem? (i := 29) rfl)
theorem m_150 : (.selects "StandInMill$Face" y_Fc_addOwn y_Fc_addOwn : Cond) ∈ WG := in_WG 13 rfl (List.mem_of_getElem? (i := 30) rfl)
theorem m_151 : (.fieldLink "StandInMill$ClassRow" 15 "StandInMill$ClassRow" "size" "I" : Cond) ∈ WG := in_WG 13 rfl (List.mem_of_getElem? (i := 31) rfl)
theorem m_152 : (.methodLink "StandInMill$ClassRow" 23 y_Rw_has : Cond) ∈ WG := in_WG 13 rfl (List.mem_of_getElem? (i := 32) rfl)
theorem m_153 : (.instanceMethod y_Rw_has : Cond) ∈ WG := in_WG 13 rfl (List.mem_of_getElem? (i := 33) rfl)
theorem m_154 : (.selects "StandInMill$ClassRow" y_Rw_has y_Rw_has : Cond) ∈ WG := in_WG 13 rfl (List.mem_of_getElem? (i := 34) rfl)
theorem m_155 : (.methodLink "StandInMill" 160 y_Ty_isClass : Cond) ∈ WG := in_WG 13 rfl (List.mem_of_getElem? (i := 35) rfl)
theorem m_156 : (.methodLink "StandInMill" 170 y_Rw_has : Cond) ∈ WG := in_WG 13 rfl (List.mem_of_getElem? (i := 36) rfl)
theorem m_157 : (.methodLink "StandInMill" 178 y_Rw_add : Cond) ∈ WG := in_WG 13 rfl (List.mem_of_getElem? (i := 37) rfl)
theorem m_158 : (.instanceMethod y_Rw_add : Cond) ∈ WG := in_WG 13 rfl (List.mem_of_getElem? (i := 38) rfl)
theorem m_159 : (.selects "StandInMill$ClassRow" y_Rw_add y_Rw_add : Cond) ∈ WG := in_WG 13 rfl (List.mem_of_getElem? (i := 39) rfl)
theorem m_160 : (.fieldLink "StandInMill" 184 "StandInMill" "objectCount" "I" : Cond) ∈ WG := in_WG 14 rfl (List.mem_of_getElem? (i := 0) rfl)
theorem m_161 : (.methodLink "StandInMill" 181 y_M_isBox : Cond) ∈ WG := in_WG 14 rfl (List.mem_of_getElem? (i := 1) rfl)
theorem m_162 : (.static y_M_isBox : Cond) ∈ WG := in_WG 14 rfl (List.mem_of_getElem? (i := 2) rfl)
theorem m_163 : (.methodLink "StandInMill" 187 y_M_fitted : Cond) ∈ WG := in_WG 14 rfl (List.mem_of_getElem? (i := 3) rfl)
theorem m_164 : (.static y_M_fitted : Cond) ∈ WG := in_WG 14 rfl (List.mem_of_getElem? (i := 4) rfl)
theorem m_165 : (.methodLink "StandInMill" 191 y_Ty_isBelow : Cond) ∈ WG := in_WG 14 rfl (List.mem_of_getElem? (i := 5) rfl)
theorem m_166 : (.methodLink "StandInMill" 333 y_M_packageOf : Cond) ∈ WG := in_WG 14 rfl (List.mem_of_getElem? (i := 6) rfl)
theorem m_167 : (.instanceMethod y_M_packageOf : Cond) ∈ WG := in_WG 14 rfl (List.mem_of_getElem? (i := 7) rfl)
theorem m_168 : (.selects "StandInMill" y_M_packageOf y_M_packageOf : Cond) ∈ WG := in_WG 14 rfl (List.mem_of_getElem? (i := 8) rfl)
theorem m_169 : (.methodLink "StandInMill" 319 y_M_areVisible : Cond) ∈ WG := in_WG 14 rfl (List.mem_of_getElem? (i := 9) rfl)
theorem m_170 : (.instanceMethod y_M_areVisible : Cond) ∈ WG := in_WG 14 rfl (List.mem_of_getElem? (i := 10) rfl)
theorem m_171 : (.selects "StandInMill" y_M_areVisible y_M_areVisible : Cond) ∈ WG := in_WG 14 rfl (List.mem_of_getElem? (i := 11) rfl)
theorem m_172 : (.methodLink "StandInMill" 322 y_M_hasTwice : Cond) ∈ WG := in_WG 14 rfl (List.mem_of_getElem? (i := 12) rfl)
theorem m_173 : (.static y_M_hasTwice : Cond) ∈ WG := in_WG 14 rfl (List.mem_of_getElem? (i := 13) rfl)
theorem m_174 : (.methodLink "StandInMill" 325 y_M_isInTwoPackages : Cond) ∈ WG := in_WG 14 rfl (List.mem_of_getElem? (i := 14) rfl)
theorem m_175 : (.instanceMethod y_M_isInTwoPackages : Cond) ∈ WG := in_WG 14 rfl (List.mem_of_getElem? (i := 15) rfl)
theorem m_176 : (.selects "StandInMill" y_M_isInTwoPackages y_M_isInTwoPackages : Cond) ∈ WG := in_WG 14 rfl (List.mem_of_getElem? (i := 16) rfl)
theorem m_177 : (.fieldLink "StandInMill$Face" 48 "StandInMill$Face" "allCount" "I" : Cond) ∈ WG := in_WG 14 rfl (List.mem_of_getElem? (i := 17) rfl)
theorem m_178 : (.methodLink "StandInMill$Face" 51 y_Fc_gather : Cond) ∈ WG := in_WG 14 rfl (List.mem_of_getElem? (i := 18) rfl)
theorem m_179 : (.instanceMethod y_Fc_gather : Cond) ∈ WG := in_WG 14 rfl (List.mem_of_getElem? (i := 19) rfl)
theorem m_180 : (.selects "StandInMill$Face" y_Fc_gather y_Fc_gather : Cond) ∈ WG := in_WG 14 rfl (List.mem_of_getElem? (i := 20) rfl)
theorem m_181 : (.methodLink "StandInMill$Face" 55 y_Fc_hasOwn : Cond) ∈ WG := in_WG 14 rfl (List.mem_of_getElem? (i := 21) rfl)
theorem m_182 : (.methodLink "StandInMill" 354 y_Fc_gatherOwn : Cond) ∈ WG := in_WG 14 rfl (List.mem_of_getElem? (i := 22) rfl)
theorem m_183 : (.instanceMethod y_Fc_gatherOwn : Cond) ∈ WG := in_WG 14 rfl (List.mem_of_getElem? (i := 23) rfl)
theorem m_184 : (.selects "StandInMill$Face" y_Fc_gatherOwn y_Fc_gatherOwn : Cond) ∈ WG := in_WG 14 rfl (List.mem_of_getElem? (i := 24) rfl)
theorem m_185 : (.methodLink "StandInMill" 360 y_Fc_gatherFrom : Cond) ∈ WG := in_WG 14 rfl (List.mem_of_getElem? (i := 25) rfl)
theorem m_186 : (.instanceMethod y_Fc_gatherFrom : Cond) ∈ WG := in_WG 14 rfl (List.mem_of_getElem? (i := 26) rfl)
theorem m_187 : (.selects "StandInMill$Face" y_Fc_gatherFrom y_Fc_gatherFrom : Cond) ∈ WG := in_WG 14 rfl (List.mem_of_getElem? (i := 27) rfl)
theorem m_188 : (.fieldLink "StandInMill$Draft" 30 "StandInMill$Draft" "size" "I" : Cond) ∈ WG := in_WG 14 rfl (List.mem_of_getElem? (i := 28) rfl)
theorem m_189 : (.methodLink "StandInMill$ClassRow" 27 y_Rw_clear : Cond) ∈ WG := in_WG 14 rfl (List.mem_of_getElem? (i := 29) rfl)
theorem m_190 : (.instanceMethod y_Rw_clear : Cond) ∈ WG := in_WG 14 rfl (List.mem_of_getElem? (i := 30) rfl)
theorem m_191 : (.selects "StandInMill$ClassRow" y_Rw_clear y_Rw_clear : Cond) ∈ WG := in_WG 14 rfl (List.mem_of_getElem? (i := 31) rfl)
theorem m_192 : (.methodLink "StandInMill$ClassRow" 30 y_Rw_add : Cond) ∈ WG := in_WG 14 rfl (List.mem_of_getElem? (i := 32) rfl)
theorem m_193 : (.methodLink "StandInMill$Types" 46 y_Ty_isBelowOneOf : Cond) ∈ WG := in_WG 14 rfl (List.mem_of_getElem? (i := 33) rfl)
theorem m_194 : (.instanceMethod y_Ty_isBelowOneOf : Cond) ∈ WG := in_WG 14 rfl (List.mem_of_getElem? (i := 34) rfl)
theorem m_195 : (.selects "StandInMill$Types" y_Ty_isBelowOneOf y_Ty_isBelowOneOf : Cond) ∈ WG := in_WG 14 rfl (List.mem_of_getElem? (i := 35) rfl)
theorem m_196 : (.methodLink "StandInMill$Types" 50 y_Rw_add : Cond) ∈ WG := in_WG 14 rfl (List.mem_of_getElem? (i := 36) rfl)
theorem m_197 : (.methodLink "StandInMill$Draft" 59 y_Rw_copyFrom : Cond) ∈ WG := in_WG 14 rfl (List.mem_of_getElem? (i := 37) rfl)
theorem m_198 : (.instanceMethod y_Rw_copyFrom : Cond) ∈ WG := in_WG 14 rfl (List.mem_of_getElem? (i := 38) rfl)
theorem m_199 : (.selects "StandInMill$ClassRow" y_Rw_copyFrom y_Rw_copyFrom : Cond) ∈ WG := in_WG 14 rfl (List.mem_of_getElem? (i := 39) rfl)
theorem m_200 : (.methodLink "StandInMill$Draft" 63 y_Rw_clear : Cond) ∈ WG := in_WG 15 rfl (List.mem_of_getElem? (i := 0) rfl)
theorem m_201 : (.methodLink "StandInMill$Draft" 66 y_Ty_addBelow : Cond) ∈ WG := in_WG 15 rfl (List.mem_of_getElem? (i := 1) rfl)
theorem m_202 : (.instanceMethod y_Ty_addBelow : Cond) ∈ WG := in_WG 15 rfl (List.mem_of_getElem? (i := 2) rfl)
theorem m_203 : (.selects "StandInMill$Types" y_Ty_addBelow y_Ty_addBelow : Cond) ∈ WG := in_WG 15 rfl (List.mem_of_getElem? (i := 3) rfl)
theorem m_204 : (.methodLink "StandInMill$StandMethod" 3 objectInit : Cond) ∈ WG := in_WG 15 rfl (List.mem_of_getElem? (i := 4) rfl)
theorem m_205 : (.classLink "StandInMill$StandMethod" 9 "StandInMill$ClassRow" : Cond) ∈ WG := in_WG 15 rfl (List.mem_of_getElem? (i := 5) rfl)
theorem m_206 : (.methodLink "StandInMill$StandMethod" 11 y_Rw_init : Cond) ∈ WG := in_WG 15 rfl (List.mem_of_getElem? (i := 6) rfl)
theorem m_207 : (.fieldLink "StandInMill$StandMethod" 14 "StandInMill$StandMethod" "thrown" "LStandInMill$ClassRow;" : Cond) ∈ WG := in_WG 15 rfl (List.mem_of_getElem? (i := 7) rfl)
theorem m_208 : (.fieldLink "StandInMill$StandMethod" 20 "StandInMill$StandMethod" "caught" "LStandInMill$ClassRow;" : Cond) ∈ WG := in_WG 15 rfl (List.mem_of_getElem? (i := 8) rfl)
theorem m_209 : (.instantiable "StandInMill$StandMethod" 3 : Cond) ∈ WG := in_WG 15 rfl (List.mem_of_getElem? (i := 9) rfl)
theorem m_210 : (.initialized "StandInMill$StandMethod" : Cond) ∈ WG := in_WG 15 rfl (List.mem_of_getElem? (i := 10) rfl)
theorem m_211 : (.instanceMethod y_Sm_init : Cond) ∈ WG := in_WG 15 rfl (List.mem_of_getElem? (i := 11) rfl)
theorem m_212 : (.methodLink "StandInMill$Draft" 38 y_Om_hasSignatureOf : Cond) ∈ WG := in_WG 15 rfl (List.mem_of_getElem? (i := 12) rfl)
theorem m_213 : (.instanceMethod y_Om_hasSignatureOf : Cond) ∈ WG := in_WG 15 rfl (List.mem_of_getElem? (i := 13) rfl)
theorem m_214 : (.selects "StandInMill$OwnMethod" y_Om_hasSignatureOf y_Om_hasSignatureOf : Cond) ∈ WG := in_WG 15 rfl (List.mem_of_getElem? (i := 14) rfl)
theorem m_215 : (.methodLink "StandInMill$Draft" 51 y_Dr_narrow : Cond) ∈ WG := in_WG 15 rfl (List.mem_of_getElem? (i := 15) rfl)
theorem m_216 : (.instanceMethod y_Dr_narrow : Cond) ∈ WG := in_WG 15 rfl (List.mem_of_getElem? (i := 16) rfl)
theorem m_217 : (.selects "StandInMill$Draft" y_Dr_narrow y_Dr_narrow : Cond) ∈ WG := in_WG 15 rfl (List.mem_of_getElem? (i := 17) rfl)
theorem m_218 : (.methodLink "StandInMill$Draft" 55 y_Dr_insert : Cond) ∈ WG := in_WG 15 rfl (List.mem_of_getElem? (i := 18) rfl)
theorem m_219 : (.instanceMethod y_Dr_insert : Cond) ∈ WG := in_WG 15 rfl (List.mem_of_getElem? (i := 19) rfl)
theorem m_220 : (.selects "StandInMill$Draft" y_Dr_insert y_Dr_insert : Cond) ∈ WG := in_WG 15 rfl (List.mem_of_getElem? (i := 20) rfl)
theorem m_221 : (.methodLink "StandInMill" 342 y_Dr_clear : Cond) ∈ WG := in_WG 15 rfl (List.mem_of_getElem? (i := 21) rfl)
theorem m_222 : (.instanceMethod y_Dr_clear : Cond) ∈ WG := in_WG 15 rfl (List.mem_of_getElem? (i := 22) rfl)
theorem m_223 : (.selects "StandInMill$Draft" y_Dr_clear y_Dr_clear : Cond) ∈ WG := in_WG 15 rfl (List.mem_of_getElem? (i := 23) rfl)
theorem m_224 : (.methodLink "StandInMill" 345 y_Dr_take : Cond) ∈ WG := in_WG 15 rfl (List.mem_of_getElem? (i := 24) rfl)
theorem m_225 : (.instanceMethod y_Dr_take : Cond) ∈ WG := in_WG 15 rfl (List.mem_of_getElem? (i := 25) rfl)
theorem m_226 : (.selects "StandInMill$Draft" y_Dr_take y_Dr_take : Cond) ∈ WG := in_WG 15 rfl (List.mem_of_getElem? (i := 26) rfl)
theorem m_227 : (.methodLink "StandInMill" 339 y_M_gatherMethods : Cond) ∈ WG := in_WG 15 rfl (List.mem_of_getElem? (i := 27) rfl)
theorem m_228 : (.instanceMethod y_M_gatherMethods : Cond) ∈ WG := in_WG 15 rfl (List.mem_of_getElem? (i := 28) rfl)
theorem m_229 : (.selects "StandInMill" y_M_gatherMethods y_M_gatherMethods : Cond) ∈ WG := in_WG 15 rfl (List.mem_of_getElem? (i := 29) rfl)
theorem m_230 : (.methodLink "StandInMill$Draft" 89 y_Ty_isBelow : Cond) ∈ WG := in_WG 15 rfl (List.mem_of_getElem? (i := 30) rfl)
theorem m_231 : (.methodLink "StandInMill$Draft" 85 y_Dr_isBelowAll : Cond) ∈ WG := in_WG 15 rfl (List.mem_of_getElem? (i := 31) rfl)
theorem m_232 : (.instanceMethod y_Dr_isBelowAll : Cond) ∈ WG := in_WG 15 rfl (List.mem_of_getElem? (i := 32) rfl)
theorem m_233 : (.selects "StandInMill$Draft" y_Dr_isBelowAll y_Dr_isBelowAll : Cond) ∈ WG := in_WG 15 rfl (List.mem_of_getElem? (i := 33) rfl)
theorem m_234 : (.methodLink "StandInMill$Draft" 73 y_Dr_endOfSignature : Cond) ∈ WG := in_WG 15 rfl (List.mem_of_getElem? (i := 34) rfl)
theorem m_235 : (.instanceMethod y_Dr_endOfSignature : Cond) ∈ WG := in_WG 15 rfl (List.mem_of_getElem? (i := 35) rfl)
theorem m_236 : (.selects "StandInMill$Draft" y_Dr_endOfSignature y_Dr_endOfSignature : Cond) ∈ WG := in_WG 15 rfl (List.mem_of_getElem? (i := 36) rfl)
theorem m_237 : (.methodLink "StandInMill$Draft" 77 y_Dr_resultsAgreeWithin : Cond) ∈ WG := in_WG 15 rfl (List.mem_of_getElem? (i := 37) rfl)
theorem m_238 : (.instanceMethod y_Dr_resultsAgreeWithin : Cond) ∈ WG := in_WG 15 rfl (List.mem_of_getElem? (i := 38) rfl)
theorem m_239 : (.selects "StandInMill$Draft" y_Dr_resultsAgreeWithin y_Dr_resultsAgreeWithin : Cond) ∈ WG := in_WG 15 rfl (List.mem_of_getElem? (i := 39) rfl)
theorem m_240 : (.methodLink "StandInMill" 328 y_Dr_resultsAgree : Cond) ∈ WG := in_WG 16 rfl (List.mem_of_getElem? (i := 0) rfl)
theorem m_241 : (.instanceMethod y_Dr_resultsAgree : Cond) ∈ WG := in_WG 16 rfl (List.mem_of_getElem? (i := 1) rfl)
theorem m_242 : (.selects "StandInMill$Draft" y_Dr_resultsAgree y_Dr_resultsAgree : Cond) ∈ WG := in_WG 16 rfl (List.mem_of_getElem? (i := 2) rfl)
theorem m_243 : (.methodLink "StandInMill$StandIn" 3 objectInit : Cond) ∈ WG := in_WG 16 rfl (List.mem_of_getElem? (i := 3) rfl)
theorem m_244 : (.fieldLink "StandInMill$StandIn" 9 "StandInMill$StandIn" "handled" "I" : Cond) ∈ WG := in_WG 16 rfl (List.mem_of_getElem? (i := 4) rfl)
theorem m_245 : (.fieldLink "StandInMill$StandIn" 15 "StandInMill$StandIn" "loader" "I" : Cond) ∈ WG := in_WG 16 rfl (List.mem_of_getElem? (i := 5) rfl)
theorem m_246 : (.fieldLink "StandInMill$StandIn" 18 "StandInMill$StandIn" "listed" "I" : Cond) ∈ WG := in_WG 16 rfl (List.mem_of_getElem? (i := 6) rfl)
theorem m_247 : (.fieldLink "StandInMill$StandIn" 21 "StandInMill$StandIn" "pack" "I" : Cond) ∈ WG := in_WG 16 rfl (List.mem_of_getElem? (i := 7) rfl)
theorem m_248 : (.fieldLink "StandInMill$StandIn" 24 "StandInMill$StandIn" "number" "I" : Cond) ∈ WG := in_WG 16 rfl (List.mem_of_getElem? (i := 8) rfl)
theorem m_249 : (.classLink "StandInMill$StandIn" 27 "StandInMill$StandMethod" : Cond) ∈ WG := in_WG 16 rfl (List.mem_of_getElem? (i := 9) rfl)
theorem m_250 : (.fieldLink "StandInMill$StandIn" 29 "StandInMill$StandIn" "methods" "[LStandInMill$StandMethod;" : Cond) ∈ WG := in_WG 16 rfl (List.mem_of_getElem? (i := 10) rfl)
theorem m_251 : (.methodLink "StandInMill$Draft" 99 y_Rw_has : Cond) ∈ WG := in_WG 16 rfl (List.mem_of_getElem? (i := 11) rfl)
theorem m_252 : (.methodLink "StandInMill$Draft" 102 y_Rw_add : Cond) ∈ WG := in_WG 16 rfl (List.mem_of_getElem? (i := 12) rfl)
theorem m_253 : (.methodLink "StandInMill$Draft" 106 y_Rw_at : Cond) ∈ WG := in_WG 16 rfl (List.mem_of_getElem? (i := 13) rfl)
theorem m_254 : (.instanceMethod y_Rw_at : Cond) ∈ WG := in_WG 16 rfl (List.mem_of_getElem? (i := 14) rfl)
theorem m_255 : (.selects "StandInMill$ClassRow" y_Rw_at y_Rw_at : Cond) ∈ WG := in_WG 16 rfl (List.mem_of_getElem? (i := 15) rfl)
theorem m_256 : (.methodLink "StandInMill$Draft" 109 y_Ty_isBelowOneOf : Cond) ∈ WG := in_WG 16 rfl (List.mem_of_getElem? (i := 16) rfl)
theorem m_257 : (.methodLink "StandInMill$Draft" 113 y_Ty_dropBelow : Cond) ∈ WG := in_WG 16 rfl (List.mem_of_getElem? (i := 17) rfl)
theorem m_258 : (.instanceMethod y_Ty_dropBelow : Cond) ∈ WG := in_WG 16 rfl (List.mem_of_getElem? (i := 18) rfl)
theorem m_259 : (.selects "StandInMill$Types" y_Ty_dropBelow y_Ty_dropBelow : Cond) ∈ WG := in_WG 16 rfl (List.mem_of_getElem? (i := 19) rfl)
theorem m_260 : (.methodLink "StandInMill$Draft" 92 y_Dr_fillCaught : Cond) ∈ WG := in_WG 16 rfl (List.mem_of_getElem? (i := 20) rfl)
theorem m_261 : (.instanceMethod y_Dr_fillCaught : Cond) ∈ WG := in_WG 16 rfl (List.mem_of_getElem? (i := 21) rfl)
theorem m_262 : (.selects "StandInMill$Draft" y_Dr_fillCaught y_Dr_fillCaught : Cond) ∈ WG := in_WG 16 rfl (List.mem_of_getElem? (i := 22) rfl)
theorem m_263 : (.instantiable "StandInMill$StandIn" 8 : Cond) ∈ WG := in_WG 16 rfl (List.mem_of_getElem? (i := 23) rfl)
theorem m_264 : (.initialized "StandInMill$StandIn" : Cond) ∈ WG := in_WG 16 rfl (List.mem_of_getElem? (i := 24) rfl)
theorem m_265 : (.methodLink "StandInMill" 364 y_M_standsOfPackage : Cond) ∈ WG := in_WG 16 rfl (List.mem_of_getElem? (i := 25) rfl)
theorem m_266 : (.instanceMethod y_M_standsOfPackage : Cond) ∈ WG := in_WG 16 rfl (List.mem_of_getElem? (i := 26) rfl)
theorem m_267 : (.selects "StandInMill" y_M_standsOfPackage y_M_standsOfPackage : Cond) ∈ WG := in_WG 16 rfl (List.mem_of_getElem? (i := 27) rfl)
theorem m_268 : (.methodLink "StandInMill" 367 y_Si_init : Cond) ∈ WG := in_WG 16 rfl (List.mem_of_getElem? (i := 28) rfl)
theorem m_269 : (.instanceMethod y_Si_init : Cond) ∈ WG := in_WG 16 rfl (List.mem_of_getElem? (i := 29) rfl)
theorem m_270 : (.methodLink "StandInMill" 368 y_Dr_handOver : Cond) ∈ WG := in_WG 16 rfl (List.mem_of_getElem? (i := 30) rfl)
theorem m_271 : (.instanceMethod y_Dr_handOver : Cond) ∈ WG := in_WG 16 rfl (List.mem_of_getElem? (i := 31) rfl)
theorem m_272 : (.selects "StandInMill$Draft" y_Dr_handOver y_Dr_handOver : Cond) ∈ WG := in_WG 16 rfl (List.mem_of_getElem? (i := 32) rfl)
theorem m_273 : (.fieldLink "StandInMill$UnitWriter" 35 "StandInMill$UnitWriter" "bodySize" "I" : Cond) ∈ WG := in_WG 16 rfl (List.mem_of_getElem? (i := 33) rfl)
theorem m_274 : (.fieldLink "StandInMill$UnitWriter" 32 "StandInMill$UnitWriter" "poolSize" "I" : Cond) ∈ WG := in_WG 16 rfl (List.mem_of_getElem? (i := 34) rfl)
theorem m_275 : (.methodLink "StandInMill$UnitWriter" 43 y_Uw_put : Cond) ∈ WG := in_WG 16 rfl (List.mem_of_getElem? (i := 35) rfl)
theorem m_276 : (.instanceMethod y_Uw_put : Cond) ∈ WG := in_WG 16 rfl (List.mem_of_getElem? (i := 36) rfl)
theorem m_277 : (.selects "StandInMill$UnitWriter" y_Uw_put y_Uw_put : Cond) ∈ WG := in_WG 16 rfl (List.mem_of_getElem? (i := 37) rfl)
theorem m_278 : (.fieldLink "StandInMill$UnitWriter" 28 "StandInMill$UnitWriter" "entryCount" "I" : Cond) ∈ WG := in_WG 16 rfl (List.mem_of_getElem? (i := 38) rfl)
theorem m_279 : (.methodLink "StandInMill$UnitWriter" 151 y_Uw_putInPool : Cond) ∈ WG := in_WG 16 rfl (List.mem_of_getElem? (i := 39) rfl)
theorem m_280 : (.instanceMethod y_Uw_putInPool : Cond) ∈ WG := in_WG 17 rfl (List.mem_of_getElem? (i := 0) rfl)
theorem m_281 : (.selects "StandInMill$UnitWriter" y_Uw_putInPool y_Uw_putInPool : Cond) ∈ WG := in_WG 17 rfl (List.mem_of_getElem? (i := 1) rfl)
theorem m_282 : (.methodLink "StandInMill$UnitWriter" 85 y_Uw_putEntry : Cond) ∈ WG := in_WG 17 rfl (List.mem_of_getElem? (i := 2) rfl)
theorem m_283 : (.instanceMethod y_Uw_putEntry : Cond) ∈ WG := in_WG 17 rfl (List.mem_of_getElem? (i := 3) rfl)
theorem m_284 : (.selects "StandInMill$UnitWriter" y_Uw_putEntry y_Uw_putEntry : Cond) ∈ WG := in_WG 17 rfl (List.mem_of_getElem? (i := 4) rfl)
theorem m_285 : (.methodLink "StandInMill$UnitWriter" 95 y_Uw_putType : Cond) ∈ WG := in_WG 17 rfl (List.mem_of_getElem? (i := 5) rfl)
theorem m_286 : (.instanceMethod y_Uw_putType : Cond) ∈ WG := in_WG 17 rfl (List.mem_of_getElem? (i := 6) rfl)
theorem m_287 : (.selects "StandInMill$UnitWriter" y_Uw_putType y_Uw_putType : Cond) ∈ WG := in_WG 17 rfl (List.mem_of_getElem? (i := 7) rfl)
theorem m_288 : (.methodLink "StandInMill$UnitWriter" 126 y_Rw_at : Cond) ∈ WG := in_WG 17 rfl (List.mem_of_getElem? (i := 8) rfl)
theorem m_289 : (.methodLink "StandInMill$UnitWriter" 133 y_Om_parameterCount : Cond) ∈ WG := in_WG 17 rfl (List.mem_of_getElem? (i := 9) rfl)
theorem m_290 : (.instanceMethod y_Om_parameterCount : Cond) ∈ WG := in_WG 17 rfl (List.mem_of_getElem? (i := 10) rfl)
theorem m_291 : (.selects "StandInMill$OwnMethod" y_Om_parameterCount y_Om_parameterCount : Cond) ∈ WG := in_WG 17 rfl (List.mem_of_getElem? (i := 11) rfl)
theorem m_292 : (.methodLink "StandInMill$UnitWriter" 129 y_Uw_putMethodEntry : Cond) ∈ WG := in_WG 17 rfl (List.mem_of_getElem? (i := 12) rfl)
theorem m_293 : (.instanceMethod y_Uw_putMethodEntry : Cond) ∈ WG := in_WG 17 rfl (List.mem_of_getElem? (i := 13) rfl)
theorem m_294 : (.selects "StandInMill$UnitWriter" y_Uw_putMethodEntry y_Uw_putMethodEntry : Cond) ∈ WG := in_WG 17 rfl (List.mem_of_getElem? (i := 14) rfl)
theorem m_295 : (.methodLink "StandInMill$UnitWriter" 137 y_Uw_putParameterCode : Cond) ∈ WG := in_WG 17 rfl (List.mem_of_getElem? (i := 15) rfl)
theorem m_296 : (.instanceMethod y_Uw_putParameterCode : Cond) ∈ WG := in_WG 17 rfl (List.mem_of_getElem? (i := 16) rfl)
theorem m_297 : (.selects "StandInMill$UnitWriter" y_Uw_putParameterCode y_Uw_putParameterCode : Cond) ∈ WG := in_WG 17 rfl (List.mem_of_getElem? (i := 17) rfl)
theorem m_298 : (.methodLink "StandInMill$UnitWriter" 140 y_Uw_putResultCode : Cond) ∈ WG := in_WG 17 rfl (List.mem_of_getElem? (i := 18) rfl)
theorem m_299 : (.instanceMethod y_Uw_putResultCode : Cond) ∈ WG := in_WG 17 rfl (List.mem_of_getElem? (i := 19) rfl)
theorem m_300 : (.selects "StandInMill$UnitWriter" y_Uw_putResultCode y_Uw_putResultCode : Cond) ∈ WG := in_WG 17 rfl (List.mem_of_getElem? (i := 20) rfl)
theorem m_301 : (.methodLink "StandInMill$UnitWriter" 53 y_Uw_putTypes : Cond) ∈ WG := in_WG 17 rfl (List.mem_of_getElem? (i := 21) rfl)
theorem m_302 : (.instanceMethod y_Uw_putTypes : Cond) ∈ WG := in_WG 17 rfl (List.mem_of_getElem? (i := 22) rfl)
theorem m_303 : (.selects "StandInMill$UnitWriter" y_Uw_putTypes y_Uw_putTypes : Cond) ∈ WG := in_WG 17 rfl (List.mem_of_getElem? (i := 23) rfl)
theorem m_304 : (.methodLink "StandInMill$UnitWriter" 102 y_Uw_putRow : Cond) ∈ WG := in_WG 17 rfl (List.mem_of_getElem? (i := 24) rfl)
theorem m_305 : (.instanceMethod y_Uw_putRow : Cond) ∈ WG := in_WG 17 rfl (List.mem_of_getElem? (i := 25) rfl)
theorem m_306 : (.selects "StandInMill$UnitWriter" y_Uw_putRow y_Uw_putRow : Cond) ∈ WG := in_WG 17 rfl (List.mem_of_getElem? (i := 26) rfl)
theorem m_307 : (.methodLink "StandInMill$UnitWriter" 114 y_Uw_putCode : Cond) ∈ WG := in_WG 17 rfl (List.mem_of_getElem? (i := 27) rfl)
theorem m_308 : (.instanceMethod y_Uw_putCode : Cond) ∈ WG := in_WG 17 rfl (List.mem_of_getElem? (i := 28) rfl)
theorem m_309 : (.selects "StandInMill$UnitWriter" y_Uw_putCode y_Uw_putCode : Cond) ∈ WG := in_WG 17 rfl (List.mem_of_getElem? (i := 29) rfl)
theorem m_310 : (.methodLink "StandInMill$UnitWriter" 68 arraycopyName : Cond) ∈ WG := in_WG 17 rfl (List.mem_of_getElem? (i := 30) rfl)
theorem m_311 : (.native arraycopyName : Cond) ∈ WG := in_WG 17 rfl (List.mem_of_getElem? (i := 31) rfl)
theorem m_312 : (.static arraycopyName : Cond) ∈ WG := in_WG 17 rfl (List.mem_of_getElem? (i := 32) rfl)
theorem m_313 : (.initialized "java/lang/System" : Cond) ∈ WG := in_WG 17 rfl (List.mem_of_getElem? (i := 33) rfl)
theorem m_314 : (.methodLink "StandInMill$UnitWriter" 22 y_Ar_fillI : Cond) ∈ WG := in_WG 17 rfl (List.mem_of_getElem? (i := 34) rfl)
theorem m_315 : (.static y_Ar_fillI : Cond) ∈ WG := in_WG 17 rfl (List.mem_of_getElem? (i := 35) rfl)
theorem m_316 : (.methodLink "StandInMill$UnitWriter" 60 y_Uw_putMethod : Cond) ∈ WG := in_WG 17 rfl (List.mem_of_getElem? (i := 36) rfl)
theorem m_317 : (.instanceMethod y_Uw_putMethod : Cond) ∈ WG := in_WG 17 rfl (List.mem_of_getElem? (i := 37) rfl)
theorem m_318 : (.selects "StandInMill$UnitWriter" y_Uw_putMethod y_Uw_putMethod : Cond) ∈ WG := in_WG 17 rfl (List.mem_of_getElem? (i := 38) rfl)
theorem m_319 : (.methodLink "StandInMill$UnitWriter" 64 y_Uw_joined : Cond) ∈ WG := in_WG 17 rfl (List.mem_of_getElem? (i := 39) rfl)
theorem m_320 : (.instanceMethod y_Uw_joined : Cond) ∈ WG := in_WG 18 rfl (List.mem_of_getElem? (i := 0) rfl)
theorem m_321 : (.selects "StandInMill$UnitWriter" y_Uw_joined y_Uw_joined : Cond) ∈ WG := in_WG 18 rfl (List.mem_of_getElem? (i := 1) rfl)
theorem m_322 : (.fieldLink "StandInMill" 194 "StandInMill" "latestFault" "I" : Cond) ∈ WG := in_WG 18 rfl (List.mem_of_getElem? (i := 2) rfl)
theorem m_323 : (.methodLink "StandInMill" 197 y_M_areFaces : Cond) ∈ WG := in_WG 18 rfl (List.mem_of_getElem? (i := 3) rfl)
theorem m_324 : (.instanceMethod y_M_areFaces : Cond) ∈ WG := in_WG 18 rfl (List.mem_of_getElem? (i := 4) rfl)
theorem m_325 : (.selects "StandInMill" y_M_areFaces y_M_areFaces : Cond) ∈ WG := in_WG 18 rfl (List.mem_of_getElem? (i := 5) rfl)
theorem m_326 : (.methodLink "StandInMill" 207 y_M_standMadeFor : Cond) ∈ WG := in_WG 18 rfl (List.mem_of_getElem? (i := 6) rfl)
theorem m_327 : (.instanceMethod y_M_standMadeFor : Cond) ∈ WG := in_WG 18 rfl (List.mem_of_getElem? (i := 7) rfl)
theorem m_328 : (.selects "StandInMill" y_M_standMadeFor y_M_standMadeFor : Cond) ∈ WG := in_WG 18 rfl (List.mem_of_getElem? (i := 8) rfl)
theorem m_329 : (.methodLink "StandInMill" 211 y_M_faultOfList : Cond) ∈ WG := in_WG 18 rfl (List.mem_of_getElem? (i := 9) rfl)
theorem m_330 : (.instanceMethod y_M_faultOfList : Cond) ∈ WG := in_WG 18 rfl (List.mem_of_getElem? (i := 10) rfl)
theorem m_331 : (.selects "StandInMill" y_M_faultOfList y_M_faultOfList : Cond) ∈ WG := in_WG 18 rfl (List.mem_of_getElem? (i := 11) rfl)
theorem m_332 : (.methodLink "StandInMill" 226 y_M_madeOfDraft : Cond) ∈ WG := in_WG 18 rfl (List.mem_of_getElem? (i := 12) rfl)
theorem m_333 : (.instanceMethod y_M_madeOfDraft : Cond) ∈ WG := in_WG 18 rfl (List.mem_of_getElem? (i := 13) rfl)
theorem m_334 : (.selects "StandInMill" y_M_madeOfDraft y_M_madeOfDraft : Cond) ∈ WG := in_WG 18 rfl (List.mem_of_getElem? (i := 14) rfl)
theorem m_335 : (.methodLink "StandInMill" 230 y_Uw_write : Cond) ∈ WG := in_WG 18 rfl (List.mem_of_getElem? (i := 15) rfl)
theorem m_336 : (.instanceMethod y_Uw_write : Cond) ∈ WG := in_WG 18 rfl (List.mem_of_getElem? (i := 16) rfl)
theorem m_337 : (.selects "StandInMill$UnitWriter" y_Uw_write y_Uw_write : Cond) ∈ WG := in_WG 18 rfl (List.mem_of_getElem? (i := 17) rfl)
theorem m_338 : (.methodLink "StandInMill" 214 y_M_fillDraft : Cond) ∈ WG := in_WG 18 rfl (List.mem_of_getElem? (i := 18) rfl)
theorem m_339 : (.instanceMethod y_M_fillDraft : Cond) ∈ WG := in_WG 18 rfl (List.mem_of_getElem? (i := 19) rfl)
theorem m_340 : (.selects "StandInMill" y_M_fillDraft y_M_fillDraft : Cond) ∈ WG := in_WG 18 rfl (List.mem_of_getElem? (i := 20) rfl)
theorem m_341 : (.methodLink "StandInMill" 217 y_M_faultOfDraft : Cond) ∈ WG := in_WG 18 rfl (List.mem_of_getElem? (i := 21) rfl)
theorem m_342 : (.instanceMethod y_M_faultOfDraft : Cond) ∈ WG := in_WG 18 rfl (List.mem_of_getElem? (i := 22) rfl)
theorem m_343 : (.selects "StandInMill" y_M_faultOfDraft y_M_faultOfDraft : Cond) ∈ WG := in_WG 18 rfl (List.mem_of_getElem? (i := 23) rfl)
theorem m_344 : (.classLink "StandInMill" 200 "java/lang/IndexOutOfBoundsException" : Cond) ∈ WG := in_WG 18 rfl (List.mem_of_getElem? (i := 24) rfl)
theorem m_345 : (.instantiable "java/lang/IndexOutOfBoundsException" 6 : Cond) ∈ WG := in_WG 18 rfl (List.mem_of_getElem? (i := 25) rfl)
theorem m_346 : (.initialized "java/lang/IndexOutOfBoundsException" : Cond) ∈ WG := in_WG 18 rfl (List.mem_of_getElem? (i := 26) rfl)
theorem m_347 : (.classLink "StandInMill" 221 "java/lang/IllegalArgumentException" : Cond) ∈ WG := in_WG 18 rfl (List.mem_of_getElem? (i := 27) rfl)
theorem m_348 : (.instantiable "java/lang/IllegalArgumentException" 6 : Cond) ∈ WG := in_WG 18 rfl (List.mem_of_getElem? (i := 28) rfl)
theorem m_349 : (.initialized "java/lang/IllegalArgumentException" : Cond) ∈ WG := in_WG 18 rfl (List.mem_of_getElem? (i := 29) rfl)
theorem m_350 : (.methodLink "StandInMill" 249 y_M_hasMethod : Cond) ∈ WG := in_WG 18 rfl (List.mem_of_getElem? (i := 30) rfl)
theorem m_351 : (.instanceMethod y_M_hasMethod : Cond) ∈ WG := in_WG 18 rfl (List.mem_of_getElem? (i := 31) rfl)
theorem m_352 : (.selects "StandInMill" y_M_hasMethod y_M_hasMethod : Cond) ∈ WG := in_WG 18 rfl (List.mem_of_getElem? (i := 32) rfl)
theorem m_353 : (.methodLink "StandInMill" 261 y_Rw_at : Cond) ∈ WG := in_WG 18 rfl (List.mem_of_getElem? (i := 33) rfl)
theorem m_354 : (.methodLink "StandInMill" 372 y_Om_parameterCount : Cond) ∈ WG := in_WG 18 rfl (List.mem_of_getElem? (i := 34) rfl)
theorem m_355 : (.methodLink "StandInMill" 375 y_M_isPlain : Cond) ∈ WG := in_WG 18 rfl (List.mem_of_getElem? (i := 35) rfl)
theorem m_356 : (.methodLink "StandInMill" 378 y_M_isObjectBelow : Cond) ∈ WG := in_WG 18 rfl (List.mem_of_getElem? (i := 36) rfl)
theorem m_357 : (.instanceMethod y_M_isObjectBelow : Cond) ∈ WG := in_WG 18 rfl (List.mem_of_getElem? (i := 37) rfl)
theorem m_358 : (.selects "StandInMill" y_M_isObjectBelow y_M_isObjectBelow : Cond) ∈ WG := in_WG 18 rfl (List.mem_of_getElem? (i := 38) rfl)
theorem m_359 : (.methodLink "StandInMill" 382 y_M_showObject : Cond) ∈ WG := in_WG 18 rfl (List.mem_of_getElem? (i := 39) rfl)
theorem m_360 : (.instanceMethod y_M_showObject : Cond) ∈ WG := in_WG 19 rfl (List.mem_of_getElem? (i := 0) rfl)
theorem m_361 : (.selects "StandInMill" y_M_showObject y_M_showObject : Cond) ∈ WG := in_WG 19 rfl (List.mem_of_getElem? (i := 1) rfl)
theorem m_362 : (.methodLink "StandInMill" 385 y_Ty_isBelowOneOf : Cond) ∈ WG := in_WG 19 rfl (List.mem_of_getElem? (i := 2) rfl)
theorem m_363 : (.methodLink "StandInMill" 289 y_M_takesGiven : Cond) ∈ WG := in_WG 19 rfl (List.mem_of_getElem? (i := 3) rfl)
theorem m_364 : (.instanceMethod y_M_takesGiven : Cond) ∈ WG := in_WG 19 rfl (List.mem_of_getElem? (i := 4) rfl)
theorem m_365 : (.selects "StandInMill" y_M_takesGiven y_M_takesGiven : Cond) ∈ WG := in_WG 19 rfl (List.mem_of_getElem? (i := 5) rfl)
theorem m_366 : (.methodLink "StandInMill" 295 y_M_showHandler : Cond) ∈ WG := in_WG 19 rfl (List.mem_of_getElem? (i := 6) rfl)
theorem m_367 : (.instanceMethod y_M_showHandler : Cond) ∈ WG := in_WG 19 rfl (List.mem_of_getElem? (i := 7) rfl)
theorem m_368 : (.selects "StandInMill" y_M_showHandler y_M_showHandler : Cond) ∈ WG := in_WG 19 rfl (List.mem_of_getElem? (i := 8) rfl)
theorem m_369 : (.methodLink "StandInMill" 302 y_M_fitAnswer : Cond) ∈ WG := in_WG 19 rfl (List.mem_of_getElem? (i := 9) rfl)
theorem m_370 : (.instanceMethod y_M_fitAnswer : Cond) ∈ WG := in_WG 19 rfl (List.mem_of_getElem? (i := 10) rfl)
theorem m_371 : (.selects "StandInMill" y_M_fitAnswer y_M_fitAnswer : Cond) ∈ WG := in_WG 19 rfl (List.mem_of_getElem? (i := 11) rfl)
theorem m_372 : (.methodLink "StandInMill" 298 y_M_fitThrown : Cond) ∈ WG := in_WG 19 rfl (List.mem_of_getElem? (i := 12) rfl)
theorem m_373 : (.instanceMethod y_M_fitThrown : Cond) ∈ WG := in_WG 19 rfl (List.mem_of_getElem? (i := 13) rfl)
theorem m_374 : (.selects "StandInMill" y_M_fitThrown y_M_fitThrown : Cond) ∈ WG := in_WG 19 rfl (List.mem_of_getElem? (i := 14) rfl)
theorem m_375 : (.methodLink "StandInMillModel" 1 objectInit : Cond) ∈ WG := in_WG 19 rfl (List.mem_of_getElem? (i := 15) rfl)
theorem m_376 : (.fieldLink "StandInMillModel" 7 "StandInMillModel" "thrownCode" "I" : Cond) ∈ WG := in_WG 19 rfl (List.mem_of_getElem? (i := 16) rfl)
theorem m_377 : (.fieldLink "StandInMillModel" 13 "StandInMillModel" "loaders" "I" : Cond) ∈ WG := in_WG 19 rfl (List.mem_of_getElem? (i := 17) rfl)
theorem m_378 : (.fieldLink "StandInMillModel" 16 "StandInMillModel" "parentLoader" "[I" : Cond) ∈ WG := in_WG 19 rfl (List.mem_of_getElem? (i := 18) rfl)
theorem m_379 : (.fieldLink "StandInMillModel" 20 "StandInMillModel" "classes" "I" : Cond) ∈ WG := in_WG 19 rfl (List.mem_of_getElem? (i := 19) rfl)
theorem m_380 : (.fieldLink "StandInMillModel" 23 "StandInMillModel" "parentClass" "[I" : Cond) ∈ WG := in_WG 19 rfl (List.mem_of_getElem? (i := 20) rfl)
theorem m_381 : (.fieldLink "StandInMillModel" 26 "StandInMillModel" "faces" "I" : Cond) ∈ WG := in_WG 19 rfl (List.mem_of_getElem? (i := 21) rfl)
theorem m_382 : (.fieldLink "StandInMillModel" 29 "StandInMillModel" "faceLoader" "[I" : Cond) ∈ WG := in_WG 19 rfl (List.mem_of_getElem? (i := 22) rfl)
theorem m_383 : (.fieldLink "StandInMillModel" 32 "StandInMillModel" "faceName" "[I" : Cond) ∈ WG := in_WG 19 rfl (List.mem_of_getElem? (i := 23) rfl)
theorem m_384 : (.fieldLink "StandInMillModel" 35 "StandInMillModel" "facePack" "[I" : Cond) ∈ WG := in_WG 19 rfl (List.mem_of_getElem? (i := 24) rfl)
theorem m_385 : (.arrayClass (.boolean) : Cond) ∈ WG := in_WG 19 rfl (List.mem_of_getElem? (i := 25) rfl)
theorem m_386 : (.fieldLink "StandInMillModel" 38 "StandInMillModel" "faceOpen" "[Z" : Cond) ∈ WG := in_WG 19 rfl (List.mem_of_getElem? (i := 26) rfl)
theorem m_387 : (.fieldLink "StandInMillModel" 42 "StandInMillModel" "faceParents" "[I" : Cond) ∈ WG := in_WG 19 rfl (List.mem_of_getElem? (i := 27) rfl)
theorem m_388 : (.fieldLink "StandInMillModel" 45 "StandInMillModel" "parentCount" "[I" : Cond) ∈ WG := in_WG 19 rfl (List.mem_of_getElem? (i := 28) rfl)
theorem m_389 : (.fieldLink "StandInMillModel" 48 "StandInMillModel" "ownCount" "[I" : Cond) ∈ WG := in_WG 19 rfl (List.mem_of_getElem? (i := 29) rfl)
theorem m_390 : (.fieldLink "StandInMillModel" 51 "StandInMillModel" "name" "[I" : Cond) ∈ WG := in_WG 19 rfl (List.mem_of_getElem? (i := 30) rfl)
theorem m_391 : (.fieldLink "StandInMillModel" 54 "StandInMillModel" "result" "[I" : Cond) ∈ WG := in_WG 19 rfl (List.mem_of_getElem? (i := 31) rfl)
theorem m_392 : (.fieldLink "StandInMillModel" 57 "StandInMillModel" "takes" "[I" : Cond) ∈ WG := in_WG 19 rfl (List.mem_of_getElem? (i := 32) rfl)
theorem m_393 : (.fieldLink "StandInMillModel" 60 "StandInMillModel" "throwCount" "[I" : Cond) ∈ WG := in_WG 19 rfl (List.mem_of_getElem? (i := 33) rfl)
theorem m_394 : (.fieldLink "StandInMillModel" 63 "StandInMillModel" "throwsOf" "[I" : Cond) ∈ WG := in_WG 19 rfl (List.mem_of_getElem? (i := 34) rfl)
theorem m_395 : (.fieldLink "StandInMillModel" 66 "StandInMillModel" "objects" "I" : Cond) ∈ WG := in_WG 19 rfl (List.mem_of_getElem? (i := 35) rfl)
theorem m_396 : (.fieldLink "StandInMillModel" 69 "StandInMillModel" "objectType" "[I" : Cond) ∈ WG := in_WG 19 rfl (List.mem_of_getElem? (i := 36) rfl)
theorem m_397 : (.fieldLink "StandInMillModel" 72 "StandInMillModel" "objectValue" "[J" : Cond) ∈ WG := in_WG 19 rfl (List.mem_of_getElem? (i := 37) rfl)
theorem m_398 : (.fieldLink "StandInMillModel" 76 "StandInMillModel" "stands" "I" : Cond) ∈ WG := in_WG 19 rfl (List.mem_of_getElem? (i := 38) rfl)
theorem m_399 : (.fieldLink "StandInMillModel" 79 "StandInMillModel" "standLoader" "[I" : Cond) ∈ WG := in_WG 19 rfl (List.mem_of_getElem? (i := 39) rfl)
theorem m_400 : (.fieldLink "StandInMillModel" 82 "StandInMillModel" "standList" "[I" : Cond) ∈ WG := in_WG 20 rfl (List.mem_of_getElem? (i := 0) rfl)
theorem m_401 : (.fieldLink "StandInMillModel" 85 "StandInMillModel" "standPack" "[I" : Cond) ∈ WG := in_WG 20 rfl (List.mem_of_getElem? (i := 1) rfl)
theorem m_402 : (.fieldLink "StandInMillModel" 88 "StandInMillModel" "standNumber" "[I" : Cond) ∈ WG := in_WG 20 rfl (List.mem_of_getElem? (i := 2) rfl)
theorem m_403 : (.fieldLink "StandInMillModel" 91 "StandInMillModel" "handler" "[I" : Cond) ∈ WG := in_WG 20 rfl (List.mem_of_getElem? (i := 3) rfl)
theorem m_404 : (.fieldLink "StandInMillModel" 94 "StandInMillModel" "handlerThrows" "[Z" : Cond) ∈ WG := in_WG 20 rfl (List.mem_of_getElem? (i := 4) rfl)
theorem m_405 : (.fieldLink "StandInMillModel" 97 "StandInMillModel" "faultNow" "I" : Cond) ∈ WG := in_WG 20 rfl (List.mem_of_getElem? (i := 5) rfl)
theorem m_406 : (.fieldLink "StandInMillModel" 100 "StandInMillModel" "all" "[I" : Cond) ∈ WG := in_WG 20 rfl (List.mem_of_getElem? (i := 6) rfl)
theorem m_407 : (.fieldLink "StandInMillModel" 103 "StandInMillModel" "allCount" "[I" : Cond) ∈ WG := in_WG 20 rfl (List.mem_of_getElem? (i := 7) rfl)
theorem m_408 : (.fieldLink "StandInMillModel" 106 "StandInMillModel" "founds" "I" : Cond) ∈ WG := in_WG 20 rfl (List.mem_of_getElem? (i := 8) rfl)
theorem m_409 : (.fieldLink "StandInMillModel" 109 "StandInMillModel" "found" "[I" : Cond) ∈ WG := in_WG 20 rfl (List.mem_of_getElem? (i := 9) rfl)
theorem m_410 : (.fieldLink "StandInMillModel" 112 "StandInMillModel" "may" "[I" : Cond) ∈ WG := in_WG 20 rfl (List.mem_of_getElem? (i := 10) rfl)
theorem m_411 : (.fieldLink "StandInMillModel" 115 "StandInMillModel" "mayCount" "[I" : Cond) ∈ WG := in_WG 20 rfl (List.mem_of_getElem? (i := 11) rfl)
theorem m_412 : (.fieldLink "StandInMillModel" 118 "StandInMillModel" "before" "[I" : Cond) ∈ WG := in_WG 20 rfl (List.mem_of_getElem? (i := 12) rfl)
theorem m_413 : (.fieldLink "StandInMillModel" 121 "StandInMillModel" "order" "[I" : Cond) ∈ WG := in_WG 20 rfl (List.mem_of_getElem? (i := 13) rfl)
theorem m_414 : (.fieldLink "StandInMillModel" 124 "StandInMillModel" "caughts" "I" : Cond) ∈ WG := in_WG 20 rfl (List.mem_of_getElem? (i := 14) rfl)
theorem m_415 : (.fieldLink "StandInMillModel" 127 "StandInMillModel" "caught" "[I" : Cond) ∈ WG := in_WG 20 rfl (List.mem_of_getElem? (i := 15) rfl)
theorem m_416 : (.fieldLink "StandInMillModel" 130 "StandInMillModel" "behind" "[I" : Cond) ∈ WG := in_WG 20 rfl (List.mem_of_getElem? (i := 16) rfl)
theorem m_417 : (.fieldLink "StandInMillModel" 133 "StandInMillModel" "behinds" "I" : Cond) ∈ WG := in_WG 20 rfl (List.mem_of_getElem? (i := 17) rfl)
theorem m_418 : (.fieldLink "StandInMillModel" 136 "StandInMillModel" "pool" "[I" : Cond) ∈ WG := in_WG 20 rfl (List.mem_of_getElem? (i := 18) rfl)
theorem m_419 : (.fieldLink "StandInMillModel" 139 "StandInMillModel" "pools" "I" : Cond) ∈ WG := in_WG 20 rfl (List.mem_of_getElem? (i := 19) rfl)
theorem m_420 : (.constantLong "StandInMillModel" 142 (-1) : Cond) ∈ WG := in_WG 20 rfl (List.mem_of_getElem? (i := 20) rfl)
theorem m_421 : (.fieldLink "StandInMillModel" 144 "StandInMillModel" "outcomeNow" "J" : Cond) ∈ WG := in_WG 20 rfl (List.mem_of_getElem? (i := 21) rfl)
theorem m_422 : (.fieldLink "StandInMillModel" 148 "StandInMillModel" "seenNow" "[J" : Cond) ∈ WG := in_WG 20 rfl (List.mem_of_getElem? (i := 22) rfl)
theorem m_423 : (.fieldLink "StandInMillModel" 151 "StandInMillModel" "argType" "[I" : Cond) ∈ WG := in_WG 20 rfl (List.mem_of_getElem? (i := 23) rfl)
theorem m_424 : (.fieldLink "StandInMillModel" 154 "StandInMillModel" "argValue" "[J" : Cond) ∈ WG := in_WG 20 rfl (List.mem_of_getElem? (i := 24) rfl)
theorem m_425 : (.methodLink "StandInMillModel" 157 y_R_isPlain : Cond) ∈ WG := in_WG 20 rfl (List.mem_of_getElem? (i := 25) rfl)
theorem m_426 : (.static y_R_isPlain : Cond) ∈ WG := in_WG 20 rfl (List.mem_of_getElem? (i := 26) rfl)
theorem m_427 : (.methodLink "StandInMillModel" 161 y_R_isClass : Cond) ∈ WG := in_WG 20 rfl (List.mem_of_getElem? (i := 27) rfl)
theorem m_428 : (.instanceMethod y_R_isClass : Cond) ∈ WG := in_WG 20 rfl (List.mem_of_getElem? (i := 28) rfl)
theorem m_429 : (.selects "StandInMillModel" y_R_isClass y_R_isClass : Cond) ∈ WG := in_WG 20 rfl (List.mem_of_getElem? (i := 29) rfl)
theorem m_430 : (.methodLink "StandInMillModel" 164 y_R_isFace : Cond) ∈ WG := in_WG 20 rfl (List.mem_of_getElem? (i := 30) rfl)
theorem m_431 : (.instanceMethod y_R_isFace : Cond) ∈ WG := in_WG 20 rfl (List.mem_of_getElem? (i := 31) rfl)
theorem m_432 : (.selects "StandInMillModel" y_R_isFace y_R_isFace : Cond) ∈ WG := in_WG 20 rfl (List.mem_of_getElem? (i := 32) rfl)
theorem m_433 : (.methodLink "StandInMillModel" 167 y_R_isBox : Cond) ∈ WG := in_WG 20 rfl (List.mem_of_getElem? (i := 33) rfl)
theorem m_434 : (.static y_R_isBox : Cond) ∈ WG := in_WG 20 rfl (List.mem_of_getElem? (i := 34) rfl)
theorem m_435 : (.methodLink "StandInMillModel" 170 y_R_there : Cond) ∈ WG := in_WG 20 rfl (List.mem_of_getElem? (i := 35) rfl)
theorem m_436 : (.instanceMethod y_R_there : Cond) ∈ WG := in_WG 20 rfl (List.mem_of_getElem? (i := 36) rfl)
theorem m_437 : (.selects "StandInMillModel" y_R_there y_R_there : Cond) ∈ WG := in_WG 20 rfl (List.mem_of_getElem? (i := 37) rfl)
theorem m_438 : (.methodLink "StandInMillModel" 173 y_R_madeBy : Cond) ∈ WG := in_WG 20 rfl (List.mem_of_getElem? (i := 38) rfl)
theorem m_439 : (.instanceMethod y_R_madeBy : Cond) ∈ WG := in_WG 20 rfl (List.mem_of_getElem? (i := 39) rfl)
theorem m_440 : (.selects "StandInMillModel" y_R_madeBy y_R_madeBy : Cond) ∈ WG := in_WG 21 rfl (List.mem_of_getElem? (i := 0) rfl)
theorem m_441 : (.methodLink "StandInMillModel" 177 y_R_finds : Cond) ∈ WG := in_WG 21 rfl (List.mem_of_getElem? (i := 1) rfl)
theorem m_442 : (.instanceMethod y_R_finds : Cond) ∈ WG := in_WG 21 rfl (List.mem_of_getElem? (i := 2) rfl)
theorem m_443 : (.selects "StandInMillModel" y_R_finds y_R_finds : Cond) ∈ WG := in_WG 21 rfl (List.mem_of_getElem? (i := 3) rfl)
theorem m_444 : (.methodLink "StandInMillModel" 180 y_R_sameSignature : Cond) ∈ WG := in_WG 21 rfl (List.mem_of_getElem? (i := 4) rfl)
theorem m_445 : (.instanceMethod y_R_sameSignature : Cond) ∈ WG := in_WG 21 rfl (List.mem_of_getElem? (i := 5) rfl)
theorem m_446 : (.selects "StandInMillModel" y_R_sameSignature y_R_sameSignature : Cond) ∈ WG := in_WG 21 rfl (List.mem_of_getElem? (i := 6) rfl)
theorem m_447 : (.methodLink "StandInMillModel" 184 y_R_isBelow : Cond) ∈ WG := in_WG 21 rfl (List.mem_of_getElem? (i := 7) rfl)
theorem m_448 : (.instanceMethod y_R_isBelow : Cond) ∈ WG := in_WG 21 rfl (List.mem_of_getElem? (i := 8) rfl)
theorem m_449 : (.selects "StandInMillModel" y_R_isBelow y_R_isBelow : Cond) ∈ WG := in_WG 21 rfl (List.mem_of_getElem? (i := 9) rfl)
theorem m_450 : (.methodLink "StandInMillModel" 187 y_R_belowOneOf : Cond) ∈ WG := in_WG 21 rfl (List.mem_of_getElem? (i := 10) rfl)
theorem m_451 : (.instanceMethod y_R_belowOneOf : Cond) ∈ WG := in_WG 21 rfl (List.mem_of_getElem? (i := 11) rfl)
theorem m_452 : (.selects "StandInMillModel" y_R_belowOneOf y_R_belowOneOf : Cond) ∈ WG := in_WG 21 rfl (List.mem_of_getElem? (i := 12) rfl)
theorem m_453 : (.methodLink "StandInMillModel" 190 y_R_listMethods : Cond) ∈ WG := in_WG 21 rfl (List.mem_of_getElem? (i := 13) rfl)
theorem m_454 : (.instanceMethod y_R_listMethods : Cond) ∈ WG := in_WG 21 rfl (List.mem_of_getElem? (i := 14) rfl)
theorem m_455 : (.selects "StandInMillModel" y_R_listMethods y_R_listMethods : Cond) ∈ WG := in_WG 21 rfl (List.mem_of_getElem? (i := 15) rfl)
theorem m_456 : (.methodLink "StandInMillModel" 193 y_R_add : Cond) ∈ WG := in_WG 21 rfl (List.mem_of_getElem? (i := 16) rfl)
theorem m_457 : (.instanceMethod y_R_add : Cond) ∈ WG := in_WG 21 rfl (List.mem_of_getElem? (i := 17) rfl)
theorem m_458 : (.selects "StandInMillModel" y_R_add y_R_add : Cond) ∈ WG := in_WG 21 rfl (List.mem_of_getElem? (i := 18) rfl)
theorem m_459 : (.methodLink "StandInMillModel" 197 y_R_merge : Cond) ∈ WG := in_WG 21 rfl (List.mem_of_getElem? (i := 19) rfl)
theorem m_460 : (.instanceMethod y_R_merge : Cond) ∈ WG := in_WG 21 rfl (List.mem_of_getElem? (i := 20) rfl)
theorem m_461 : (.selects "StandInMillModel" y_R_merge y_R_merge : Cond) ∈ WG := in_WG 21 rfl (List.mem_of_getElem? (i := 21) rfl)
theorem m_462 : (.methodLink "StandInMillModel" 201 y_R_visible : Cond) ∈ WG := in_WG 21 rfl (List.mem_of_getElem? (i := 22) rfl)
theorem m_463 : (.instanceMethod y_R_visible : Cond) ∈ WG := in_WG 21 rfl (List.mem_of_getElem? (i := 23) rfl)
theorem m_464 : (.selects "StandInMillModel" y_R_visible y_R_visible : Cond) ∈ WG := in_WG 21 rfl (List.mem_of_getElem? (i := 24) rfl)
theorem m_465 : (.methodLink "StandInMillModel" 204 y_R_describe : Cond) ∈ WG := in_WG 21 rfl (List.mem_of_getElem? (i := 25) rfl)
theorem m_466 : (.instanceMethod y_R_describe : Cond) ∈ WG := in_WG 21 rfl (List.mem_of_getElem? (i := 26) rfl)
theorem m_467 : (.selects "StandInMillModel" y_R_describe y_R_describe : Cond) ∈ WG := in_WG 21 rfl (List.mem_of_getElem? (i := 27) rfl)
theorem m_468 : (.methodLink "StandInMillModel" 207 y_R_wrongResults : Cond) ∈ WG := in_WG 21 rfl (List.mem_of_getElem? (i := 28) rfl)
theorem m_469 : (.instanceMethod y_R_wrongResults : Cond) ∈ WG := in_WG 21 rfl (List.mem_of_getElem? (i := 29) rfl)
theorem m_470 : (.selects "StandInMillModel" y_R_wrongResults y_R_wrongResults : Cond) ∈ WG := in_WG 21 rfl (List.mem_of_getElem? (i := 30) rfl)
theorem m_471 : (.methodLink "StandInMillModel" 210 y_R_say : Cond) ∈ WG := in_WG 21 rfl (List.mem_of_getElem? (i := 31) rfl)
theorem m_472 : (.instanceMethod y_R_say : Cond) ∈ WG := in_WG 21 rfl (List.mem_of_getElem? (i := 32) rfl)
theorem m_473 : (.selects "StandInMillModel" y_R_say y_R_say : Cond) ∈ WG := in_WG 21 rfl (List.mem_of_getElem? (i := 33) rfl)
theorem m_474 : (.methodLink "StandInMillModel" 213 y_R_owner : Cond) ∈ WG := in_WG 21 rfl (List.mem_of_getElem? (i := 34) rfl)
theorem m_475 : (.static y_R_owner : Cond) ∈ WG := in_WG 21 rfl (List.mem_of_getElem? (i := 35) rfl)
theorem m_476 : (.methodLink "StandInMillModel" 217 y_R_numberOf : Cond) ∈ WG := in_WG 21 rfl (List.mem_of_getElem? (i := 36) rfl)
theorem m_477 : (.static y_R_numberOf : Cond) ∈ WG := in_WG 21 rfl (List.mem_of_getElem? (i := 37) rfl)
theorem m_478 : (.methodLink "StandInMillModel" 220 y_R_entry : Cond) ∈ WG := in_WG 21 rfl (List.mem_of_getElem? (i := 38) rfl)
theorem m_479 : (.instanceMethod y_R_entry : Cond) ∈ WG := in_WG 21 rfl (List.mem_of_getElem? (i := 39) rfl)
theorem m_480 : (.selects "StandInMillModel" y_R_entry y_R_entry : Cond) ∈ WG := in_WG 22 rfl (List.mem_of_getElem? (i := 0) rfl)
theorem m_481 : (.methodLink "StandInMillModel" 223 y_R_takesCount : Cond) ∈ WG := in_WG 22 rfl (List.mem_of_getElem? (i := 1) rfl)
theorem m_482 : (.instanceMethod y_R_takesCount : Cond) ∈ WG := in_WG 22 rfl (List.mem_of_getElem? (i := 2) rfl)
theorem m_483 : (.selects "StandInMillModel" y_R_takesCount y_R_takesCount : Cond) ∈ WG := in_WG 22 rfl (List.mem_of_getElem? (i := 3) rfl)
theorem m_484 : (.methodLink "StandInMillModel" 226 y_R_sayCode : Cond) ∈ WG := in_WG 22 rfl (List.mem_of_getElem? (i := 4) rfl)
theorem m_485 : (.instanceMethod y_R_sayCode : Cond) ∈ WG := in_WG 22 rfl (List.mem_of_getElem? (i := 5) rfl)
theorem m_486 : (.selects "StandInMillModel" y_R_sayCode y_R_sayCode : Cond) ∈ WG := in_WG 22 rfl (List.mem_of_getElem? (i := 6) rfl)
theorem m_487 : (.methodLink "StandInMillModel" 229 y_R_catchFor : Cond) ∈ WG := in_WG 22 rfl (List.mem_of_getElem? (i := 7) rfl)
theorem m_488 : (.instanceMethod y_R_catchFor : Cond) ∈ WG := in_WG 22 rfl (List.mem_of_getElem? (i := 8) rfl)
theorem m_489 : (.selects "StandInMillModel" y_R_catchFor y_R_catchFor : Cond) ∈ WG := in_WG 22 rfl (List.mem_of_getElem? (i := 9) rfl)
theorem m_490 : (.methodLink "StandInMillModel" 232 y_R_sayMethod : Cond) ∈ WG := in_WG 22 rfl (List.mem_of_getElem? (i := 10) rfl)
theorem m_491 : (.instanceMethod y_R_sayMethod : Cond) ∈ WG := in_WG 22 rfl (List.mem_of_getElem? (i := 11) rfl)
theorem m_492 : (.selects "StandInMillModel" y_R_sayMethod y_R_sayMethod : Cond) ∈ WG := in_WG 22 rfl (List.mem_of_getElem? (i := 12) rfl)
theorem m_493 : (.methodLink "StandInMillModel" 235 y_R_fitted : Cond) ∈ WG := in_WG 22 rfl (List.mem_of_getElem? (i := 13) rfl)
theorem m_494 : (.static y_R_fitted : Cond) ∈ WG := in_WG 22 rfl (List.mem_of_getElem? (i := 14) rfl)
theorem m_495 : (.methodLink "StandInMillModel" 239 y_R_cleaned : Cond) ∈ WG := in_WG 22 rfl (List.mem_of_getElem? (i := 15) rfl)
theorem m_496 : (.instanceMethod y_R_cleaned : Cond) ∈ WG := in_WG 22 rfl (List.mem_of_getElem? (i := 16) rfl)
theorem m_497 : (.selects "StandInMillModel" y_R_cleaned y_R_cleaned : Cond) ∈ WG := in_WG 22 rfl (List.mem_of_getElem? (i := 17) rfl)
theorem m_498 : (.methodLink "StandInMillModel" 242 y_R_faultOf : Cond) ∈ WG := in_WG 22 rfl (List.mem_of_getElem? (i := 18) rfl)
theorem m_499 : (.instanceMethod y_R_faultOf : Cond) ∈ WG := in_WG 22 rfl (List.mem_of_getElem? (i := 19) rfl)
theorem m_500 : (.selects "StandInMillModel" y_R_faultOf y_R_faultOf : Cond) ∈ WG := in_WG 22 rfl (List.mem_of_getElem? (i := 20) rfl)
theorem m_501 : (.methodLink "StandInMillModel" 246 y_R_isStand : Cond) ∈ WG := in_WG 22 rfl (List.mem_of_getElem? (i := 21) rfl)
theorem m_502 : (.instanceMethod y_R_isStand : Cond) ∈ WG := in_WG 22 rfl (List.mem_of_getElem? (i := 22) rfl)
theorem m_503 : (.selects "StandInMillModel" y_R_isStand y_R_isStand : Cond) ∈ WG := in_WG 22 rfl (List.mem_of_getElem? (i := 23) rfl)
theorem m_504 : (.methodLink "StandInMillModel" 249 y_R_unit : Cond) ∈ WG := in_WG 22 rfl (List.mem_of_getElem? (i := 24) rfl)
theorem m_505 : (.instanceMethod y_R_unit : Cond) ∈ WG := in_WG 22 rfl (List.mem_of_getElem? (i := 25) rfl)
theorem m_506 : (.selects "StandInMillModel" y_R_unit y_R_unit : Cond) ∈ WG := in_WG 22 rfl (List.mem_of_getElem? (i := 26) rfl)
theorem m_507 : (.methodLink "StandInMillModel" 252 y_R_poolBytes : Cond) ∈ WG := in_WG 22 rfl (List.mem_of_getElem? (i := 27) rfl)
theorem m_508 : (.instanceMethod y_R_poolBytes : Cond) ∈ WG := in_WG 22 rfl (List.mem_of_getElem? (i := 28) rfl)
theorem m_509 : (.selects "StandInMillModel" y_R_poolBytes y_R_poolBytes : Cond) ∈ WG := in_WG 22 rfl (List.mem_of_getElem? (i := 29) rfl)
theorem m_510 : (.methodLink "StandInMillModel" 256 y_R_unitByte : Cond) ∈ WG := in_WG 22 rfl (List.mem_of_getElem? (i := 30) rfl)
theorem m_511 : (.instanceMethod y_R_unitByte : Cond) ∈ WG := in_WG 22 rfl (List.mem_of_getElem? (i := 31) rfl)
theorem m_512 : (.selects "StandInMillModel" y_R_unitByte y_R_unitByte : Cond) ∈ WG := in_WG 22 rfl (List.mem_of_getElem? (i := 32) rfl)
theorem m_513 : (.methodLink "StandInMillModel" 263 y_R_fit : Cond) ∈ WG := in_WG 22 rfl (List.mem_of_getElem? (i := 33) rfl)
theorem m_514 : (.instanceMethod y_R_fit : Cond) ∈ WG := in_WG 22 rfl (List.mem_of_getElem? (i := 34) rfl)
theorem m_515 : (.selects "StandInMillModel" y_R_fit y_R_fit : Cond) ∈ WG := in_WG 22 rfl (List.mem_of_getElem? (i := 35) rfl)
theorem m_516 : (.methodLink "StandInMillModel" 259 y_R_takesAs : Cond) ∈ WG := in_WG 22 rfl (List.mem_of_getElem? (i := 36) rfl)
theorem m_517 : (.instanceMethod y_R_takesAs : Cond) ∈ WG := in_WG 22 rfl (List.mem_of_getElem? (i := 37) rfl)
theorem m_518 : (.selects "StandInMillModel" y_R_takesAs y_R_takesAs : Cond) ∈ WG := in_WG 22 rfl (List.mem_of_getElem? (i := 38) rfl)
theorem m_519 : (.methodLink "StandInMillLaw" 7 y_M_stand : Cond) ∈ WG := in_WG 22 rfl (List.mem_of_getElem? (i := 39) rfl)
theorem m_520 : (.instanceMethod y_M_stand : Cond) ∈ WG := in_WG 23 rfl (List.mem_of_getElem? (i := 0) rfl)
theorem m_521 : (.selects "StandInMill" y_M_stand y_M_stand : Cond) ∈ WG := in_WG 23 rfl (List.mem_of_getElem? (i := 1) rfl)
theorem m_522 : (.classLink "StandInMillLaw" 13 "java/lang/IndexOutOfBoundsException" : Cond) ∈ WG := in_WG 23 rfl (List.mem_of_getElem? (i := 2) rfl)
theorem m_523 : (.classLink "StandInMillLaw" 15 "java/lang/IllegalArgumentException" : Cond) ∈ WG := in_WG 23 rfl (List.mem_of_getElem? (i := 3) rfl)
theorem m_524 : (.codeWith y_L_stand b_L_stand 5 (some (.int)) [(0, 10, 13, 13), (0, 10, 17, 15)] : Cond) ∈ WG := in_WG 23 rfl (List.mem_of_getElem? (i := 4) rfl)
theorem m_525 : (.static y_L_stand : Cond) ∈ WG := in_WG 23 rfl (List.mem_of_getElem? (i := 5) rfl)
theorem m_526 : (.initialized "StandInMillLaw" : Cond) ∈ WG := in_WG 23 rfl (List.mem_of_getElem? (i := 6) rfl)
theorem m_527 : (.methodLink "StandInMillLaw" 17 y_M_call : Cond) ∈ WG := in_WG 23 rfl (List.mem_of_getElem? (i := 7) rfl)
theorem m_528 : (.instanceMethod y_M_call : Cond) ∈ WG := in_WG 23 rfl (List.mem_of_getElem? (i := 8) rfl)
theorem m_529 : (.selects "StandInMill" y_M_call y_M_call : Cond) ∈ WG := in_WG 23 rfl (List.mem_of_getElem? (i := 9) rfl)
theorem m_530 : (.codeWith y_L_call b_L_call 11 (some (.int)) [(0, 16, 19, 13), (0, 16, 23, 15)] : Cond) ∈ WG := in_WG 23 rfl (List.mem_of_getElem? (i := 10) rfl)
theorem m_531 : (.static y_L_call : Cond) ∈ WG := in_WG 23 rfl (List.mem_of_getElem? (i := 11) rfl)
theorem m_532 : (.classLink "StandInMillLaw" 8 "StandInMill" : Cond) ∈ WG := in_WG 23 rfl (List.mem_of_getElem? (i := 12) rfl)
theorem m_533 : (.instantiable "StandInMill" 18 : Cond) ∈ WG := in_WG 23 rfl (List.mem_of_getElem? (i := 13) rfl)
theorem m_534 : (.initialized "StandInMill" : Cond) ∈ WG := in_WG 23 rfl (List.mem_of_getElem? (i := 14) rfl)
theorem m_535 : (.methodLink "StandInMillLaw" 21 y_M_init : Cond) ∈ WG := in_WG 23 rfl (List.mem_of_getElem? (i := 15) rfl)
theorem m_536 : (.instanceMethod y_M_init : Cond) ∈ WG := in_WG 23 rfl (List.mem_of_getElem? (i := 16) rfl)
theorem m_537 : (.classLink "StandInMillLaw" 22 "StandInMillModel" : Cond) ∈ WG := in_WG 23 rfl (List.mem_of_getElem? (i := 17) rfl)
theorem m_538 : (.instantiable "StandInMillModel" 47 : Cond) ∈ WG := in_WG 23 rfl (List.mem_of_getElem? (i := 18) rfl)
theorem m_539 : (.initialized "StandInMillModel" : Cond) ∈ WG := in_WG 23 rfl (List.mem_of_getElem? (i := 19) rfl)
theorem m_540 : (.methodLink "StandInMillLaw" 24 y_R_init : Cond) ∈ WG := in_WG 23 rfl (List.mem_of_getElem? (i := 20) rfl)
theorem m_541 : (.instanceMethod y_R_init : Cond) ∈ WG := in_WG 23 rfl (List.mem_of_getElem? (i := 21) rfl)
theorem m_542 : (.methodLink "StandInMillLaw" 25 y_M_loader : Cond) ∈ WG := in_WG 23 rfl (List.mem_of_getElem? (i := 22) rfl)
theorem m_543 : (.instanceMethod y_M_loader : Cond) ∈ WG := in_WG 23 rfl (List.mem_of_getElem? (i := 23) rfl)
theorem m_544 : (.selects "StandInMill" y_M_loader y_M_loader : Cond) ∈ WG := in_WG 23 rfl (List.mem_of_getElem? (i := 24) rfl)
theorem m_545 : (.methodLink "StandInMillLaw" 29 y_R_loader : Cond) ∈ WG := in_WG 23 rfl (List.mem_of_getElem? (i := 25) rfl)
theorem m_546 : (.instanceMethod y_R_loader : Cond) ∈ WG := in_WG 23 rfl (List.mem_of_getElem? (i := 26) rfl)
theorem m_547 : (.selects "StandInMillModel" y_R_loader y_R_loader : Cond) ∈ WG := in_WG 23 rfl (List.mem_of_getElem? (i := 27) rfl)
theorem m_548 : (.methodLink "StandInMillLaw" 30 y_M_type : Cond) ∈ WG := in_WG 23 rfl (List.mem_of_getElem? (i := 28) rfl)
theorem m_549 : (.instanceMethod y_M_type : Cond) ∈ WG := in_WG 23 rfl (List.mem_of_getElem? (i := 29) rfl)
theorem m_550 : (.selects "StandInMill" y_M_type y_M_type : Cond) ∈ WG := in_WG 23 rfl (List.mem_of_getElem? (i := 30) rfl)
theorem m_551 : (.methodLink "StandInMillLaw" 33 y_R_type : Cond) ∈ WG := in_WG 23 rfl (List.mem_of_getElem? (i := 31) rfl)
theorem m_552 : (.instanceMethod y_R_type : Cond) ∈ WG := in_WG 23 rfl (List.mem_of_getElem? (i := 32) rfl)
theorem m_553 : (.selects "StandInMillModel" y_R_type y_R_type : Cond) ∈ WG := in_WG 23 rfl (List.mem_of_getElem? (i := 33) rfl)
theorem m_554 : (.methodLink "StandInMillLaw" 34 y_M_face : Cond) ∈ WG := in_WG 23 rfl (List.mem_of_getElem? (i := 34) rfl)
theorem m_555 : (.instanceMethod y_M_face : Cond) ∈ WG := in_WG 23 rfl (List.mem_of_getElem? (i := 35) rfl)
theorem m_556 : (.selects "StandInMill" y_M_face y_M_face : Cond) ∈ WG := in_WG 23 rfl (List.mem_of_getElem? (i := 36) rfl)
theorem m_557 : (.methodLink "StandInMillLaw" 38 y_R_face : Cond) ∈ WG := in_WG 23 rfl (List.mem_of_getElem? (i := 37) rfl)
theorem m_558 : (.instanceMethod y_R_face : Cond) ∈ WG := in_WG 23 rfl (List.mem_of_getElem? (i := 38) rfl)
theorem m_559 : (.selects "StandInMillModel" y_R_face y_R_face : Cond) ∈ WG := in_WG 23 rfl (List.mem_of_getElem? (i := 39) rfl)
theorem m_560 : (.methodLink "StandInMillLaw" 39 y_M_extend : Cond) ∈ WG := in_WG 24 rfl (List.mem_of_getElem? (i := 0) rfl)
theorem m_561 : (.instanceMethod y_M_extend : Cond) ∈ WG := in_WG 24 rfl (List.mem_of_getElem? (i := 1) rfl)
theorem m_562 : (.selects "StandInMill" y_M_extend y_M_extend : Cond) ∈ WG := in_WG 24 rfl (List.mem_of_getElem? (i := 2) rfl)
theorem m_563 : (.methodLink "StandInMillLaw" 43 y_R_extend : Cond) ∈ WG := in_WG 24 rfl (List.mem_of_getElem? (i := 3) rfl)
theorem m_564 : (.instanceMethod y_R_extend : Cond) ∈ WG := in_WG 24 rfl (List.mem_of_getElem? (i := 4) rfl)
theorem m_565 : (.selects "StandInMillModel" y_R_extend y_R_extend : Cond) ∈ WG := in_WG 24 rfl (List.mem_of_getElem? (i := 5) rfl)
theorem m_566 : (.methodLink "StandInMillLaw" 44 y_M_method : Cond) ∈ WG := in_WG 24 rfl (List.mem_of_getElem? (i := 6) rfl)
theorem m_567 : (.instanceMethod y_M_method : Cond) ∈ WG := in_WG 24 rfl (List.mem_of_getElem? (i := 7) rfl)
theorem m_568 : (.selects "StandInMill" y_M_method y_M_method : Cond) ∈ WG := in_WG 24 rfl (List.mem_of_getElem? (i := 8) rfl)
theorem m_569 : (.methodLink "StandInMillLaw" 48 y_R_method : Cond) ∈ WG := in_WG 24 rfl (List.mem_of_getElem? (i := 9) rfl)
theorem m_570 : (.instanceMethod y_R_method : Cond) ∈ WG := in_WG 24 rfl (List.mem_of_getElem? (i := 10) rfl)
theorem m_571 : (.selects "StandInMillModel" y_R_method y_R_method : Cond) ∈ WG := in_WG 24 rfl (List.mem_of_getElem? (i := 11) rfl)
theorem m_572 : (.methodLink "StandInMillLaw" 49 y_M_throwing : Cond) ∈ WG := in_WG 24 rfl (List.mem_of_getElem? (i := 12) rfl)
theorem m_573 : (.instanceMethod y_M_throwing : Cond) ∈ WG := in_WG 24 rfl (List.mem_of_getElem? (i := 13) rfl)
theorem m_574 : (.selects "StandInMill" y_M_throwing y_M_throwing : Cond) ∈ WG := in_WG 24 rfl (List.mem_of_getElem? (i := 14) rfl)
theorem m_575 : (.methodLink "StandInMillLaw" 53 y_R_throwing : Cond) ∈ WG := in_WG 24 rfl (List.mem_of_getElem? (i := 15) rfl)
theorem m_576 : (.instanceMethod y_R_throwing : Cond) ∈ WG := in_WG 24 rfl (List.mem_of_getElem? (i := 16) rfl)
theorem m_577 : (.selects "StandInMillModel" y_R_throwing y_R_throwing : Cond) ∈ WG := in_WG 24 rfl (List.mem_of_getElem? (i := 17) rfl)
theorem m_578 : (.constantLong "StandInMillLaw" 54 4294967295 : Cond) ∈ WG := in_WG 24 rfl (List.mem_of_getElem? (i := 18) rfl)
theorem m_579 : (.methodLink "StandInMillLaw" 56 y_M_object : Cond) ∈ WG := in_WG 24 rfl (List.mem_of_getElem? (i := 19) rfl)
theorem m_580 : (.instanceMethod y_M_object : Cond) ∈ WG := in_WG 24 rfl (List.mem_of_getElem? (i := 20) rfl)
theorem m_581 : (.selects "StandInMill" y_M_object y_M_object : Cond) ∈ WG := in_WG 24 rfl (List.mem_of_getElem? (i := 21) rfl)
theorem m_582 : (.methodLink "StandInMillLaw" 60 y_R_object : Cond) ∈ WG := in_WG 24 rfl (List.mem_of_getElem? (i := 22) rfl)
theorem m_583 : (.instanceMethod y_R_object : Cond) ∈ WG := in_WG 24 rfl (List.mem_of_getElem? (i := 23) rfl)
theorem m_584 : (.selects "StandInMillModel" y_R_object y_R_object : Cond) ∈ WG := in_WG 24 rfl (List.mem_of_getElem? (i := 24) rfl)
theorem m_585 : (.methodLink "StandInMillLaw" 61 y_M_value : Cond) ∈ WG := in_WG 24 rfl (List.mem_of_getElem? (i := 25) rfl)
theorem m_586 : (.instanceMethod y_M_value : Cond) ∈ WG := in_WG 24 rfl (List.mem_of_getElem? (i := 26) rfl)
theorem m_587 : (.selects "StandInMill" y_M_value y_M_value : Cond) ∈ WG := in_WG 24 rfl (List.mem_of_getElem? (i := 27) rfl)
theorem m_588 : (.methodLink "StandInMillLaw" 65 y_R_value : Cond) ∈ WG := in_WG 24 rfl (List.mem_of_getElem? (i := 28) rfl)
theorem m_589 : (.instanceMethod y_R_value : Cond) ∈ WG := in_WG 24 rfl (List.mem_of_getElem? (i := 29) rfl)
theorem m_590 : (.selects "StandInMillModel" y_R_value y_R_value : Cond) ∈ WG := in_WG 24 rfl (List.mem_of_getElem? (i := 30) rfl)
theorem m_591 : (.methodLink "StandInMillLaw" 66 y_M_below : Cond) ∈ WG := in_WG 24 rfl (List.mem_of_getElem? (i := 31) rfl)
theorem m_592 : (.instanceMethod y_M_below : Cond) ∈ WG := in_WG 24 rfl (List.mem_of_getElem? (i := 32) rfl)
theorem m_593 : (.selects "StandInMill" y_M_below y_M_below : Cond) ∈ WG := in_WG 24 rfl (List.mem_of_getElem? (i := 33) rfl)
theorem m_594 : (.methodLink "StandInMillLaw" 69 y_R_below : Cond) ∈ WG := in_WG 24 rfl (List.mem_of_getElem? (i := 34) rfl)
theorem m_595 : (.instanceMethod y_R_below : Cond) ∈ WG := in_WG 24 rfl (List.mem_of_getElem? (i := 35) rfl)
theorem m_596 : (.selects "StandInMillModel" y_R_below y_R_below : Cond) ∈ WG := in_WG 24 rfl (List.mem_of_getElem? (i := 36) rfl)
theorem m_597 : (.methodLink "StandInMillLaw" 70 y_M_find : Cond) ∈ WG := in_WG 24 rfl (List.mem_of_getElem? (i := 37) rfl)
theorem m_598 : (.instanceMethod y_M_find : Cond) ∈ WG := in_WG 24 rfl (List.mem_of_getElem? (i := 38) rfl)
theorem m_599 : (.selects "StandInMill" y_M_find y_M_find : Cond) ∈ WG := in_WG 24 rfl (List.mem_of_getElem? (i := 39) rfl)
theorem m_600 : (.methodLink "StandInMillLaw" 73 y_R_find : Cond) ∈ WG := in_WG 25 rfl (List.mem_of_getElem? (i := 0) rfl)
theorem m_601 : (.instanceMethod y_R_find : Cond) ∈ WG := in_WG 25 rfl (List.mem_of_getElem? (i := 1) rfl)
theorem m_602 : (.selects "StandInMillModel" y_R_find y_R_find : Cond) ∈ WG := in_WG 25 rfl (List.mem_of_getElem? (i := 2) rfl)
theorem m_603 : (.methodLink "StandInMillLaw" 74 y_L_stand : Cond) ∈ WG := in_WG 25 rfl (List.mem_of_getElem? (i := 3) rfl)
theorem m_604 : (.methodLink "StandInMillLaw" 79 y_R_stand : Cond) ∈ WG := in_WG 25 rfl (List.mem_of_getElem? (i := 4) rfl)
theorem m_605 : (.instanceMethod y_R_stand : Cond) ∈ WG := in_WG 25 rfl (List.mem_of_getElem? (i := 5) rfl)
theorem m_606 : (.selects "StandInMillModel" y_R_stand y_R_stand : Cond) ∈ WG := in_WG 25 rfl (List.mem_of_getElem? (i := 6) rfl)
theorem m_607 : (.methodLink "StandInMillLaw" 80 y_R_thrown : Cond) ∈ WG := in_WG 25 rfl (List.mem_of_getElem? (i := 7) rfl)
theorem m_608 : (.instanceMethod y_R_thrown : Cond) ∈ WG := in_WG 25 rfl (List.mem_of_getElem? (i := 8) rfl)
theorem m_609 : (.selects "StandInMillModel" y_R_thrown y_R_thrown : Cond) ∈ WG := in_WG 25 rfl (List.mem_of_getElem? (i := 9) rfl)
theorem m_610 : (.methodLink "StandInMillLaw" 84 y_M_fault : Cond) ∈ WG := in_WG 25 rfl (List.mem_of_getElem? (i := 10) rfl)
theorem m_611 : (.instanceMethod y_M_fault : Cond) ∈ WG := in_WG 25 rfl (List.mem_of_getElem? (i := 11) rfl)
theorem m_612 : (.selects "StandInMill" y_M_fault y_M_fault : Cond) ∈ WG := in_WG 25 rfl (List.mem_of_getElem? (i := 12) rfl)
theorem m_613 : (.methodLink "StandInMillLaw" 87 y_R_fault : Cond) ∈ WG := in_WG 25 rfl (List.mem_of_getElem? (i := 13) rfl)
theorem m_614 : (.instanceMethod y_R_fault : Cond) ∈ WG := in_WG 25 rfl (List.mem_of_getElem? (i := 14) rfl)
theorem m_615 : (.selects "StandInMillModel" y_R_fault y_R_fault : Cond) ∈ WG := in_WG 25 rfl (List.mem_of_getElem? (i := 15) rfl)
theorem m_616 : (.methodLink "StandInMillLaw" 88 y_M_about : Cond) ∈ WG := in_WG 25 rfl (List.mem_of_getElem? (i := 16) rfl)
theorem m_617 : (.instanceMethod y_M_about : Cond) ∈ WG := in_WG 25 rfl (List.mem_of_getElem? (i := 17) rfl)
theorem m_618 : (.selects "StandInMill" y_M_about y_M_about : Cond) ∈ WG := in_WG 25 rfl (List.mem_of_getElem? (i := 18) rfl)
theorem m_619 : (.methodLink "StandInMillLaw" 91 y_R_about : Cond) ∈ WG := in_WG 25 rfl (List.mem_of_getElem? (i := 19) rfl)
theorem m_620 : (.instanceMethod y_R_about : Cond) ∈ WG := in_WG 25 rfl (List.mem_of_getElem? (i := 20) rfl)
theorem m_621 : (.selects "StandInMillModel" y_R_about y_R_about : Cond) ∈ WG := in_WG 25 rfl (List.mem_of_getElem? (i := 21) rfl)
theorem m_622 : (.methodLink "StandInMillLaw" 92 y_M_told : Cond) ∈ WG := in_WG 25 rfl (List.mem_of_getElem? (i := 22) rfl)
theorem m_623 : (.instanceMethod y_M_told : Cond) ∈ WG := in_WG 25 rfl (List.mem_of_getElem? (i := 23) rfl)
theorem m_624 : (.selects "StandInMill" y_M_told y_M_told : Cond) ∈ WG := in_WG 25 rfl (List.mem_of_getElem? (i := 24) rfl)
theorem m_625 : (.methodLink "StandInMillLaw" 95 y_R_told : Cond) ∈ WG := in_WG 25 rfl (List.mem_of_getElem? (i := 25) rfl)
theorem m_626 : (.instanceMethod y_R_told : Cond) ∈ WG := in_WG 25 rfl (List.mem_of_getElem? (i := 26) rfl)
theorem m_627 : (.selects "StandInMillModel" y_R_told y_R_told : Cond) ∈ WG := in_WG 25 rfl (List.mem_of_getElem? (i := 27) rfl)
theorem m_628 : (.methodLink "StandInMillLaw" 96 y_M_octet : Cond) ∈ WG := in_WG 25 rfl (List.mem_of_getElem? (i := 28) rfl)
theorem m_629 : (.instanceMethod y_M_octet : Cond) ∈ WG := in_WG 25 rfl (List.mem_of_getElem? (i := 29) rfl)
theorem m_630 : (.selects "StandInMill" y_M_octet y_M_octet : Cond) ∈ WG := in_WG 25 rfl (List.mem_of_getElem? (i := 30) rfl)
theorem m_631 : (.methodLink "StandInMillLaw" 99 y_R_octet : Cond) ∈ WG := in_WG 25 rfl (List.mem_of_getElem? (i := 31) rfl)
theorem m_632 : (.instanceMethod y_R_octet : Cond) ∈ WG := in_WG 25 rfl (List.mem_of_getElem? (i := 32) rfl)
theorem m_633 : (.selects "StandInMillModel" y_R_octet y_R_octet : Cond) ∈ WG := in_WG 25 rfl (List.mem_of_getElem? (i := 33) rfl)
theorem m_634 : (.methodLink "StandInMillLaw" 100 y_M_handler : Cond) ∈ WG := in_WG 25 rfl (List.mem_of_getElem? (i := 34) rfl)
theorem m_635 : (.instanceMethod y_M_handler : Cond) ∈ WG := in_WG 25 rfl (List.mem_of_getElem? (i := 35) rfl)
theorem m_636 : (.selects "StandInMill" y_M_handler y_M_handler : Cond) ∈ WG := in_WG 25 rfl (List.mem_of_getElem? (i := 36) rfl)
theorem m_637 : (.methodLink "StandInMillLaw" 104 y_R_handler : Cond) ∈ WG := in_WG 25 rfl (List.mem_of_getElem? (i := 37) rfl)
theorem m_638 : (.instanceMethod y_R_handler : Cond) ∈ WG := in_WG 25 rfl (List.mem_of_getElem? (i := 38) rfl)
theorem m_639 : (.selects "StandInMillModel" y_R_handler y_R_handler : Cond) ∈ WG := in_WG 25 rfl (List.mem_of_getElem? (i := 39) rfl)
theorem m_640 : (.methodLink "StandInMillLaw" 105 y_L_call : Cond) ∈ WG := in_WG 26 rfl (List.mem_of_getElem? (i := 0) rfl)
theorem m_641 : (.methodLink "StandInMillLaw" 108 y_R_call : Cond) ∈ WG := in_WG 26 rfl (List.mem_of_getElem? (i := 1) rfl)
theorem m_642 : (.instanceMethod y_R_call : Cond) ∈ WG := in_WG 26 rfl (List.mem_of_getElem? (i := 2) rfl)
theorem m_643 : (.selects "StandInMillModel" y_R_call y_R_call : Cond) ∈ WG := in_WG 26 rfl (List.mem_of_getElem? (i := 3) rfl)
theorem m_644 : (.methodLink "StandInMillLaw" 109 y_M_outcome : Cond) ∈ WG := in_WG 26 rfl (List.mem_of_getElem? (i := 4) rfl)
theorem m_645 : (.instanceMethod y_M_outcome : Cond) ∈ WG := in_WG 26 rfl (List.mem_of_getElem? (i := 5) rfl)
theorem m_646 : (.selects "StandInMill" y_M_outcome y_M_outcome : Cond) ∈ WG := in_WG 26 rfl (List.mem_of_getElem? (i := 6) rfl)
theorem m_647 : (.methodLink "StandInMillLaw" 113 y_R_outcome : Cond) ∈ WG := in_WG 26 rfl (List.mem_of_getElem? (i := 7) rfl)
theorem m_648 : (.instanceMethod y_R_outcome : Cond) ∈ WG := in_WG 26 rfl (List.mem_of_getElem? (i := 8) rfl)
theorem m_649 : (.selects "StandInMillModel" y_R_outcome y_R_outcome : Cond) ∈ WG := in_WG 26 rfl (List.mem_of_getElem? (i := 9) rfl)
theorem m_650 : (.methodLink "StandInMillLaw" 114 y_M_seen : Cond) ∈ WG := in_WG 26 rfl (List.mem_of_getElem? (i := 10) rfl)
theorem m_651 : (.instanceMethod y_M_seen : Cond) ∈ WG := in_WG 26 rfl (List.mem_of_getElem? (i := 11) rfl)
theorem m_652 : (.selects "StandInMill" y_M_seen y_M_seen : Cond) ∈ WG := in_WG 26 rfl (List.mem_of_getElem? (i := 12) rfl)
theorem m_653 : (.methodLink "StandInMillLaw" 118 y_R_seen : Cond) ∈ WG := in_WG 26 rfl (List.mem_of_getElem? (i := 13) rfl)
theorem m_654 : (.instanceMethod y_R_seen : Cond) ∈ WG := in_WG 26 rfl (List.mem_of_getElem? (i := 14) rfl)
theorem m_655 : (.selects "StandInMillModel" y_R_seen y_R_seen : Cond) ∈ WG := in_WG 26 rfl (List.mem_of_getElem? (i := 15) rfl)
theorem m_656 : (.code y_Ty_bit b_Ty_bit 1 (some (.long)) : Cond) ∈ WG := in_WG 26 rfl (List.mem_of_getElem? (i := 16) rfl)
theorem m_657 : (.code y_Ty_init b_Ty_init 2 none : Cond) ∈ WG := in_WG 26 rfl (List.mem_of_getElem? (i := 17) rfl)
theorem m_658 : (.code y_Rw_init b_Rw_init 2 none : Cond) ∈ WG := in_WG 26 rfl (List.mem_of_getElem? (i := 18) rfl)
theorem m_659 : (.code y_Dr_init b_Dr_init 2 none : Cond) ∈ WG := in_WG 26 rfl (List.mem_of_getElem? (i := 19) rfl)
theorem m_660 : (.code y_Uw_init b_Uw_init 1 none : Cond) ∈ WG := in_WG 26 rfl (List.mem_of_getElem? (i := 20) rfl)
theorem m_661 : (.code y_Om_init b_Om_init 6 none : Cond) ∈ WG := in_WG 26 rfl (List.mem_of_getElem? (i := 21) rfl)
theorem m_662 : (.code y_Ar_fillJ b_Ar_fillJ 5 none : Cond) ∈ WG := in_WG 26 rfl (List.mem_of_getElem? (i := 22) rfl)
theorem m_663 : (.initialized "java/util/Arrays" : Cond) ∈ WG := in_WG 26 rfl (List.mem_of_getElem? (i := 23) rfl)
theorem m_664 : (.code y_M_init b_M_init 1 none : Cond) ∈ WG := in_WG 26 rfl (List.mem_of_getElem? (i := 24) rfl)
theorem m_665 : (.code y_M_isWithin b_M_isWithin 2 (some (.boolean)) : Cond) ∈ WG := in_WG 26 rfl (List.mem_of_getElem? (i := 25) rfl)
theorem m_666 : (.code y_M_isLoader b_M_isLoader 2 (some (.boolean)) : Cond) ∈ WG := in_WG 26 rfl (List.mem_of_getElem? (i := 26) rfl)
theorem m_667 : (.code y_M_loader b_M_loader 2 (some (.int)) : Cond) ∈ WG := in_WG 26 rfl (List.mem_of_getElem? (i := 27) rfl)
theorem m_668 : (.code y_Ty_isClass b_Ty_isClass 2 (some (.boolean)) : Cond) ∈ WG := in_WG 26 rfl (List.mem_of_getElem? (i := 28) rfl)
theorem m_669 : (.code y_Ty_addClass b_Ty_addClass 2 (some (.int)) : Cond) ∈ WG := in_WG 26 rfl (List.mem_of_getElem? (i := 29) rfl)
theorem m_670 : (.code y_M_type b_M_type 2 (some (.int)) : Cond) ∈ WG := in_WG 26 rfl (List.mem_of_getElem? (i := 30) rfl)
theorem m_671 : (.code y_M_faceMadeBy b_M_faceMadeBy 5 (some (.int)) : Cond) ∈ WG := in_WG 26 rfl (List.mem_of_getElem? (i := 31) rfl)
theorem m_672 : (.code y_M_faceFoundBy b_M_faceFoundBy 8 (some (.int)) : Cond) ∈ WG := in_WG 26 rfl (List.mem_of_getElem? (i := 32) rfl)
theorem m_673 : (.code y_Fc_init b_Fc_init 5 none : Cond) ∈ WG := in_WG 26 rfl (List.mem_of_getElem? (i := 33) rfl)
theorem m_674 : (.code y_Ty_addFace b_Ty_addFace 2 none : Cond) ∈ WG := in_WG 26 rfl (List.mem_of_getElem? (i := 34) rfl)
theorem m_675 : (.code y_M_face b_M_face 6 (some (.int)) : Cond) ∈ WG := in_WG 26 rfl (List.mem_of_getElem? (i := 35) rfl)
theorem m_676 : (.code y_M_isFace b_M_isFace 2 (some (.boolean)) : Cond) ∈ WG := in_WG 26 rfl (List.mem_of_getElem? (i := 36) rfl)
theorem m_677 : (.code y_Fc_hasParent b_Fc_hasParent 3 (some (.boolean)) : Cond) ∈ WG := in_WG 26 rfl (List.mem_of_getElem? (i := 37) rfl)
theorem m_678 : (.code y_M_isVisible b_M_isVisible 4 (some (.boolean)) : Cond) ∈ WG := in_WG 26 rfl (List.mem_of_getElem? (i := 38) rfl)
theorem m_679 : (.code y_Fc_addParent b_Fc_addParent 2 none : Cond) ∈ WG := in_WG 26 rfl (List.mem_of_getElem? (i := 39) rfl)
theorem m_680 : (.code y_Ty_isBelow b_Ty_isBelow 3 (some (.boolean)) : Cond) ∈ WG := in_WG 27 rfl (List.mem_of_getElem? (i := 0) rfl)
theorem m_681 : (.code y_Ty_putBelow b_Ty_putBelow 4 none : Cond) ∈ WG := in_WG 27 rfl (List.mem_of_getElem? (i := 1) rfl)
theorem m_682 : (.code y_M_extend b_M_extend 4 (some (.boolean)) : Cond) ∈ WG := in_WG 27 rfl (List.mem_of_getElem? (i := 2) rfl)
theorem m_683 : (.code y_M_byteOf b_M_byteOf 2 (some (.int)) : Cond) ∈ WG := in_WG 27 rfl (List.mem_of_getElem? (i := 3) rfl)
theorem m_684 : (.code y_M_cutAtZero b_M_cutAtZero 3 (some (.int)) : Cond) ∈ WG := in_WG 27 rfl (List.mem_of_getElem? (i := 4) rfl)
theorem m_685 : (.code y_M_isPlain b_M_isPlain 1 (some (.boolean)) : Cond) ∈ WG := in_WG 27 rfl (List.mem_of_getElem? (i := 5) rfl)
theorem m_686 : (.code y_Ty_isThere b_Ty_isThere 2 (some (.boolean)) : Cond) ∈ WG := in_WG 27 rfl (List.mem_of_getElem? (i := 6) rfl)
theorem m_687 : (.code y_M_isResult b_M_isResult 2 (some (.boolean)) : Cond) ∈ WG := in_WG 27 rfl (List.mem_of_getElem? (i := 7) rfl)
theorem m_688 : (.code y_M_lengthOf b_M_lengthOf 2 (some (.int)) : Cond) ∈ WG := in_WG 27 rfl (List.mem_of_getElem? (i := 8) rfl)
theorem m_689 : (.code y_M_areParameters b_M_areParameters 3 (some (.boolean)) : Cond) ∈ WG := in_WG 27 rfl (List.mem_of_getElem? (i := 9) rfl)
theorem m_690 : (.code y_Fc_hasOwn b_Fc_hasOwn 4 (some (.boolean)) : Cond) ∈ WG := in_WG 27 rfl (List.mem_of_getElem? (i := 10) rfl)
theorem m_691 : (.code y_Fc_addOwn b_Fc_addOwn 2 none : Cond) ∈ WG := in_WG 27 rfl (List.mem_of_getElem? (i := 11) rfl)
theorem m_692 : (.code y_M_method b_M_method 7 (some (.int)) : Cond) ∈ WG := in_WG 27 rfl (List.mem_of_getElem? (i := 12) rfl)
theorem m_693 : (.code y_Rw_has b_Rw_has 3 (some (.boolean)) : Cond) ∈ WG := in_WG 27 rfl (List.mem_of_getElem? (i := 13) rfl)
theorem m_694 : (.code y_Rw_add b_Rw_add 2 none : Cond) ∈ WG := in_WG 27 rfl (List.mem_of_getElem? (i := 14) rfl)
theorem m_695 : (.code y_M_throwing b_M_throwing 6 (some (.boolean)) : Cond) ∈ WG := in_WG 27 rfl (List.mem_of_getElem? (i := 15) rfl)
theorem m_696 : (.code y_M_isBox b_M_isBox 1 (some (.boolean)) : Cond) ∈ WG := in_WG 27 rfl (List.mem_of_getElem? (i := 16) rfl)
theorem m_697 : (.code y_M_fitted b_M_fitted 3 (some (.long)) : Cond) ∈ WG := in_WG 27 rfl (List.mem_of_getElem? (i := 17) rfl)
theorem m_698 : (.code y_M_object b_M_object 4 (some (.int)) : Cond) ∈ WG := in_WG 27 rfl (List.mem_of_getElem? (i := 18) rfl)
theorem m_699 : (.code y_M_value b_M_value 3 (some (.long)) : Cond) ∈ WG := in_WG 27 rfl (List.mem_of_getElem? (i := 19) rfl)
theorem m_700 : (.code y_M_below b_M_below 3 (some (.boolean)) : Cond) ∈ WG := in_WG 27 rfl (List.mem_of_getElem? (i := 20) rfl)
theorem m_701 : (.code y_M_find b_M_find 4 (some (.int)) : Cond) ∈ WG := in_WG 27 rfl (List.mem_of_getElem? (i := 21) rfl)
theorem m_702 : (.code y_M_areFaces b_M_areFaces 3 (some (.boolean)) : Cond) ∈ WG := in_WG 27 rfl (List.mem_of_getElem? (i := 22) rfl)
theorem m_703 : (.code y_M_standMadeFor b_M_standMadeFor 4 (some (.int)) : Cond) ∈ WG := in_WG 27 rfl (List.mem_of_getElem? (i := 23) rfl)
theorem m_704 : (.code y_M_areVisible b_M_areVisible 4 (some (.boolean)) : Cond) ∈ WG := in_WG 27 rfl (List.mem_of_getElem? (i := 24) rfl)
theorem m_705 : (.code y_M_hasTwice b_M_hasTwice 3 (some (.boolean)) : Cond) ∈ WG := in_WG 27 rfl (List.mem_of_getElem? (i := 25) rfl)
theorem m_706 : (.code y_M_packageOf b_M_packageOf 4 (some (.int)) : Cond) ∈ WG := in_WG 27 rfl (List.mem_of_getElem? (i := 26) rfl)
theorem m_707 : (.code y_M_isInTwoPackages b_M_isInTwoPackages 5 (some (.boolean)) : Cond) ∈ WG := in_WG 27 rfl (List.mem_of_getElem? (i := 27) rfl)
theorem m_708 : (.code y_M_faultOfList b_M_faultOfList 3 (some (.int)) : Cond) ∈ WG := in_WG 27 rfl (List.mem_of_getElem? (i := 28) rfl)
theorem m_709 : (.code y_Fc_gather b_Fc_gather 3 none : Cond) ∈ WG := in_WG 27 rfl (List.mem_of_getElem? (i := 29) rfl)
theorem m_710 : (.code y_Fc_gatherOwn b_Fc_gatherOwn 2 none : Cond) ∈ WG := in_WG 27 rfl (List.mem_of_getElem? (i := 30) rfl)
theorem m_711 : (.code y_Fc_gatherFrom b_Fc_gatherFrom 4 none : Cond) ∈ WG := in_WG 27 rfl (List.mem_of_getElem? (i := 31) rfl)
theorem m_712 : (.code y_M_gatherMethods b_M_gatherMethods 4 none : Cond) ∈ WG := in_WG 27 rfl (List.mem_of_getElem? (i := 32) rfl)
theorem m_713 : (.code y_Dr_clear b_Dr_clear 1 none : Cond) ∈ WG := in_WG 27 rfl (List.mem_of_getElem? (i := 33) rfl)
theorem m_714 : (.code y_Om_hasSignatureOf b_Om_hasSignatureOf 2 (some (.boolean)) : Cond) ∈ WG := in_WG 27 rfl (List.mem_of_getElem? (i := 34) rfl)
theorem m_715 : (.code y_Rw_clear b_Rw_clear 1 none : Cond) ∈ WG := in_WG 27 rfl (List.mem_of_getElem? (i := 35) rfl)
theorem m_716 : (.code y_Rw_copyFrom b_Rw_copyFrom 3 none : Cond) ∈ WG := in_WG 27 rfl (List.mem_of_getElem? (i := 36) rfl)
theorem m_717 : (.code y_Ty_isBelowOneOf b_Ty_isBelowOneOf 4 (some (.boolean)) : Cond) ∈ WG := in_WG 27 rfl (List.mem_of_getElem? (i := 37) rfl)
theorem m_718 : (.code y_Ty_addBelow b_Ty_addBelow 5 none : Cond) ∈ WG := in_WG 27 rfl (List.mem_of_getElem? (i := 38) rfl)
theorem m_719 : (.code y_Dr_narrow b_Dr_narrow 3 none : Cond) ∈ WG := in_WG 27 rfl (List.mem_of_getElem? (i := 39) rfl)
theorem m_720 : (.code y_Sm_init b_Sm_init 1 none : Cond) ∈ WG := in_WG 28 rfl (List.mem_of_getElem? (i := 0) rfl)
theorem m_721 : (.code y_Dr_insert b_Dr_insert 5 none : Cond) ∈ WG := in_WG 28 rfl (List.mem_of_getElem? (i := 1) rfl)
theorem m_722 : (.code y_Dr_take b_Dr_take 4 none : Cond) ∈ WG := in_WG 28 rfl (List.mem_of_getElem? (i := 2) rfl)
theorem m_723 : (.code y_M_fillDraft b_M_fillDraft 5 none : Cond) ∈ WG := in_WG 28 rfl (List.mem_of_getElem? (i := 3) rfl)
theorem m_724 : (.code y_Dr_endOfSignature b_Dr_endOfSignature 3 (some (.int)) : Cond) ∈ WG := in_WG 28 rfl (List.mem_of_getElem? (i := 4) rfl)
theorem m_725 : (.code y_Dr_isBelowAll b_Dr_isBelowAll 5 (some (.boolean)) : Cond) ∈ WG := in_WG 28 rfl (List.mem_of_getElem? (i := 5) rfl)
theorem m_726 : (.code y_Dr_resultsAgreeWithin b_Dr_resultsAgreeWithin 6 (some (.boolean)) : Cond) ∈ WG := in_WG 28 rfl (List.mem_of_getElem? (i := 6) rfl)
theorem m_727 : (.code y_Dr_resultsAgree b_Dr_resultsAgree 3 (some (.boolean)) : Cond) ∈ WG := in_WG 28 rfl (List.mem_of_getElem? (i := 7) rfl)
theorem m_728 : (.code y_M_faultOfDraft b_M_faultOfDraft 1 (some (.int)) : Cond) ∈ WG := in_WG 28 rfl (List.mem_of_getElem? (i := 8) rfl)
theorem m_729 : (.code y_M_standsOfPackage b_M_standsOfPackage 4 (some (.int)) : Cond) ∈ WG := in_WG 28 rfl (List.mem_of_getElem? (i := 9) rfl)
theorem m_730 : (.code y_Si_init b_Si_init 6 none : Cond) ∈ WG := in_WG 28 rfl (List.mem_of_getElem? (i := 10) rfl)
theorem m_731 : (.code y_Rw_at b_Rw_at 2 (some (.int)) : Cond) ∈ WG := in_WG 28 rfl (List.mem_of_getElem? (i := 11) rfl)
theorem m_732 : (.code y_Ty_dropBelow b_Ty_dropBelow 5 none : Cond) ∈ WG := in_WG 28 rfl (List.mem_of_getElem? (i := 12) rfl)
theorem m_733 : (.code y_Dr_fillCaught b_Dr_fillCaught 5 none : Cond) ∈ WG := in_WG 28 rfl (List.mem_of_getElem? (i := 13) rfl)
theorem m_734 : (.code y_Dr_handOver b_Dr_handOver 3 none : Cond) ∈ WG := in_WG 28 rfl (List.mem_of_getElem? (i := 14) rfl)
theorem m_735 : (.code y_M_madeOfDraft b_M_madeOfDraft 5 (some (.object "StandInMill$StandIn")) : Cond) ∈ WG := in_WG 28 rfl (List.mem_of_getElem? (i := 15) rfl)
theorem m_736 : (.code y_Ar_fillI b_Ar_fillI 4 none : Cond) ∈ WG := in_WG 28 rfl (List.mem_of_getElem? (i := 16) rfl)
theorem m_737 : (.code y_Uw_put b_Uw_put 2 none : Cond) ∈ WG := in_WG 28 rfl (List.mem_of_getElem? (i := 17) rfl)
theorem m_738 : (.code y_Uw_putInPool b_Uw_putInPool 2 none : Cond) ∈ WG := in_WG 28 rfl (List.mem_of_getElem? (i := 18) rfl)
theorem m_739 : (.code y_Uw_putEntry b_Uw_putEntry 5 (some (.boolean)) : Cond) ∈ WG := in_WG 28 rfl (List.mem_of_getElem? (i := 19) rfl)
theorem m_740 : (.code y_Uw_putType b_Uw_putType 2 none : Cond) ∈ WG := in_WG 28 rfl (List.mem_of_getElem? (i := 20) rfl)
theorem m_741 : (.code y_Uw_putTypes b_Uw_putTypes 3 none : Cond) ∈ WG := in_WG 28 rfl (List.mem_of_getElem? (i := 21) rfl)
theorem m_742 : (.code y_Uw_putRow b_Uw_putRow 3 none : Cond) ∈ WG := in_WG 28 rfl (List.mem_of_getElem? (i := 22) rfl)
theorem m_743 : (.code y_Uw_putMethodEntry b_Uw_putMethodEntry 3 none : Cond) ∈ WG := in_WG 28 rfl (List.mem_of_getElem? (i := 23) rfl)
theorem m_744 : (.code y_Om_parameterCount b_Om_parameterCount 1 (some (.int)) : Cond) ∈ WG := in_WG 28 rfl (List.mem_of_getElem? (i := 24) rfl)
theorem m_745 : (.code y_Uw_putParameterCode b_Uw_putParameterCode 5 none : Cond) ∈ WG := in_WG 28 rfl (List.mem_of_getElem? (i := 25) rfl)
theorem m_746 : (.code y_Uw_putResultCode b_Uw_putResultCode 2 none : Cond) ∈ WG := in_WG 28 rfl (List.mem_of_getElem? (i := 26) rfl)
theorem m_747 : (.code y_Uw_putCode b_Uw_putCode 3 none : Cond) ∈ WG := in_WG 28 rfl (List.mem_of_getElem? (i := 27) rfl)
theorem m_748 : (.code y_Uw_putMethod b_Uw_putMethod 4 none : Cond) ∈ WG := in_WG 28 rfl (List.mem_of_getElem? (i := 28) rfl)
theorem m_749 : (.code y_Uw_joined b_Uw_joined 2 (some (.array (.byte))) : Cond) ∈ WG := in_WG 28 rfl (List.mem_of_getElem? (i := 29) rfl)
theorem m_750 : (.code y_Uw_write b_Uw_write 3 (some (.array (.byte))) : Cond) ∈ WG := in_WG 28 rfl (List.mem_of_getElem? (i := 30) rfl)
theorem m_751 : (.code y_M_stand b_M_stand 6 (some (.int)) : Cond) ∈ WG := in_WG 28 rfl (List.mem_of_getElem? (i := 31) rfl)
theorem m_752 : (.code y_M_fault b_M_fault 1 (some (.int)) : Cond) ∈ WG := in_WG 28 rfl (List.mem_of_getElem? (i := 32) rfl)
theorem m_753 : (.code y_M_about b_M_about 4 (some (.int)) : Cond) ∈ WG := in_WG 28 rfl (List.mem_of_getElem? (i := 33) rfl)
theorem m_754 : (.code y_M_hasMethod b_M_hasMethod 3 (some (.boolean)) : Cond) ∈ WG := in_WG 28 rfl (List.mem_of_getElem? (i := 34) rfl)
theorem m_755 : (.code y_M_told b_M_told 6 (some (.int)) : Cond) ∈ WG := in_WG 28 rfl (List.mem_of_getElem? (i := 35) rfl)
theorem m_756 : (.code y_M_octet b_M_octet 3 (some (.int)) : Cond) ∈ WG := in_WG 28 rfl (List.mem_of_getElem? (i := 36) rfl)
theorem m_757 : (.code y_M_handler b_M_handler 4 (some (.boolean)) : Cond) ∈ WG := in_WG 28 rfl (List.mem_of_getElem? (i := 37) rfl)
theorem m_758 : (.code y_M_isObjectBelow b_M_isObjectBelow 4 (some (.boolean)) : Cond) ∈ WG := in_WG 28 rfl (List.mem_of_getElem? (i := 38) rfl)
theorem m_759 : (.code y_M_takesGiven b_M_takesGiven 4 (some (.boolean)) : Cond) ∈ WG := in_WG 28 rfl (List.mem_of_getElem? (i := 39) rfl)
theorem m_760 : (.code y_M_showObject b_M_showObject 4 none : Cond) ∈ WG := in_WG 29 rfl (List.mem_of_getElem? (i := 0) rfl)
theorem m_761 : (.code y_M_showHandler b_M_showHandler 4 none : Cond) ∈ WG := in_WG 29 rfl (List.mem_of_getElem? (i := 1) rfl)
theorem m_762 : (.code y_M_fitThrown b_M_fitThrown 3 (some (.int)) : Cond) ∈ WG := in_WG 29 rfl (List.mem_of_getElem? (i := 2) rfl)
theorem m_763 : (.code y_M_fitAnswer b_M_fitAnswer 4 (some (.int)) : Cond) ∈ WG := in_WG 29 rfl (List.mem_of_getElem? (i := 3) rfl)
theorem m_764 : (.code y_M_call b_M_call 11 (some (.int)) : Cond) ∈ WG := in_WG 29 rfl (List.mem_of_getElem? (i := 4) rfl)
theorem m_765 : (.code y_M_outcome b_M_outcome 1 (some (.long)) : Cond) ∈ WG := in_WG 29 rfl (List.mem_of_getElem? (i := 5) rfl)
theorem m_766 : (.code y_M_seen b_M_seen 2 (some (.long)) : Cond) ∈ WG := in_WG 29 rfl (List.mem_of_getElem? (i := 6) rfl)
theorem m_767 : (.code y_R_init b_R_init 2 none : Cond) ∈ WG := in_WG 29 rfl (List.mem_of_getElem? (i := 7) rfl)
theorem m_768 : (.code y_R_isClass b_R_isClass 2 (some (.boolean)) : Cond) ∈ WG := in_WG 29 rfl (List.mem_of_getElem? (i := 8) rfl)
theorem m_769 : (.code y_R_isFace b_R_isFace 2 (some (.boolean)) : Cond) ∈ WG := in_WG 29 rfl (List.mem_of_getElem? (i := 9) rfl)
theorem m_770 : (.code y_R_isPlain b_R_isPlain 1 (some (.boolean)) : Cond) ∈ WG := in_WG 29 rfl (List.mem_of_getElem? (i := 10) rfl)
theorem m_771 : (.code y_R_isBox b_R_isBox 1 (some (.boolean)) : Cond) ∈ WG := in_WG 29 rfl (List.mem_of_getElem? (i := 11) rfl)
theorem m_772 : (.code y_R_there b_R_there 2 (some (.boolean)) : Cond) ∈ WG := in_WG 29 rfl (List.mem_of_getElem? (i := 12) rfl)
theorem m_773 : (.code y_R_isBelow b_R_isBelow 6 (some (.boolean)) : Cond) ∈ WG := in_WG 29 rfl (List.mem_of_getElem? (i := 13) rfl)
theorem m_774 : (.code y_R_fitted b_R_fitted 3 (some (.long)) : Cond) ∈ WG := in_WG 29 rfl (List.mem_of_getElem? (i := 14) rfl)
theorem m_775 : (.code y_R_madeBy b_R_madeBy 5 (some (.int)) : Cond) ∈ WG := in_WG 29 rfl (List.mem_of_getElem? (i := 15) rfl)
theorem m_776 : (.code y_R_finds b_R_finds 7 (some (.int)) : Cond) ∈ WG := in_WG 29 rfl (List.mem_of_getElem? (i := 16) rfl)
theorem m_777 : (.code y_R_visible b_R_visible 3 (some (.boolean)) : Cond) ∈ WG := in_WG 29 rfl (List.mem_of_getElem? (i := 17) rfl)
theorem m_778 : (.code y_R_sameSignature b_R_sameSignature 3 (some (.boolean)) : Cond) ∈ WG := in_WG 29 rfl (List.mem_of_getElem? (i := 18) rfl)
theorem m_779 : (.code y_R_takesCount b_R_takesCount 3 (some (.int)) : Cond) ∈ WG := in_WG 29 rfl (List.mem_of_getElem? (i := 19) rfl)
theorem m_780 : (.code y_R_listMethods b_R_listMethods 9 none : Cond) ∈ WG := in_WG 29 rfl (List.mem_of_getElem? (i := 20) rfl)
theorem m_781 : (.code y_R_add b_R_add 3 none : Cond) ∈ WG := in_WG 29 rfl (List.mem_of_getElem? (i := 21) rfl)
theorem m_782 : (.code y_R_belowOneOf b_R_belowOneOf 4 (some (.boolean)) : Cond) ∈ WG := in_WG 29 rfl (List.mem_of_getElem? (i := 22) rfl)
theorem m_783 : (.code y_R_merge b_R_merge 10 none : Cond) ∈ WG := in_WG 29 rfl (List.mem_of_getElem? (i := 23) rfl)
theorem m_784 : (.code y_R_describe b_R_describe 7 none : Cond) ∈ WG := in_WG 29 rfl (List.mem_of_getElem? (i := 24) rfl)
theorem m_785 : (.code y_R_wrongResults b_R_wrongResults 9 (some (.boolean)) : Cond) ∈ WG := in_WG 29 rfl (List.mem_of_getElem? (i := 25) rfl)
theorem m_786 : (.code y_R_faultOf b_R_faultOf 9 (some (.int)) : Cond) ∈ WG := in_WG 29 rfl (List.mem_of_getElem? (i := 26) rfl)
theorem m_787 : (.code y_R_catchFor b_R_catchFor 7 none : Cond) ∈ WG := in_WG 29 rfl (List.mem_of_getElem? (i := 27) rfl)
theorem m_788 : (.code y_R_say b_R_say 2 none : Cond) ∈ WG := in_WG 29 rfl (List.mem_of_getElem? (i := 28) rfl)
theorem m_789 : (.code y_R_entry b_R_entry 5 (some (.int)) : Cond) ∈ WG := in_WG 29 rfl (List.mem_of_getElem? (i := 29) rfl)
theorem m_790 : (.code y_R_owner b_R_owner 1 (some (.int)) : Cond) ∈ WG := in_WG 29 rfl (List.mem_of_getElem? (i := 30) rfl)
theorem m_791 : (.code y_R_numberOf b_R_numberOf 1 (some (.int)) : Cond) ∈ WG := in_WG 29 rfl (List.mem_of_getElem? (i := 31) rfl)
theorem m_792 : (.code y_R_sayCode b_R_sayCode 6 none : Cond) ∈ WG := in_WG 29 rfl (List.mem_of_getElem? (i := 32) rfl)
theorem m_793 : (.code y_R_sayMethod b_R_sayMethod 6 none : Cond) ∈ WG := in_WG 29 rfl (List.mem_of_getElem? (i := 33) rfl)
theorem m_794 : (.code y_R_unit b_R_unit 5 none : Cond) ∈ WG := in_WG 29 rfl (List.mem_of_getElem? (i := 34) rfl)
theorem m_795 : (.code y_R_poolBytes b_R_poolBytes 3 (some (.int)) : Cond) ∈ WG := in_WG 29 rfl (List.mem_of_getElem? (i := 35) rfl)
theorem m_796 : (.code y_R_unitByte b_R_unitByte 5 (some (.int)) : Cond) ∈ WG := in_WG 29 rfl (List.mem_of_getElem? (i := 36) rfl)
theorem m_797 : (.code y_R_thrown b_R_thrown 1 (some (.int)) : Cond) ∈ WG := in_WG 29 rfl (List.mem_of_getElem? (i := 37) rfl)
theorem m_798 : (.code y_R_loader b_R_loader 2 (some (.int)) : Cond) ∈ WG := in_WG 29 rfl (List.mem_of_getElem? (i := 38) rfl)
theorem m_799 : (.code y_R_type b_R_type 2 (some (.int)) : Cond) ∈ WG := in_WG 29 rfl (List.mem_of_getElem? (i := 39) rfl)
theorem m_800 : (.code y_R_face b_R_face 5 (some (.int)) : Cond) ∈ WG := in_WG 30 rfl (List.mem_of_getElem? (i := 0) rfl)
theorem m_801 : (.code y_R_extend b_R_extend 5 (some (.boolean)) : Cond) ∈ WG := in_WG 30 rfl (List.mem_of_getElem? (i := 1) rfl)
theorem m_802 : (.code y_R_method b_R_method 10 (some (.int)) : Cond) ∈ WG := in_WG 30 rfl (List.mem_of_getElem? (i := 2) rfl)
theorem m_803 : (.code y_R_throwing b_R_throwing 6 (some (.boolean)) : Cond) ∈ WG := in_WG 30 rfl (List.mem_of_getElem? (i := 3) rfl)
theorem m_804 : (.code y_R_object b_R_object 4 (some (.int)) : Cond) ∈ WG := in_WG 30 rfl (List.mem_of_getElem? (i := 4) rfl)
theorem m_805 : (.code y_R_value b_R_value 3 (some (.long)) : Cond) ∈ WG := in_WG 30 rfl (List.mem_of_getElem? (i := 5) rfl)
theorem m_806 : (.code y_R_below b_R_below 3 (some (.boolean)) : Cond) ∈ WG := in_WG 30 rfl (List.mem_of_getElem? (i := 6) rfl)
theorem m_807 : (.code y_R_find b_R_find 5 (some (.int)) : Cond) ∈ WG := in_WG 30 rfl (List.mem_of_getElem? (i := 7) rfl)
theorem m_808 : (.code y_R_cleaned b_R_cleaned 4 (some (.int)) : Cond) ∈ WG := in_WG 30 rfl (List.mem_of_getElem? (i := 8) rfl)
theorem m_809 : (.code y_R_stand b_R_stand 7 (some (.int)) : Cond) ∈ WG := in_WG 30 rfl (List.mem_of_getElem? (i := 9) rfl)
theorem m_810 : (.code y_R_fault b_R_fault 1 (some (.int)) : Cond) ∈ WG := in_WG 30 rfl (List.mem_of_getElem? (i := 10) rfl)
theorem m_811 : (.code y_R_isStand b_R_isStand 2 (some (.boolean)) : Cond) ∈ WG := in_WG 30 rfl (List.mem_of_getElem? (i := 11) rfl)
theorem m_812 : (.code y_R_about b_R_about 3 (some (.int)) : Cond) ∈ WG := in_WG 30 rfl (List.mem_of_getElem? (i := 12) rfl)
theorem m_813 : (.code y_R_told b_R_told 6 (some (.int)) : Cond) ∈ WG := in_WG 30 rfl (List.mem_of_getElem? (i := 13) rfl)
theorem m_814 : (.code y_R_octet b_R_octet 3 (some (.int)) : Cond) ∈ WG := in_WG 30 rfl (List.mem_of_getElem? (i := 14) rfl)
theorem m_815 : (.code y_R_handler b_R_handler 4 (some (.boolean)) : Cond) ∈ WG := in_WG 30 rfl (List.mem_of_getElem? (i := 15) rfl)
theorem m_816 : (.code y_R_takesAs b_R_takesAs 5 (some (.boolean)) : Cond) ∈ WG := in_WG 30 rfl (List.mem_of_getElem? (i := 16) rfl)
theorem m_817 : (.code y_R_fit b_R_fit 7 (some (.int)) : Cond) ∈ WG := in_WG 30 rfl (List.mem_of_getElem? (i := 17) rfl)
theorem m_818 : (.code y_R_call b_R_call 13 (some (.int)) : Cond) ∈ WG := in_WG 30 rfl (List.mem_of_getElem? (i := 18) rfl)
theorem m_819 : (.code y_R_outcome b_R_outcome 1 (some (.long)) : Cond) ∈ WG := in_WG 30 rfl (List.mem_of_getElem? (i := 19) rfl)
theorem m_820 : (.code y_R_seen b_R_seen 2 (some (.long)) : Cond) ∈ WG := in_WG 30 rfl (List.mem_of_getElem? (i := 20) rfl)
theorem kb_10 : (Int8.ofInt 10).toInt32 = (10 : Int32) := by decide
theorem kb_11 : (Int8.ofInt 11).toInt32 = (11 : Int32) := by decide
theorem kb_12 : (Int8.ofInt 12).toInt32 = (12 : Int32) := by decide
theorem kb_13 : (Int8.ofInt 13).toInt32 = (13 : Int32) := by decide
theorem kb_14 : (Int8.ofInt 14).toInt32 = (14 : Int32) := by decide
theorem kb_15 : (Int8.ofInt 15).toInt32 = (15 : Int32) := by decide
theorem kb_16 : (Int8.ofInt 16).toInt32 = (16 : Int32) := by decide
theorem kb_17 : (Int8.ofInt 17).toInt32 = (17 : Int32) := by decide
theorem kb_18 : (Int8.ofInt 18).toInt32 = (18 : Int32) := by decide
theorem kb_23 : (Int8.ofInt 23).toInt32 = (23 : Int32) := by decide
theorem kb_24 : (Int8.ofInt 24).toInt32 = (24 : Int32) := by decide
theorem kb_25 : (Int8.ofInt 25).toInt32 = (25 : Int32) := by decide
theorem kb_26 : (Int8.ofInt 26).toInt32 = (26 : Int32) := by decide
theorem kb_27 : (Int8.ofInt 27).toInt32 = (27 : Int32) := by decide
theorem kb_28 : (Int8.ofInt 28).toInt32 = (28 : Int32) := by decide
theorem kb_29 : (Int8.ofInt 29).toInt32 = (29 : Int32) := by decide
theorem kb_31 : (Int8.ofInt 31).toInt32 = (31 : Int32) := by decide
theorem kb_32 : (Int8.ofInt 32).toInt32 = (32 : Int32) := by decide
theorem kb_36 : (Int8.ofInt 36).toInt32 = (36 : Int32) := by decide
theorem kb_40 : (Int8.ofInt 40).toInt32 = (40 : Int32) := by decide
theorem kb_41 : (Int8.ofInt 41).toInt32 = (41 : Int32) := by decide
theorem kb_46 : (Int8.ofInt 46).toInt32 = (46 : Int32) := by decide
theorem kb_47 : (Int8.ofInt 47).toInt32 = (47 : Int32) := by decide
theorem kb_6 : (Int8.ofInt 6).toInt32 = (6 : Int32) := by decide
theorem kb_7 : (Int8.ofInt 7).toInt32 = (7 : Int32) := by decide
theorem kb_70 : (Int8.ofInt 70).toInt32 = (70 : Int32) := by decide
theorem kb_72 : (Int8.ofInt 72).toInt32 = (72 : Int32) := by decide
theorem kb_73 : (Int8.ofInt 73).toInt32 = (73 : Int32) := by decide
theorem kb_74 : (Int8.ofInt 74).toInt32 = (74 : Int32) := by decide
theorem kb_75 : (Int8.ofInt 75).toInt32 = (75 : Int32) := by decide
theorem kb_8 : (Int8.ofInt 8).toInt32 = (8 : Int32) := by decide
theorem kb_80 : (Int8.ofInt 80).toInt32 = (80 : Int32) := by decide
theorem kb_9 : (Int8.ofInt 9).toInt32 = (9 : Int32) := by decide
theorem ki_0 : Int32.ofInt 0 = (0 : Int32) := by decide
theorem ki_1 : Int32.ofInt 1 = (1 : Int32) := by decide
theorem ki_2 : Int32.ofInt 2 = (2 : Int32) := by decide
theorem ki_3 : Int32.ofInt 3 = (3 : Int32) := by decide
theorem ki_4 : Int32.ofInt 4 = (4 : Int32) := by decide
theorem ki_5 : Int32.ofInt 5 = (5 : Int32) := by decide
theorem ki_8 : Int32.ofInt 8 = (8 : Int32) := by decide
theorem ki_9 : Int32.ofInt 9 = (9 : Int32) := by decide
theorem ki_m1 : Int32.ofInt (-1) = ((-1) : Int32) := by decide
theorem ks_1280 : (Int16.ofInt 1280).toInt32 = (1280 : Int32) := by decide
theorem ks_219 : (Int16.ofInt 219).toInt32 = (219 : Int32) := by decide
theorem ks_225 : (Int16.ofInt 225).toInt32 = (225 : Int32) := by decide
theorem ks_255 : (Int16.ofInt 255).toInt32 = (255 : Int32) := by decide
theorem ks_263 : (Int16.ofInt 263).toInt32 = (263 : Int32) := by decide
theorem ks_292 : (Int16.ofInt 292).toInt32 = (292 : Int32) := by decide
theorem ks_3200 : (Int16.ofInt 3200).toInt32 = (3200 : Int32) := by decide
theorem ks_3600 : (Int16.ofInt 3600).toInt32 = (3600 : Int32) := by decide
theorem ks_512 : (Int16.ofInt 512).toInt32 = (512 : Int32) := by decide
theorem ks_768 : (Int16.ofInt 768).toInt32 = (768 : Int32) := by decide
theorem ks_864 : (Int16.ofInt 864).toInt32 = (864 : Int32) := by decide
