theorem se_C_isStill : (Jvm.Cond.selects "SharerHome$Core" (⟨"SharerHome$Core", "isStill", "(I)Z"⟩ : Jvm.MethodName) (⟨"SharerHome$Core", "isStill", "(I)Z"⟩ : Jvm.MethodName)) ∈ zB := zB_mem (List.mem_of_getElem? (i := 0) rfl) rfl
theorem se_C_isEnough : (Jvm.Cond.selects "SharerHome$Core" (⟨"SharerHome$Core", "isEnough", "(I)Z"⟩ : Jvm.MethodName) (⟨"SharerHome$Core", "isEnough", "(I)Z"⟩ : Jvm.MethodName)) ∈ zB := zB_mem (List.mem_of_getElem? (i := 1) rfl) rfl
theorem se_C_finish : (Jvm.Cond.selects "SharerHome$Core" (⟨"SharerHome$Core", "finish", "(I)V"⟩ : Jvm.MethodName) (⟨"SharerHome$Core", "finish", "(I)V"⟩ : Jvm.MethodName)) ∈ zB := zB_mem (List.mem_of_getElem? (i := 2) rfl) rfl
theorem se_C_change : (Jvm.Cond.selects "SharerHome$Core" (⟨"SharerHome$Core", "change", "(II)V"⟩ : Jvm.MethodName) (⟨"SharerHome$Core", "change", "(II)V"⟩ : Jvm.MethodName)) ∈ zB := zB_mem (List.mem_of_getElem? (i := 3) rfl) rfl
theorem se_C_request : (Jvm.Cond.selects "SharerHome$Core" (⟨"SharerHome$Core", "request", "(I)V"⟩ : Jvm.MethodName) (⟨"SharerHome$Core", "request", "(I)V"⟩ : Jvm.MethodName)) ∈ zB := zB_mem (List.mem_of_getElem? (i := 4) rfl) rfl
theorem se_C_sendLeave : (Jvm.Cond.selects "SharerHome$Core" (⟨"SharerHome$Core", "sendLeave", "(IIII)V"⟩ : Jvm.MethodName) (⟨"SharerHome$Core", "sendLeave", "(IIII)V"⟩ : Jvm.MethodName)) ∈ zB := zB_mem (List.mem_of_getElem? (i := 5) rfl) rfl
theorem se_S_fateOf : (Jvm.Cond.selects "SharerHome" (⟨"SharerHome", "fateOf", "(I)I"⟩ : Jvm.MethodName) (⟨"SharerHome", "fateOf", "(I)I"⟩ : Jvm.MethodName)) ∈ zB := zB_mem (List.mem_of_getElem? (i := 6) rfl) rfl
theorem se_A_isOrdered : (Jvm.Cond.selects "SharerHome$Mail" (⟨"SharerHome$Mail", "isOrdered", "(I)Z"⟩ : Jvm.MethodName) (⟨"SharerHome$Mail", "isOrdered", "(I)Z"⟩ : Jvm.MethodName)) ∈ zB := zB_mem (List.mem_of_getElem? (i := 7) rfl) rfl
theorem se_S_isStalled : (Jvm.Cond.selects "SharerHome" (⟨"SharerHome", "isStalled", "(I)Z"⟩ : Jvm.MethodName) (⟨"SharerHome", "isStalled", "(I)Z"⟩ : Jvm.MethodName)) ∈ zB := zB_mem (List.mem_of_getElem? (i := 8) rfl) rfl
theorem se_S_handOver : (Jvm.Cond.selects "SharerHome" (⟨"SharerHome", "handOver", "(I)V"⟩ : Jvm.MethodName) (⟨"SharerHome", "handOver", "(I)V"⟩ : Jvm.MethodName)) ∈ zB := zB_mem (List.mem_of_getElem? (i := 9) rfl) rfl
theorem se_H_takeRead : (Jvm.Cond.selects "SharerHome$Home" (⟨"SharerHome$Home", "takeRead", "(II)V"⟩ : Jvm.MethodName) (⟨"SharerHome$Home", "takeRead", "(II)V"⟩ : Jvm.MethodName)) ∈ zB := zB_mem (List.mem_of_getElem? (i := 10) rfl) rfl
theorem se_H_makeOwner : (Jvm.Cond.selects "SharerHome$Home" (⟨"SharerHome$Home", "makeOwner", "(II)V"⟩ : Jvm.MethodName) (⟨"SharerHome$Home", "makeOwner", "(II)V"⟩ : Jvm.MethodName)) ∈ zB := zB_mem (List.mem_of_getElem? (i := 11) rfl) rfl
theorem se_H_takeWrite : (Jvm.Cond.selects "SharerHome$Home" (⟨"SharerHome$Home", "takeWrite", "(II)V"⟩ : Jvm.MethodName) (⟨"SharerHome$Home", "takeWrite", "(II)V"⟩ : Jvm.MethodName)) ∈ zB := zB_mem (List.mem_of_getElem? (i := 12) rfl) rfl
theorem se_H_dropOthers : (Jvm.Cond.selects "SharerHome$Home" (⟨"SharerHome$Home", "dropOthers", "(II)V"⟩ : Jvm.MethodName) (⟨"SharerHome$Home", "dropOthers", "(II)V"⟩ : Jvm.MethodName)) ∈ zB := zB_mem (List.mem_of_getElem? (i := 13) rfl) rfl
theorem se_H_takeLeave : (Jvm.Cond.selects "SharerHome$Home" (⟨"SharerHome$Home", "takeLeave", "(III)V"⟩ : Jvm.MethodName) (⟨"SharerHome$Home", "takeLeave", "(III)V"⟩ : Jvm.MethodName)) ∈ zB := zB_mem (List.mem_of_getElem? (i := 14) rfl) rfl
theorem se_H_forgetSharer : (Jvm.Cond.selects "SharerHome$Home" (⟨"SharerHome$Home", "forgetSharer", "(II)V"⟩ : Jvm.MethodName) (⟨"SharerHome$Home", "forgetSharer", "(II)V"⟩ : Jvm.MethodName)) ∈ zB := zB_mem (List.mem_of_getElem? (i := 15) rfl) rfl
theorem se_C_shareWith : (Jvm.Cond.selects "SharerHome$Core" (⟨"SharerHome$Core", "shareWith", "(II)V"⟩ : Jvm.MethodName) (⟨"SharerHome$Core", "shareWith", "(II)V"⟩ : Jvm.MethodName)) ∈ zB := zB_mem (List.mem_of_getElem? (i := 16) rfl) rfl
theorem se_C_isLeavingAlone : (Jvm.Cond.selects "SharerHome$Core" (⟨"SharerHome$Core", "isLeavingAlone", "(I)Z"⟩ : Jvm.MethodName) (⟨"SharerHome$Core", "isLeavingAlone", "(I)Z"⟩ : Jvm.MethodName)) ∈ zB := zB_mem (List.mem_of_getElem? (i := 17) rfl) rfl
theorem se_C_yieldTo : (Jvm.Cond.selects "SharerHome$Core" (⟨"SharerHome$Core", "yieldTo", "(II)V"⟩ : Jvm.MethodName) (⟨"SharerHome$Core", "yieldTo", "(II)V"⟩ : Jvm.MethodName)) ∈ zB := zB_mem (List.mem_of_getElem? (i := 18) rfl) rfl
theorem se_C_dropFor : (Jvm.Cond.selects "SharerHome$Core" (⟨"SharerHome$Core", "dropFor", "(II)V"⟩ : Jvm.MethodName) (⟨"SharerHome$Core", "dropFor", "(II)V"⟩ : Jvm.MethodName)) ∈ zB := zB_mem (List.mem_of_getElem? (i := 19) rfl) rfl
theorem se_C_takeData : (Jvm.Cond.selects "SharerHome$Core" (⟨"SharerHome$Core", "takeData", "(III)V"⟩ : Jvm.MethodName) (⟨"SharerHome$Core", "takeData", "(III)V"⟩ : Jvm.MethodName)) ∈ zB := zB_mem (List.mem_of_getElem? (i := 20) rfl) rfl
theorem se_C_ownIfNothingOwed : (Jvm.Cond.selects "SharerHome$Core" (⟨"SharerHome$Core", "ownIfNothingOwed", "(I)V"⟩ : Jvm.MethodName) (⟨"SharerHome$Core", "ownIfNothingOwed", "(I)V"⟩ : Jvm.MethodName)) ∈ zB := zB_mem (List.mem_of_getElem? (i := 21) rfl) rfl
theorem se_C_takeDropped : (Jvm.Cond.selects "SharerHome$Core" (⟨"SharerHome$Core", "takeDropped", "(I)V"⟩ : Jvm.MethodName) (⟨"SharerHome$Core", "takeDropped", "(I)V"⟩ : Jvm.MethodName)) ∈ zB := zB_mem (List.mem_of_getElem? (i := 22) rfl) rfl
theorem se_S_oldestToTake : (Jvm.Cond.selects "SharerHome" (⟨"SharerHome", "oldestToTake", "()I"⟩ : Jvm.MethodName) (⟨"SharerHome", "oldestToTake", "()I"⟩ : Jvm.MethodName)) ∈ zB := zB_mem (List.mem_of_getElem? (i := 23) rfl) rfl
theorem se_M_start : (Jvm.Cond.selects "SharerHomeModel" (⟨"SharerHomeModel", "start", "(IIII)I"⟩ : Jvm.MethodName) (⟨"SharerHomeModel", "start", "(IIII)I"⟩ : Jvm.MethodName)) ∈ zB := zB_mem (List.mem_of_getElem? (i := 24) rfl) rfl
theorem se_M_finish : (Jvm.Cond.selects "SharerHomeModel" (⟨"SharerHomeModel", "finish", "(II)V"⟩ : Jvm.MethodName) (⟨"SharerHomeModel", "finish", "(II)V"⟩ : Jvm.MethodName)) ∈ zB := zB_mem (List.mem_of_getElem? (i := 25) rfl) rfl
theorem se_M_send : (Jvm.Cond.selects "SharerHomeModel" (⟨"SharerHomeModel", "send", "(IIIIII)V"⟩ : Jvm.MethodName) (⟨"SharerHomeModel", "send", "(IIIIII)V"⟩ : Jvm.MethodName)) ∈ zB := zB_mem (List.mem_of_getElem? (i := 26) rfl) rfl
theorem se_M_sendWith : (Jvm.Cond.selects "SharerHomeModel" (⟨"SharerHomeModel", "sendWith", "(IIIIIII)V"⟩ : Jvm.MethodName) (⟨"SharerHomeModel", "sendWith", "(IIIIIII)V"⟩ : Jvm.MethodName)) ∈ zB := zB_mem (List.mem_of_getElem? (i := 27) rfl) rfl
theorem se_M_move : (Jvm.Cond.selects "SharerHomeModel" (⟨"SharerHomeModel", "move", "(I)I"⟩ : Jvm.MethodName) (⟨"SharerHomeModel", "move", "(I)I"⟩ : Jvm.MethodName)) ∈ zB := zB_mem (List.mem_of_getElem? (i := 28) rfl) rfl
theorem se_M_keptBack : (Jvm.Cond.selects "SharerHomeModel" (⟨"SharerHomeModel", "keptBack", "(I)Z"⟩ : Jvm.MethodName) (⟨"SharerHomeModel", "keptBack", "(I)Z"⟩ : Jvm.MethodName)) ∈ zB := zB_mem (List.mem_of_getElem? (i := 29) rfl) rfl
theorem se_M_stalls : (Jvm.Cond.selects "SharerHomeModel" (⟨"SharerHomeModel", "stalls", "(I)Z"⟩ : Jvm.MethodName) (⟨"SharerHomeModel", "stalls", "(I)Z"⟩ : Jvm.MethodName)) ∈ zB := zB_mem (List.mem_of_getElem? (i := 30) rfl) rfl
theorem se_M_strike : (Jvm.Cond.selects "SharerHomeModel" (⟨"SharerHomeModel", "strike", "(I)V"⟩ : Jvm.MethodName) (⟨"SharerHomeModel", "strike", "(I)V"⟩ : Jvm.MethodName)) ∈ zB := zB_mem (List.mem_of_getElem? (i := 31) rfl) rfl
theorem se_M_toCore : (Jvm.Cond.selects "SharerHomeModel" (⟨"SharerHomeModel", "toCore", "(IIIIII)V"⟩ : Jvm.MethodName) (⟨"SharerHomeModel", "toCore", "(IIIIII)V"⟩ : Jvm.MethodName)) ∈ zB := zB_mem (List.mem_of_getElem? (i := 32) rfl) rfl
theorem se_M_acknowledged : (Jvm.Cond.selects "SharerHomeModel" (⟨"SharerHomeModel", "acknowledged", "(II)V"⟩ : Jvm.MethodName) (⟨"SharerHomeModel", "acknowledged", "(II)V"⟩ : Jvm.MethodName)) ∈ zB := zB_mem (List.mem_of_getElem? (i := 33) rfl) rfl
theorem se_M_toRead : (Jvm.Cond.selects "SharerHomeModel" (⟨"SharerHomeModel", "toRead", "(II)V"⟩ : Jvm.MethodName) (⟨"SharerHomeModel", "toRead", "(II)V"⟩ : Jvm.MethodName)) ∈ zB := zB_mem (List.mem_of_getElem? (i := 34) rfl) rfl
theorem se_M_toWrite : (Jvm.Cond.selects "SharerHomeModel" (⟨"SharerHomeModel", "toWrite", "(II)V"⟩ : Jvm.MethodName) (⟨"SharerHomeModel", "toWrite", "(II)V"⟩ : Jvm.MethodName)) ∈ zB := zB_mem (List.mem_of_getElem? (i := 35) rfl) rfl
theorem se_M_toLeave : (Jvm.Cond.selects "SharerHomeModel" (⟨"SharerHomeModel", "toLeave", "(IIII)V"⟩ : Jvm.MethodName) (⟨"SharerHomeModel", "toLeave", "(IIII)V"⟩ : Jvm.MethodName)) ∈ zB := zB_mem (List.mem_of_getElem? (i := 36) rfl) rfl
theorem in_L : (Jvm.Cond.initialized "SharerHomeLaw") ∈ zB := zB_mem (List.mem_of_getElem? (i := 37) rfl) rfl
theorem in_S : (Jvm.Cond.initialized "SharerHome") ∈ zB := zB_mem (List.mem_of_getElem? (i := 38) rfl) rfl
theorem in_A : (Jvm.Cond.initialized "SharerHome$Mail") ∈ zB := zB_mem (List.mem_of_getElem? (i := 39) rfl) rfl
theorem in_H : (Jvm.Cond.initialized "SharerHome$Home") ∈ zB := zB_mem (List.mem_of_getElem? (i := 40) rfl) rfl
theorem in_C : (Jvm.Cond.initialized "SharerHome$Core") ∈ zB := zB_mem (List.mem_of_getElem? (i := 41) rfl) rfl
theorem in_M : (Jvm.Cond.initialized "SharerHomeModel") ∈ zB := zB_mem (List.mem_of_getElem? (i := 42) rfl) rfl
theorem in_J : (Jvm.Cond.initialized "java/lang/Integer") ∈ zB := zB_mem (List.mem_of_getElem? (i := 43) rfl) rfl
theorem cl_L_7 : (Jvm.Cond.classLink "SharerHomeLaw" (7 : Nat) "SharerHome") ∈ zB := zB_mem (List.mem_of_getElem? (i := 44) rfl) rfl
theorem is_S : (Jvm.Cond.instantiable "SharerHome" (3 : Nat)) ∈ zB := zB_mem (List.mem_of_getElem? (i := 45) rfl) rfl
theorem ml_L_9 : (Jvm.Cond.methodLink "SharerHomeLaw" (9 : Nat) ({ cls := "SharerHome", name := "<init>", desc := "()V" } : Jvm.MethodName)) ∈ zB := zB_mem (List.mem_of_getElem? (i := 46) rfl) rfl
theorem im_S_init : (Jvm.Cond.instanceMethod ({ cls := "SharerHome", name := "<init>", desc := "()V" } : Jvm.MethodName)) ∈ zB := zB_mem (List.mem_of_getElem? (i := 47) rfl) rfl
theorem co_S_init : (Jvm.Cond.code ({ cls := "SharerHome", name := "<init>", desc := "()V" } : Jvm.MethodName) prog_1_method_1_code (2 : Nat) (Option.none : Option Jvm.ClassFile.FieldType)) ∈ zB := zB_mem (List.mem_of_getElem? (i := 48) rfl) rfl
theorem ml_S_1 : (Jvm.Cond.methodLink "SharerHome" (1 : Nat) ({ cls := "java/lang/Object", name := "<init>", desc := "()V" } : Jvm.MethodName)) ∈ zB := zB_mem (List.mem_of_getElem? (i := 49) rfl) rfl
theorem im_O_init : (Jvm.Cond.instanceMethod ({ cls := "java/lang/Object", name := "<init>", desc := "()V" } : Jvm.MethodName)) ∈ zB := zB_mem (List.mem_of_getElem? (i := 50) rfl) rfl
theorem co_O_init : (Jvm.Cond.code ({ cls := "java/lang/Object", name := "<init>", desc := "()V" } : Jvm.MethodName) object_method_1_code (1 : Nat) (Option.none : Option Jvm.ClassFile.FieldType)) ∈ zB := zB_mem (List.mem_of_getElem? (i := 51) rfl) rfl
theorem cl_S_7 : (Jvm.Cond.classLink "SharerHome" (7 : Nat) "SharerHome$Mail") ∈ zB := zB_mem (List.mem_of_getElem? (i := 52) rfl) rfl
theorem is_A : (Jvm.Cond.instantiable "SharerHome$Mail" (3 : Nat)) ∈ zB := zB_mem (List.mem_of_getElem? (i := 53) rfl) rfl
theorem mn_S_9 : (Jvm.Cond.methodLinkNest "SharerHome" (9 : Nat) ({ cls := "SharerHome$Mail", name := "<init>", desc := "()V" } : Jvm.MethodName) "SharerHome") ∈ zNw := List.mem_filter.mpr ⟨List.mem_of_getElem? (i := 54) rfl, rfl⟩
theorem im_A_init : (Jvm.Cond.instanceMethod ({ cls := "SharerHome$Mail", name := "<init>", desc := "()V" } : Jvm.MethodName)) ∈ zB := zB_mem (List.mem_of_getElem? (i := 55) rfl) rfl
theorem co_A_init : (Jvm.Cond.code ({ cls := "SharerHome$Mail", name := "<init>", desc := "()V" } : Jvm.MethodName) prog_4_method_1_code (1 : Nat) (Option.none : Option Jvm.ClassFile.FieldType)) ∈ zB := zB_mem (List.mem_of_getElem? (i := 56) rfl) rfl
theorem ml_A_3 : (Jvm.Cond.methodLink "SharerHome$Mail" (3 : Nat) ({ cls := "java/lang/Object", name := "<init>", desc := "()V" } : Jvm.MethodName)) ∈ zB := zB_mem (List.mem_of_getElem? (i := 57) rfl) rfl
theorem cl_A_11 : (Jvm.Cond.classLink "SharerHome$Mail" (11 : Nat) "[[I") ∈ zB := zB_mem (List.mem_of_getElem? (i := 58) rfl) rfl
theorem ao_array : (Jvm.Cond.arrayOver (Jvm.ClassFile.FieldType.array Jvm.ClassFile.FieldType.int)) ∈ lw_tbl := List.mem_of_getElem? (i := 59) rfl
theorem fl_A_13 : (Jvm.Cond.fieldLink "SharerHome$Mail" (13 : Nat) "SharerHome$Mail" "parts" "[[I") ∈ zB := zB_mem (List.mem_of_getElem? (i := 60) rfl) rfl
theorem fl_A_16 : (Jvm.Cond.fieldLink "SharerHome$Mail" (16 : Nat) "SharerHome$Mail" "tallies" "[[I") ∈ zB := zB_mem (List.mem_of_getElem? (i := 61) rfl) rfl
theorem fn_S_97 : (Jvm.Cond.fieldLinkNest "SharerHome" (97 : Nat) "SharerHome$Mail" "tallies" "[[I" "SharerHome") ∈ zNw := List.mem_filter.mpr ⟨List.mem_of_getElem? (i := 62) rfl, rfl⟩
theorem fl_A_19 : (Jvm.Cond.fieldLink "SharerHome$Mail" (19 : Nat) "SharerHome$Mail" "count" "I") ∈ zB := zB_mem (List.mem_of_getElem? (i := 63) rfl) rfl
theorem fn_S_57 : (Jvm.Cond.fieldLinkNest "SharerHome" (57 : Nat) "SharerHome$Mail" "count" "I" "SharerHome") ∈ zNw := List.mem_filter.mpr ⟨List.mem_of_getElem? (i := 64) rfl, rfl⟩
theorem ac_int : (Jvm.Cond.arrayClass Jvm.ClassFile.FieldType.int) ∈ zB := zB_mem (List.mem_of_getElem? (i := 72) rfl) rfl
theorem cl_S_16 : (Jvm.Cond.classLink "SharerHome" (16 : Nat) "SharerHome$Home") ∈ zB := zB_mem (List.mem_of_getElem? (i := 73) rfl) rfl
theorem is_H : (Jvm.Cond.instantiable "SharerHome$Home" (5 : Nat)) ∈ zB := zB_mem (List.mem_of_getElem? (i := 74) rfl) rfl
theorem ml_S_18 : (Jvm.Cond.methodLink "SharerHome" (18 : Nat) ({ cls := "SharerHome$Home", name := "<init>", desc := "(LSharerHome$Mail;)V" } : Jvm.MethodName)) ∈ zB := zB_mem (List.mem_of_getElem? (i := 75) rfl) rfl
theorem im_H_init : (Jvm.Cond.instanceMethod ({ cls := "SharerHome$Home", name := "<init>", desc := "(LSharerHome$Mail;)V" } : Jvm.MethodName)) ∈ zB := zB_mem (List.mem_of_getElem? (i := 76) rfl) rfl
theorem co_H_init : (Jvm.Cond.code ({ cls := "SharerHome$Home", name := "<init>", desc := "(LSharerHome$Mail;)V" } : Jvm.MethodName) prog_3_method_1_code (2 : Nat) (Option.none : Option Jvm.ClassFile.FieldType)) ∈ zB := zB_mem (List.mem_of_getElem? (i := 77) rfl) rfl
theorem ml_H_3 : (Jvm.Cond.methodLink "SharerHome$Home" (3 : Nat) ({ cls := "java/lang/Object", name := "<init>", desc := "()V" } : Jvm.MethodName)) ∈ zB := zB_mem (List.mem_of_getElem? (i := 78) rfl) rfl
theorem fl_H_24 : (Jvm.Cond.fieldLink "SharerHome$Home" (24 : Nat) "SharerHome$Home" "mail" "LSharerHome$Mail;") ∈ zB := zB_mem (List.mem_of_getElem? (i := 79) rfl) rfl
theorem fl_H_9 : (Jvm.Cond.fieldLink "SharerHome$Home" (9 : Nat) "SharerHome$Home" "memories" "[I") ∈ zB := zB_mem (List.mem_of_getElem? (i := 80) rfl) rfl
theorem fn_S_81 : (Jvm.Cond.fieldLinkNest "SharerHome" (81 : Nat) "SharerHome$Home" "memories" "[I" "SharerHome") ∈ zNw := List.mem_filter.mpr ⟨List.mem_of_getElem? (i := 81) rfl, rfl⟩
theorem fl_H_15 : (Jvm.Cond.fieldLink "SharerHome$Home" (15 : Nat) "SharerHome$Home" "keepings" "[I") ∈ zB := zB_mem (List.mem_of_getElem? (i := 82) rfl) rfl
theorem fl_H_18 : (Jvm.Cond.fieldLink "SharerHome$Home" (18 : Nat) "SharerHome$Home" "owners" "[I") ∈ zB := zB_mem (List.mem_of_getElem? (i := 83) rfl) rfl
theorem fl_H_21 : (Jvm.Cond.fieldLink "SharerHome$Home" (21 : Nat) "SharerHome$Home" "sharers" "[I") ∈ zB := zB_mem (List.mem_of_getElem? (i := 84) rfl) rfl
theorem cl_S_25 : (Jvm.Cond.classLink "SharerHome" (25 : Nat) "SharerHome$Core") ∈ zB := zB_mem (List.mem_of_getElem? (i := 96) rfl) rfl
theorem ao_object : (Jvm.Cond.arrayOver (Jvm.ClassFile.FieldType.object "SharerHome$Core")) ∈ lw_tbl := List.mem_of_getElem? (i := 97) rfl
theorem is_C : (Jvm.Cond.instantiable "SharerHome$Core" (10 : Nat)) ∈ zB := zB_mem (List.mem_of_getElem? (i := 98) rfl) rfl
theorem ml_S_31 : (Jvm.Cond.methodLink "SharerHome" (31 : Nat) ({ cls := "SharerHome$Core", name := "<init>", desc := "(ILSharerHome$Mail;)V" } : Jvm.MethodName)) ∈ zB := zB_mem (List.mem_of_getElem? (i := 99) rfl) rfl
theorem im_C_init : (Jvm.Cond.instanceMethod ({ cls := "SharerHome$Core", name := "<init>", desc := "(ILSharerHome$Mail;)V" } : Jvm.MethodName)) ∈ zB := zB_mem (List.mem_of_getElem? (i := 100) rfl) rfl
theorem co_C_init : (Jvm.Cond.code ({ cls := "SharerHome$Core", name := "<init>", desc := "(ILSharerHome$Mail;)V" } : Jvm.MethodName) prog_2_method_1_code (3 : Nat) (Option.none : Option Jvm.ClassFile.FieldType)) ∈ zB := zB_mem (List.mem_of_getElem? (i := 101) rfl) rfl
theorem ml_C_3 : (Jvm.Cond.methodLink "SharerHome$Core" (3 : Nat) ({ cls := "java/lang/Object", name := "<init>", desc := "()V" } : Jvm.MethodName)) ∈ zB := zB_mem (List.mem_of_getElem? (i := 102) rfl) rfl
theorem fl_C_38 : (Jvm.Cond.fieldLink "SharerHome$Core" (38 : Nat) "SharerHome$Core" "self" "I") ∈ zB := zB_mem (List.mem_of_getElem? (i := 103) rfl) rfl
theorem fl_C_41 : (Jvm.Cond.fieldLink "SharerHome$Core" (41 : Nat) "SharerHome$Core" "mail" "LSharerHome$Mail;") ∈ zB := zB_mem (List.mem_of_getElem? (i := 104) rfl) rfl
theorem fl_C_9 : (Jvm.Cond.fieldLink "SharerHome$Core" (9 : Nat) "SharerHome$Core" "states" "[I") ∈ zB := zB_mem (List.mem_of_getElem? (i := 105) rfl) rfl
theorem fn_S_65 : (Jvm.Cond.fieldLinkNest "SharerHome" (65 : Nat) "SharerHome$Core" "states" "[I" "SharerHome") ∈ zNw := List.mem_filter.mpr ⟨List.mem_of_getElem? (i := 106) rfl, rfl⟩
theorem fl_C_15 : (Jvm.Cond.fieldLink "SharerHome$Core" (15 : Nat) "SharerHome$Core" "values" "[I") ∈ zB := zB_mem (List.mem_of_getElem? (i := 107) rfl) rfl
theorem fl_C_18 : (Jvm.Cond.fieldLink "SharerHome$Core" (18 : Nat) "SharerHome$Core" "owed" "[I") ∈ zB := zB_mem (List.mem_of_getElem? (i := 108) rfl) rfl
theorem fl_C_21 : (Jvm.Cond.fieldLink "SharerHome$Core" (21 : Nat) "SharerHome$Core" "waiting" "Z") ∈ zB := zB_mem (List.mem_of_getElem? (i := 109) rfl) rfl
theorem fn_S_87 : (Jvm.Cond.fieldLinkNest "SharerHome" (87 : Nat) "SharerHome$Core" "waiting" "Z" "SharerHome") ∈ zNw := List.mem_filter.mpr ⟨List.mem_of_getElem? (i := 110) rfl, rfl⟩
theorem fl_C_25 : (Jvm.Cond.fieldLink "SharerHome$Core" (25 : Nat) "SharerHome$Core" "operation" "I") ∈ zB := zB_mem (List.mem_of_getElem? (i := 111) rfl) rfl
theorem fl_C_29 : (Jvm.Cond.fieldLink "SharerHome$Core" (29 : Nat) "SharerHome$Core" "operand" "I") ∈ zB := zB_mem (List.mem_of_getElem? (i := 112) rfl) rfl
theorem fl_C_32 : (Jvm.Cond.fieldLink "SharerHome$Core" (32 : Nat) "SharerHome$Core" "finished" "I") ∈ zB := zB_mem (List.mem_of_getElem? (i := 113) rfl) rfl
theorem fn_S_91 : (Jvm.Cond.fieldLinkNest "SharerHome" (91 : Nat) "SharerHome$Core" "finished" "I" "SharerHome") ∈ zNw := List.mem_filter.mpr ⟨List.mem_of_getElem? (i := 114) rfl, rfl⟩
theorem fl_C_35 : (Jvm.Cond.fieldLink "SharerHome$Core" (35 : Nat) "SharerHome$Core" "latestResult" "I") ∈ zB := zB_mem (List.mem_of_getElem? (i := 115) rfl) rfl
theorem fn_S_94 : (Jvm.Cond.fieldLinkNest "SharerHome" (94 : Nat) "SharerHome$Core" "latestResult" "I" "SharerHome") ∈ zNw := List.mem_filter.mpr ⟨List.mem_of_getElem? (i := 116) rfl, rfl⟩
theorem fl_S_10 : (Jvm.Cond.fieldLink "SharerHome" (10 : Nat) "SharerHome" "mail" "LSharerHome$Mail;") ∈ zB := zB_mem (List.mem_of_getElem? (i := 138) rfl) rfl
theorem fl_S_27 : (Jvm.Cond.fieldLink "SharerHome" (27 : Nat) "SharerHome" "cores" "[LSharerHome$Core;") ∈ zB := zB_mem (List.mem_of_getElem? (i := 139) rfl) rfl
theorem fl_S_21 : (Jvm.Cond.fieldLink "SharerHome" (21 : Nat) "SharerHome" "home" "LSharerHome$Home;") ∈ zB := zB_mem (List.mem_of_getElem? (i := 140) rfl) rfl
theorem ml_L_13 : (Jvm.Cond.methodLink "SharerHomeLaw" (13 : Nat) ({ cls := "SharerHome", name := "load", desc := "(II)I" } : Jvm.MethodName)) ∈ zB := zB_mem (List.mem_of_getElem? (i := 148) rfl) rfl
theorem im_S_load : (Jvm.Cond.instanceMethod ({ cls := "SharerHome", name := "load", desc := "(II)I" } : Jvm.MethodName)) ∈ zB := zB_mem (List.mem_of_getElem? (i := 149) rfl) rfl
theorem se_S_load : (Jvm.Cond.selects "SharerHome" ({ cls := "SharerHome", name := "load", desc := "(II)I" } : Jvm.MethodName) ({ cls := "SharerHome", name := "load", desc := "(II)I" } : Jvm.MethodName)) ∈ zB := zB_mem (List.mem_of_getElem? (i := 150) rfl) rfl
theorem co_S_load : (Jvm.Cond.code ({ cls := "SharerHome", name := "load", desc := "(II)I" } : Jvm.MethodName) prog_1_method_2_code (3 : Nat) (Option.some Jvm.ClassFile.FieldType.int)) ∈ zB := zB_mem (List.mem_of_getElem? (i := 151) rfl) rfl
theorem ml_S_34 : (Jvm.Cond.methodLink "SharerHome" (34 : Nat) ({ cls := "SharerHome", name := "isCopy", desc := "(II)Z" } : Jvm.MethodName)) ∈ zB := zB_mem (List.mem_of_getElem? (i := 152) rfl) rfl
theorem sc_S_isCopy : (Jvm.Cond.static ({ cls := "SharerHome", name := "isCopy", desc := "(II)Z" } : Jvm.MethodName)) ∈ zB := zB_mem (List.mem_of_getElem? (i := 153) rfl) rfl
theorem co_S_isCopy : (Jvm.Cond.code ({ cls := "SharerHome", name := "isCopy", desc := "(II)Z" } : Jvm.MethodName) prog_1_method_21_code (2 : Nat) (Option.some Jvm.ClassFile.FieldType.boolean)) ∈ zB := zB_mem (List.mem_of_getElem? (i := 154) rfl) rfl
theorem ml_S_84 : (Jvm.Cond.methodLink "SharerHome" (84 : Nat) ({ cls := "SharerHome", name := "isCore", desc := "(I)Z" } : Jvm.MethodName)) ∈ zB := zB_mem (List.mem_of_getElem? (i := 155) rfl) rfl
theorem sc_S_isCore : (Jvm.Cond.static ({ cls := "SharerHome", name := "isCore", desc := "(I)Z" } : Jvm.MethodName)) ∈ zB := zB_mem (List.mem_of_getElem? (i := 156) rfl) rfl
theorem co_S_isCore : (Jvm.Cond.code ({ cls := "SharerHome", name := "isCore", desc := "(I)Z" } : Jvm.MethodName) prog_1_method_19_code (1 : Nat) (Option.some Jvm.ClassFile.FieldType.boolean)) ∈ zB := zB_mem (List.mem_of_getElem? (i := 157) rfl) rfl
theorem ml_S_75 : (Jvm.Cond.methodLink "SharerHome" (75 : Nat) ({ cls := "SharerHome", name := "isLine", desc := "(I)Z" } : Jvm.MethodName)) ∈ zB := zB_mem (List.mem_of_getElem? (i := 158) rfl) rfl
theorem sc_S_isLine : (Jvm.Cond.static ({ cls := "SharerHome", name := "isLine", desc := "(I)Z" } : Jvm.MethodName)) ∈ zB := zB_mem (List.mem_of_getElem? (i := 159) rfl) rfl
theorem co_S_isLine : (Jvm.Cond.code ({ cls := "SharerHome", name := "isLine", desc := "(I)Z" } : Jvm.MethodName) prog_1_method_20_code (1 : Nat) (Option.some Jvm.ClassFile.FieldType.boolean)) ∈ zB := zB_mem (List.mem_of_getElem? (i := 160) rfl) rfl
theorem ml_S_38 : (Jvm.Cond.methodLink "SharerHome" (38 : Nat) ({ cls := "SharerHome$Core", name := "start", desc := "(III)I" } : Jvm.MethodName)) ∈ zB := zB_mem (List.mem_of_getElem? (i := 161) rfl) rfl
theorem im_C_start : (Jvm.Cond.instanceMethod ({ cls := "SharerHome$Core", name := "start", desc := "(III)I" } : Jvm.MethodName)) ∈ zB := zB_mem (List.mem_of_getElem? (i := 162) rfl) rfl
theorem se_C_start : (Jvm.Cond.selects "SharerHome$Core" ({ cls := "SharerHome$Core", name := "start", desc := "(III)I" } : Jvm.MethodName) ({ cls := "SharerHome$Core", name := "start", desc := "(III)I" } : Jvm.MethodName)) ∈ zB := zB_mem (List.mem_of_getElem? (i := 163) rfl) rfl
theorem co_C_start : (Jvm.Cond.code ({ cls := "SharerHome$Core", name := "start", desc := "(III)I" } : Jvm.MethodName) prog_2_method_2_code (4 : Nat) (Option.some Jvm.ClassFile.FieldType.int)) ∈ zB := zB_mem (List.mem_of_getElem? (i := 164) rfl) rfl
theorem ml_C_45 : (Jvm.Cond.methodLink "SharerHome$Core" (45 : Nat) ({ cls := "SharerHome$Core", name := "isStill", desc := "(I)Z" } : Jvm.MethodName)) ∈ zB := zB_mem (List.mem_of_getElem? (i := 165) rfl) rfl
theorem im_C_isStill : (Jvm.Cond.instanceMethod ({ cls := "SharerHome$Core", name := "isStill", desc := "(I)Z" } : Jvm.MethodName)) ∈ zB := zB_mem (List.mem_of_getElem? (i := 167) rfl) rfl
theorem co_C_isStill : (Jvm.Cond.code ({ cls := "SharerHome$Core", name := "isStill", desc := "(I)Z" } : Jvm.MethodName) prog_2_method_8_code (2 : Nat) (Option.some Jvm.ClassFile.FieldType.boolean)) ∈ zB := zB_mem (List.mem_of_getElem? (i := 168) rfl) rfl
theorem ml_C_49 : (Jvm.Cond.methodLink "SharerHome$Core" (49 : Nat) ({ cls := "SharerHome$Core", name := "isEnough", desc := "(I)Z" } : Jvm.MethodName)) ∈ zB := zB_mem (List.mem_of_getElem? (i := 169) rfl) rfl
theorem im_C_isEnough : (Jvm.Cond.instanceMethod ({ cls := "SharerHome$Core", name := "isEnough", desc := "(I)Z" } : Jvm.MethodName)) ∈ zB := zB_mem (List.mem_of_getElem? (i := 171) rfl) rfl
theorem co_C_isEnough : (Jvm.Cond.code ({ cls := "SharerHome$Core", name := "isEnough", desc := "(I)Z" } : Jvm.MethodName) prog_2_method_9_code (2 : Nat) (Option.some Jvm.ClassFile.FieldType.boolean)) ∈ zB := zB_mem (List.mem_of_getElem? (i := 172) rfl) rfl
theorem ml_C_52 : (Jvm.Cond.methodLink "SharerHome$Core" (52 : Nat) ({ cls := "SharerHome$Core", name := "finish", desc := "(I)V" } : Jvm.MethodName)) ∈ zB := zB_mem (List.mem_of_getElem? (i := 173) rfl) rfl
theorem im_C_finish : (Jvm.Cond.instanceMethod ({ cls := "SharerHome$Core", name := "finish", desc := "(I)V" } : Jvm.MethodName)) ∈ zB := zB_mem (List.mem_of_getElem? (i := 175) rfl) rfl
theorem co_C_finish : (Jvm.Cond.code ({ cls := "SharerHome$Core", name := "finish", desc := "(I)V" } : Jvm.MethodName) prog_2_method_19_code (3 : Nat) (Option.none : Option Jvm.ClassFile.FieldType)) ∈ zB := zB_mem (List.mem_of_getElem? (i := 176) rfl) rfl
theorem ml_C_96 : (Jvm.Cond.methodLink "SharerHome$Core" (96 : Nat) ({ cls := "SharerHome$Core", name := "change", desc := "(II)V" } : Jvm.MethodName)) ∈ zB := zB_mem (List.mem_of_getElem? (i := 177) rfl) rfl
theorem im_C_change : (Jvm.Cond.instanceMethod ({ cls := "SharerHome$Core", name := "change", desc := "(II)V" } : Jvm.MethodName)) ∈ zB := zB_mem (List.mem_of_getElem? (i := 179) rfl) rfl
theorem co_C_change : (Jvm.Cond.code ({ cls := "SharerHome$Core", name := "change", desc := "(II)V" } : Jvm.MethodName) prog_2_method_20_code (3 : Nat) (Option.none : Option Jvm.ClassFile.FieldType)) ∈ zB := zB_mem (List.mem_of_getElem? (i := 180) rfl) rfl
theorem ml_C_56 : (Jvm.Cond.methodLink "SharerHome$Core" (56 : Nat) ({ cls := "SharerHome$Core", name := "request", desc := "(I)V" } : Jvm.MethodName)) ∈ zB := zB_mem (List.mem_of_getElem? (i := 181) rfl) rfl
theorem im_C_request : (Jvm.Cond.instanceMethod ({ cls := "SharerHome$Core", name := "request", desc := "(I)V" } : Jvm.MethodName)) ∈ zB := zB_mem (List.mem_of_getElem? (i := 183) rfl) rfl
theorem co_C_request : (Jvm.Cond.code ({ cls := "SharerHome$Core", name := "request", desc := "(I)V" } : Jvm.MethodName) prog_2_method_10_code (2 : Nat) (Option.none : Option Jvm.ClassFile.FieldType)) ∈ zB := zB_mem (List.mem_of_getElem? (i := 184) rfl) rfl
theorem ml_C_86 : (Jvm.Cond.methodLink "SharerHome$Core" (86 : Nat) ({ cls := "SharerHome$Mail", name := "send", desc := "(IIIIIII)V" } : Jvm.MethodName)) ∈ zB := zB_mem (List.mem_of_getElem? (i := 185) rfl) rfl
theorem im_A_send : (Jvm.Cond.instanceMethod ({ cls := "SharerHome$Mail", name := "send", desc := "(IIIIIII)V" } : Jvm.MethodName)) ∈ zB := zB_mem (List.mem_of_getElem? (i := 186) rfl) rfl
theorem se_A_send : (Jvm.Cond.selects "SharerHome$Mail" ({ cls := "SharerHome$Mail", name := "send", desc := "(IIIIIII)V" } : Jvm.MethodName) ({ cls := "SharerHome$Mail", name := "send", desc := "(IIIIIII)V" } : Jvm.MethodName)) ∈ zB := zB_mem (List.mem_of_getElem? (i := 187) rfl) rfl
theorem co_A_send : (Jvm.Cond.code ({ cls := "SharerHome$Mail", name := "send", desc := "(IIIIIII)V" } : Jvm.MethodName) prog_4_method_4_code (8 : Nat) (Option.none : Option Jvm.ClassFile.FieldType)) ∈ zB := zB_mem (List.mem_of_getElem? (i := 188) rfl) rfl
theorem ml_L_18 : (Jvm.Cond.methodLink "SharerHomeLaw" (18 : Nat) ({ cls := "SharerHome", name := "store", desc := "(III)I" } : Jvm.MethodName)) ∈ zB := zB_mem (List.mem_of_getElem? (i := 189) rfl) rfl
theorem im_S_store : (Jvm.Cond.instanceMethod ({ cls := "SharerHome", name := "store", desc := "(III)I" } : Jvm.MethodName)) ∈ zB := zB_mem (List.mem_of_getElem? (i := 190) rfl) rfl
theorem se_S_store : (Jvm.Cond.selects "SharerHome" ({ cls := "SharerHome", name := "store", desc := "(III)I" } : Jvm.MethodName) ({ cls := "SharerHome", name := "store", desc := "(III)I" } : Jvm.MethodName)) ∈ zB := zB_mem (List.mem_of_getElem? (i := 191) rfl) rfl
theorem co_S_store : (Jvm.Cond.code ({ cls := "SharerHome", name := "store", desc := "(III)I" } : Jvm.MethodName) prog_1_method_3_code (4 : Nat) (Option.some Jvm.ClassFile.FieldType.int)) ∈ zB := zB_mem (List.mem_of_getElem? (i := 192) rfl) rfl
theorem ml_L_23 : (Jvm.Cond.methodLink "SharerHomeLaw" (23 : Nat) ({ cls := "SharerHome", name := "add", desc := "(III)I" } : Jvm.MethodName)) ∈ zB := zB_mem (List.mem_of_getElem? (i := 193) rfl) rfl
theorem im_S_add : (Jvm.Cond.instanceMethod ({ cls := "SharerHome", name := "add", desc := "(III)I" } : Jvm.MethodName)) ∈ zB := zB_mem (List.mem_of_getElem? (i := 194) rfl) rfl
theorem se_S_add : (Jvm.Cond.selects "SharerHome" ({ cls := "SharerHome", name := "add", desc := "(III)I" } : Jvm.MethodName) ({ cls := "SharerHome", name := "add", desc := "(III)I" } : Jvm.MethodName)) ∈ zB := zB_mem (List.mem_of_getElem? (i := 195) rfl) rfl
theorem co_S_add : (Jvm.Cond.code ({ cls := "SharerHome", name := "add", desc := "(III)I" } : Jvm.MethodName) prog_1_method_4_code (4 : Nat) (Option.some Jvm.ClassFile.FieldType.int)) ∈ zB := zB_mem (List.mem_of_getElem? (i := 196) rfl) rfl
theorem ml_L_27 : (Jvm.Cond.methodLink "SharerHomeLaw" (27 : Nat) ({ cls := "SharerHome", name := "leave", desc := "(II)I" } : Jvm.MethodName)) ∈ zB := zB_mem (List.mem_of_getElem? (i := 197) rfl) rfl
theorem im_S_leave : (Jvm.Cond.instanceMethod ({ cls := "SharerHome", name := "leave", desc := "(II)I" } : Jvm.MethodName)) ∈ zB := zB_mem (List.mem_of_getElem? (i := 198) rfl) rfl
theorem se_S_leave : (Jvm.Cond.selects "SharerHome" ({ cls := "SharerHome", name := "leave", desc := "(II)I" } : Jvm.MethodName) ({ cls := "SharerHome", name := "leave", desc := "(II)I" } : Jvm.MethodName)) ∈ zB := zB_mem (List.mem_of_getElem? (i := 199) rfl) rfl
theorem co_S_leave : (Jvm.Cond.code ({ cls := "SharerHome", name := "leave", desc := "(II)I" } : Jvm.MethodName) prog_1_method_5_code (3 : Nat) (Option.some Jvm.ClassFile.FieldType.int)) ∈ zB := zB_mem (List.mem_of_getElem? (i := 200) rfl) rfl
set_option maxRecDepth 100000 in
theorem ml_S_42 : (Jvm.Cond.methodLink "SharerHome" (42 : Nat) ({ cls := "SharerHome$Core", name := "giveUp", desc := "(I)I" } : Jvm.MethodName)) ∈ zB := zB_mem (List.mem_of_getElem? (i := 201) rfl) rfl
set_option maxRecDepth 100000 in
theorem im_C_giveUp : (Jvm.Cond.instanceMethod ({ cls := "SharerHome$Core", name := "giveUp", desc := "(I)I" } : Jvm.MethodName)) ∈ zB := zB_mem (List.mem_of_getElem? (i := 202) rfl) rfl
set_option maxRecDepth 100000 in
theorem se_C_giveUp : (Jvm.Cond.selects "SharerHome$Core" ({ cls := "SharerHome$Core", name := "giveUp", desc := "(I)I" } : Jvm.MethodName) ({ cls := "SharerHome$Core", name := "giveUp", desc := "(I)I" } : Jvm.MethodName)) ∈ zB := zB_mem (List.mem_of_getElem? (i := 203) rfl) rfl
set_option maxRecDepth 100000 in
theorem co_C_giveUp : (Jvm.Cond.code ({ cls := "SharerHome$Core", name := "giveUp", desc := "(I)I" } : Jvm.MethodName) prog_2_method_3_code (2 : Nat) (Option.some Jvm.ClassFile.FieldType.int)) ∈ zB := zB_mem (List.mem_of_getElem? (i := 204) rfl) rfl
set_option maxRecDepth 100000 in
theorem ml_C_59 : (Jvm.Cond.methodLink "SharerHome$Core" (59 : Nat) ({ cls := "SharerHome$Core", name := "sendLeave", desc := "(IIII)V" } : Jvm.MethodName)) ∈ zB := zB_mem (List.mem_of_getElem? (i := 205) rfl) rfl
set_option maxRecDepth 100000 in
theorem im_C_sendLeave : (Jvm.Cond.instanceMethod ({ cls := "SharerHome$Core", name := "sendLeave", desc := "(IIII)V" } : Jvm.MethodName)) ∈ zB := zB_mem (List.mem_of_getElem? (i := 207) rfl) rfl
set_option maxRecDepth 100000 in
theorem co_C_sendLeave : (Jvm.Cond.code ({ cls := "SharerHome$Core", name := "sendLeave", desc := "(IIII)V" } : Jvm.MethodName) prog_2_method_11_code (5 : Nat) (Option.none : Option Jvm.ClassFile.FieldType)) ∈ zB := zB_mem (List.mem_of_getElem? (i := 208) rfl) rfl
set_option maxRecDepth 100000 in
theorem ml_L_31 : (Jvm.Cond.methodLink "SharerHomeLaw" (31 : Nat) ({ cls := "SharerHome", name := "deliver", desc := "(I)I" } : Jvm.MethodName)) ∈ zB := zB_mem (List.mem_of_getElem? (i := 209) rfl) rfl
set_option maxRecDepth 100000 in
theorem im_S_deliver : (Jvm.Cond.instanceMethod ({ cls := "SharerHome", name := "deliver", desc := "(I)I" } : Jvm.MethodName)) ∈ zB := zB_mem (List.mem_of_getElem? (i := 210) rfl) rfl
set_option maxRecDepth 100000 in
theorem se_S_deliver : (Jvm.Cond.selects "SharerHome" ({ cls := "SharerHome", name := "deliver", desc := "(I)I" } : Jvm.MethodName) ({ cls := "SharerHome", name := "deliver", desc := "(I)I" } : Jvm.MethodName)) ∈ zB := zB_mem (List.mem_of_getElem? (i := 211) rfl) rfl
set_option maxRecDepth 100000 in
theorem co_S_deliver : (Jvm.Cond.code ({ cls := "SharerHome", name := "deliver", desc := "(I)I" } : Jvm.MethodName) prog_1_method_6_code (3 : Nat) (Option.some Jvm.ClassFile.FieldType.int)) ∈ zB := zB_mem (List.mem_of_getElem? (i := 212) rfl) rfl
set_option maxRecDepth 100000 in
theorem ml_S_46 : (Jvm.Cond.methodLink "SharerHome" (46 : Nat) ({ cls := "SharerHome$Mail", name := "has", desc := "(I)Z" } : Jvm.MethodName)) ∈ zB := zB_mem (List.mem_of_getElem? (i := 213) rfl) rfl
set_option maxRecDepth 100000 in
theorem im_A_has : (Jvm.Cond.instanceMethod ({ cls := "SharerHome$Mail", name := "has", desc := "(I)Z" } : Jvm.MethodName)) ∈ zB := zB_mem (List.mem_of_getElem? (i := 214) rfl) rfl
set_option maxRecDepth 100000 in
theorem se_A_has : (Jvm.Cond.selects "SharerHome$Mail" ({ cls := "SharerHome$Mail", name := "has", desc := "(I)Z" } : Jvm.MethodName) ({ cls := "SharerHome$Mail", name := "has", desc := "(I)Z" } : Jvm.MethodName)) ∈ zB := zB_mem (List.mem_of_getElem? (i := 215) rfl) rfl
set_option maxRecDepth 100000 in
theorem co_A_has : (Jvm.Cond.code ({ cls := "SharerHome$Mail", name := "has", desc := "(I)Z" } : Jvm.MethodName) prog_4_method_2_code (2 : Nat) (Option.some Jvm.ClassFile.FieldType.boolean)) ∈ zB := zB_mem (List.mem_of_getElem? (i := 216) rfl) rfl
set_option maxRecDepth 100000 in
theorem ml_S_50 : (Jvm.Cond.methodLink "SharerHome" (50 : Nat) ({ cls := "SharerHome", name := "fateOf", desc := "(I)I" } : Jvm.MethodName)) ∈ zB := zB_mem (List.mem_of_getElem? (i := 217) rfl) rfl
set_option maxRecDepth 100000 in
theorem im_S_fateOf : (Jvm.Cond.instanceMethod ({ cls := "SharerHome", name := "fateOf", desc := "(I)I" } : Jvm.MethodName)) ∈ zB := zB_mem (List.mem_of_getElem? (i := 219) rfl) rfl
set_option maxRecDepth 100000 in
theorem co_S_fateOf : (Jvm.Cond.code ({ cls := "SharerHome", name := "fateOf", desc := "(I)I" } : Jvm.MethodName) prog_1_method_23_code (2 : Nat) (Option.some Jvm.ClassFile.FieldType.int)) ∈ zB := zB_mem (List.mem_of_getElem? (i := 220) rfl) rfl
set_option maxRecDepth 100000 in
theorem ml_S_105 : (Jvm.Cond.methodLink "SharerHome" (105 : Nat) ({ cls := "SharerHome$Mail", name := "keepsBack", desc := "(I)Z" } : Jvm.MethodName)) ∈ zB := zB_mem (List.mem_of_getElem? (i := 221) rfl) rfl
set_option maxRecDepth 100000 in
theorem im_A_keepsBack : (Jvm.Cond.instanceMethod ({ cls := "SharerHome$Mail", name := "keepsBack", desc := "(I)Z" } : Jvm.MethodName)) ∈ zB := zB_mem (List.mem_of_getElem? (i := 222) rfl) rfl
set_option maxRecDepth 100000 in
theorem se_A_keepsBack : (Jvm.Cond.selects "SharerHome$Mail" ({ cls := "SharerHome$Mail", name := "keepsBack", desc := "(I)Z" } : Jvm.MethodName) ({ cls := "SharerHome$Mail", name := "keepsBack", desc := "(I)Z" } : Jvm.MethodName)) ∈ zB := zB_mem (List.mem_of_getElem? (i := 223) rfl) rfl
set_option maxRecDepth 100000 in
theorem co_A_keepsBack : (Jvm.Cond.code ({ cls := "SharerHome$Mail", name := "keepsBack", desc := "(I)Z" } : Jvm.MethodName) prog_4_method_6_code (3 : Nat) (Option.some Jvm.ClassFile.FieldType.boolean)) ∈ zB := zB_mem (List.mem_of_getElem? (i := 224) rfl) rfl
set_option maxRecDepth 100000 in
theorem ml_A_23 : (Jvm.Cond.methodLink "SharerHome$Mail" (23 : Nat) ({ cls := "SharerHome$Mail", name := "isOrdered", desc := "(I)Z" } : Jvm.MethodName)) ∈ zB := zB_mem (List.mem_of_getElem? (i := 225) rfl) rfl
set_option maxRecDepth 100000 in
theorem im_A_isOrdered : (Jvm.Cond.instanceMethod ({ cls := "SharerHome$Mail", name := "isOrdered", desc := "(I)Z" } : Jvm.MethodName)) ∈ zB := zB_mem (List.mem_of_getElem? (i := 227) rfl) rfl
set_option maxRecDepth 100000 in
theorem co_A_isOrdered : (Jvm.Cond.code ({ cls := "SharerHome$Mail", name := "isOrdered", desc := "(I)Z" } : Jvm.MethodName) prog_4_method_7_code (2 : Nat) (Option.some Jvm.ClassFile.FieldType.boolean)) ∈ zB := zB_mem (List.mem_of_getElem? (i := 228) rfl) rfl
set_option maxRecDepth 100000 in
theorem ml_S_108 : (Jvm.Cond.methodLink "SharerHome" (108 : Nat) ({ cls := "SharerHome", name := "isStalled", desc := "(I)Z" } : Jvm.MethodName)) ∈ zB := zB_mem (List.mem_of_getElem? (i := 229) rfl) rfl
set_option maxRecDepth 100000 in
theorem im_S_isStalled : (Jvm.Cond.instanceMethod ({ cls := "SharerHome", name := "isStalled", desc := "(I)Z" } : Jvm.MethodName)) ∈ zB := zB_mem (List.mem_of_getElem? (i := 231) rfl) rfl
set_option maxRecDepth 100000 in
theorem co_S_isStalled : (Jvm.Cond.code ({ cls := "SharerHome", name := "isStalled", desc := "(I)Z" } : Jvm.MethodName) prog_1_method_24_code (5 : Nat) (Option.some Jvm.ClassFile.FieldType.boolean)) ∈ zB := zB_mem (List.mem_of_getElem? (i := 232) rfl) rfl
set_option maxRecDepth 100000 in
theorem ml_S_61 : (Jvm.Cond.methodLink "SharerHome" (61 : Nat) ({ cls := "SharerHome$Mail", name := "part", desc := "(II)I" } : Jvm.MethodName)) ∈ zB := zB_mem (List.mem_of_getElem? (i := 233) rfl) rfl
set_option maxRecDepth 100000 in
theorem im_A_part : (Jvm.Cond.instanceMethod ({ cls := "SharerHome$Mail", name := "part", desc := "(II)I" } : Jvm.MethodName)) ∈ zB := zB_mem (List.mem_of_getElem? (i := 234) rfl) rfl
set_option maxRecDepth 100000 in
theorem se_A_part : (Jvm.Cond.selects "SharerHome$Mail" ({ cls := "SharerHome$Mail", name := "part", desc := "(II)I" } : Jvm.MethodName) ({ cls := "SharerHome$Mail", name := "part", desc := "(II)I" } : Jvm.MethodName)) ∈ zB := zB_mem (List.mem_of_getElem? (i := 235) rfl) rfl
set_option maxRecDepth 100000 in
theorem co_A_part : (Jvm.Cond.code ({ cls := "SharerHome$Mail", name := "part", desc := "(II)I" } : Jvm.MethodName) prog_4_method_3_code (3 : Nat) (Option.some Jvm.ClassFile.FieldType.int)) ∈ zB := zB_mem (List.mem_of_getElem? (i := 236) rfl) rfl
set_option maxRecDepth 100000 in
theorem ml_S_111 : (Jvm.Cond.methodLink "SharerHome" (111 : Nat) ({ cls := "SharerHome$Home", name := "stalls", desc := "(II)Z" } : Jvm.MethodName)) ∈ zB := zB_mem (List.mem_of_getElem? (i := 237) rfl) rfl
set_option maxRecDepth 100000 in
theorem im_H_stalls : (Jvm.Cond.instanceMethod ({ cls := "SharerHome$Home", name := "stalls", desc := "(II)Z" } : Jvm.MethodName)) ∈ zB := zB_mem (List.mem_of_getElem? (i := 238) rfl) rfl
set_option maxRecDepth 100000 in
theorem se_H_stalls : (Jvm.Cond.selects "SharerHome$Home" ({ cls := "SharerHome$Home", name := "stalls", desc := "(II)Z" } : Jvm.MethodName) ({ cls := "SharerHome$Home", name := "stalls", desc := "(II)Z" } : Jvm.MethodName)) ∈ zB := zB_mem (List.mem_of_getElem? (i := 239) rfl) rfl
set_option maxRecDepth 100000 in
theorem co_H_stalls : (Jvm.Cond.code ({ cls := "SharerHome$Home", name := "stalls", desc := "(II)Z" } : Jvm.MethodName) prog_3_method_3_code (3 : Nat) (Option.some Jvm.ClassFile.FieldType.boolean)) ∈ zB := zB_mem (List.mem_of_getElem? (i := 240) rfl) rfl
set_option maxRecDepth 100000 in
theorem ml_S_114 : (Jvm.Cond.methodLink "SharerHome" (114 : Nat) ({ cls := "SharerHome$Core", name := "stalls", desc := "(II)Z" } : Jvm.MethodName)) ∈ zB := zB_mem (List.mem_of_getElem? (i := 241) rfl) rfl
set_option maxRecDepth 100000 in
theorem im_C_stalls : (Jvm.Cond.instanceMethod ({ cls := "SharerHome$Core", name := "stalls", desc := "(II)Z" } : Jvm.MethodName)) ∈ zB := zB_mem (List.mem_of_getElem? (i := 242) rfl) rfl
set_option maxRecDepth 100000 in
theorem se_C_stalls : (Jvm.Cond.selects "SharerHome$Core" ({ cls := "SharerHome$Core", name := "stalls", desc := "(II)Z" } : Jvm.MethodName) ({ cls := "SharerHome$Core", name := "stalls", desc := "(II)Z" } : Jvm.MethodName)) ∈ zB := zB_mem (List.mem_of_getElem? (i := 243) rfl) rfl
set_option maxRecDepth 100000 in
theorem co_C_stalls : (Jvm.Cond.code ({ cls := "SharerHome$Core", name := "stalls", desc := "(II)Z" } : Jvm.MethodName) prog_2_method_4_code (3 : Nat) (Option.some Jvm.ClassFile.FieldType.boolean)) ∈ zB := zB_mem (List.mem_of_getElem? (i := 244) rfl) rfl
set_option maxRecDepth 100000 in
theorem ml_S_53 : (Jvm.Cond.methodLink "SharerHome" (53 : Nat) ({ cls := "SharerHome", name := "handOver", desc := "(I)V" } : Jvm.MethodName)) ∈ zB := zB_mem (List.mem_of_getElem? (i := 245) rfl) rfl
set_option maxRecDepth 100000 in
theorem im_S_handOver : (Jvm.Cond.instanceMethod ({ cls := "SharerHome", name := "handOver", desc := "(I)V" } : Jvm.MethodName)) ∈ zB := zB_mem (List.mem_of_getElem? (i := 247) rfl) rfl
set_option maxRecDepth 100000 in
theorem co_S_handOver : (Jvm.Cond.code ({ cls := "SharerHome", name := "handOver", desc := "(I)V" } : Jvm.MethodName) prog_1_method_25_code (3 : Nat) (Option.none : Option Jvm.ClassFile.FieldType)) ∈ zB := zB_mem (List.mem_of_getElem? (i := 248) rfl) rfl
set_option maxRecDepth 100000 in
theorem ml_S_115 : (Jvm.Cond.methodLink "SharerHome" (115 : Nat) ({ cls := "SharerHome$Home", name := "take", desc := "(I)V" } : Jvm.MethodName)) ∈ zB := zB_mem (List.mem_of_getElem? (i := 249) rfl) rfl
set_option maxRecDepth 100000 in
theorem im_H_take : (Jvm.Cond.instanceMethod ({ cls := "SharerHome$Home", name := "take", desc := "(I)V" } : Jvm.MethodName)) ∈ zB := zB_mem (List.mem_of_getElem? (i := 250) rfl) rfl
set_option maxRecDepth 100000 in
theorem se_H_take : (Jvm.Cond.selects "SharerHome$Home" ({ cls := "SharerHome$Home", name := "take", desc := "(I)V" } : Jvm.MethodName) ({ cls := "SharerHome$Home", name := "take", desc := "(I)V" } : Jvm.MethodName)) ∈ zB := zB_mem (List.mem_of_getElem? (i := 251) rfl) rfl
set_option maxRecDepth 100000 in
theorem co_H_take : (Jvm.Cond.code ({ cls := "SharerHome$Home", name := "take", desc := "(I)V" } : Jvm.MethodName) prog_3_method_4_code (4 : Nat) (Option.none : Option Jvm.ClassFile.FieldType)) ∈ zB := zB_mem (List.mem_of_getElem? (i := 252) rfl) rfl
set_option maxRecDepth 100000 in
theorem ml_H_28 : (Jvm.Cond.methodLink "SharerHome$Home" (28 : Nat) ({ cls := "SharerHome$Mail", name := "part", desc := "(II)I" } : Jvm.MethodName)) ∈ zB := zB_mem (List.mem_of_getElem? (i := 253) rfl) rfl
set_option maxRecDepth 100000 in
theorem ml_H_34 : (Jvm.Cond.methodLink "SharerHome$Home" (34 : Nat) ({ cls := "SharerHome$Home", name := "takeRead", desc := "(II)V" } : Jvm.MethodName)) ∈ zB := zB_mem (List.mem_of_getElem? (i := 254) rfl) rfl
set_option maxRecDepth 100000 in
theorem im_H_takeRead : (Jvm.Cond.instanceMethod ({ cls := "SharerHome$Home", name := "takeRead", desc := "(II)V" } : Jvm.MethodName)) ∈ zB := zB_mem (List.mem_of_getElem? (i := 256) rfl) rfl
set_option maxRecDepth 100000 in
theorem co_H_takeRead : (Jvm.Cond.code ({ cls := "SharerHome$Home", name := "takeRead", desc := "(II)V" } : Jvm.MethodName) prog_3_method_5_code (3 : Nat) (Option.none : Option Jvm.ClassFile.FieldType)) ∈ zB := zB_mem (List.mem_of_getElem? (i := 257) rfl) rfl
set_option maxRecDepth 100000 in
theorem ml_H_45 : (Jvm.Cond.methodLink "SharerHome$Home" (45 : Nat) ({ cls := "SharerHome$Mail", name := "send", desc := "(IIIIIII)V" } : Jvm.MethodName)) ∈ zB := zB_mem (List.mem_of_getElem? (i := 258) rfl) rfl
set_option maxRecDepth 100000 in
theorem ml_H_49 : (Jvm.Cond.methodLink "SharerHome$Home" (49 : Nat) ({ cls := "SharerHome$Home", name := "makeOwner", desc := "(II)V" } : Jvm.MethodName)) ∈ zB := zB_mem (List.mem_of_getElem? (i := 259) rfl) rfl
set_option maxRecDepth 100000 in
theorem im_H_makeOwner : (Jvm.Cond.instanceMethod ({ cls := "SharerHome$Home", name := "makeOwner", desc := "(II)V" } : Jvm.MethodName)) ∈ zB := zB_mem (List.mem_of_getElem? (i := 261) rfl) rfl
set_option maxRecDepth 100000 in
theorem co_H_makeOwner : (Jvm.Cond.code ({ cls := "SharerHome$Home", name := "makeOwner", desc := "(II)V" } : Jvm.MethodName) prog_3_method_10_code (3 : Nat) (Option.none : Option Jvm.ClassFile.FieldType)) ∈ zB := zB_mem (List.mem_of_getElem? (i := 262) rfl) rfl
set_option maxRecDepth 100000 in
theorem ml_H_52 : (Jvm.Cond.methodLink "SharerHome$Home" (52 : Nat) ({ cls := "SharerHome$Home", name := "bit", desc := "(I)I" } : Jvm.MethodName)) ∈ zB := zB_mem (List.mem_of_getElem? (i := 263) rfl) rfl
set_option maxRecDepth 100000 in
theorem sc_H_bit : (Jvm.Cond.static ({ cls := "SharerHome$Home", name := "bit", desc := "(I)I" } : Jvm.MethodName)) ∈ zB := zB_mem (List.mem_of_getElem? (i := 264) rfl) rfl
set_option maxRecDepth 100000 in
theorem co_H_bit : (Jvm.Cond.code ({ cls := "SharerHome$Home", name := "bit", desc := "(I)I" } : Jvm.MethodName) prog_3_method_11_code (1 : Nat) (Option.some Jvm.ClassFile.FieldType.int)) ∈ zB := zB_mem (List.mem_of_getElem? (i := 265) rfl) rfl
set_option maxRecDepth 100000 in
theorem ml_H_38 : (Jvm.Cond.methodLink "SharerHome$Home" (38 : Nat) ({ cls := "SharerHome$Home", name := "takeWrite", desc := "(II)V" } : Jvm.MethodName)) ∈ zB := zB_mem (List.mem_of_getElem? (i := 266) rfl) rfl
set_option maxRecDepth 100000 in
theorem im_H_takeWrite : (Jvm.Cond.instanceMethod ({ cls := "SharerHome$Home", name := "takeWrite", desc := "(II)V" } : Jvm.MethodName)) ∈ zB := zB_mem (List.mem_of_getElem? (i := 268) rfl) rfl
set_option maxRecDepth 100000 in
theorem co_H_takeWrite : (Jvm.Cond.code ({ cls := "SharerHome$Home", name := "takeWrite", desc := "(II)V" } : Jvm.MethodName) prog_3_method_6_code (3 : Nat) (Option.none : Option Jvm.ClassFile.FieldType)) ∈ zB := zB_mem (List.mem_of_getElem? (i := 269) rfl) rfl
set_option maxRecDepth 100000 in
theorem ml_H_56 : (Jvm.Cond.methodLink "SharerHome$Home" (56 : Nat) ({ cls := "SharerHome$Home", name := "dropOthers", desc := "(II)V" } : Jvm.MethodName)) ∈ zB := zB_mem (List.mem_of_getElem? (i := 270) rfl) rfl
set_option maxRecDepth 100000 in
theorem im_H_dropOthers : (Jvm.Cond.instanceMethod ({ cls := "SharerHome$Home", name := "dropOthers", desc := "(II)V" } : Jvm.MethodName)) ∈ zB := zB_mem (List.mem_of_getElem? (i := 272) rfl) rfl
set_option maxRecDepth 100000 in
theorem co_H_dropOthers : (Jvm.Cond.code ({ cls := "SharerHome$Home", name := "dropOthers", desc := "(II)V" } : Jvm.MethodName) prog_3_method_7_code (5 : Nat) (Option.none : Option Jvm.ClassFile.FieldType)) ∈ zB := zB_mem (List.mem_of_getElem? (i := 273) rfl) rfl
set_option maxRecDepth 100000 in
theorem ml_H_59 : (Jvm.Cond.methodLink "SharerHome$Home" (59 : Nat) ({ cls := "java/lang/Integer", name := "bitCount", desc := "(I)I" } : Jvm.MethodName)) ∈ zB := zB_mem (List.mem_of_getElem? (i := 274) rfl) rfl
set_option maxRecDepth 100000 in
theorem sc_J_bitCount : (Jvm.Cond.static ({ cls := "java/lang/Integer", name := "bitCount", desc := "(I)I" } : Jvm.MethodName)) ∈ zB := zB_mem (List.mem_of_getElem? (i := 275) rfl) rfl
set_option maxRecDepth 100000 in
theorem co_J_bitCount : (Jvm.Cond.code ({ cls := "java/lang/Integer", name := "bitCount", desc := "(I)I" } : Jvm.MethodName) prog_7_method_49_code (1 : Nat) (Option.some Jvm.ClassFile.FieldType.int)) ∈ zB := zB_mem (List.mem_of_getElem? (i := 276) rfl) rfl
set_option maxRecDepth 100000 in
theorem ki_J_265 : (Jvm.Cond.constant "java/lang/Integer" (265 : Nat) (1431655765 : Int32)) ∈ zB := zB_mem (List.mem_of_getElem? (i := 277) rfl) rfl
set_option maxRecDepth 100000 in
theorem ki_J_266 : (Jvm.Cond.constant "java/lang/Integer" (266 : Nat) (858993459 : Int32)) ∈ zB := zB_mem (List.mem_of_getElem? (i := 278) rfl) rfl
set_option maxRecDepth 100000 in
theorem ki_J_267 : (Jvm.Cond.constant "java/lang/Integer" (267 : Nat) (252645135 : Int32)) ∈ zB := zB_mem (List.mem_of_getElem? (i := 279) rfl) rfl
set_option maxRecDepth 100000 in
theorem ml_H_41 : (Jvm.Cond.methodLink "SharerHome$Home" (41 : Nat) ({ cls := "SharerHome$Home", name := "takeLeave", desc := "(III)V" } : Jvm.MethodName)) ∈ zB := zB_mem (List.mem_of_getElem? (i := 280) rfl) rfl
set_option maxRecDepth 100000 in
theorem im_H_takeLeave : (Jvm.Cond.instanceMethod ({ cls := "SharerHome$Home", name := "takeLeave", desc := "(III)V" } : Jvm.MethodName)) ∈ zB := zB_mem (List.mem_of_getElem? (i := 282) rfl) rfl
set_option maxRecDepth 100000 in
theorem co_H_takeLeave : (Jvm.Cond.code ({ cls := "SharerHome$Home", name := "takeLeave", desc := "(III)V" } : Jvm.MethodName) prog_3_method_8_code (4 : Nat) (Option.none : Option Jvm.ClassFile.FieldType)) ∈ zB := zB_mem (List.mem_of_getElem? (i := 283) rfl) rfl
set_option maxRecDepth 100000 in
theorem ml_H_64 : (Jvm.Cond.methodLink "SharerHome$Home" (64 : Nat) ({ cls := "SharerHome$Home", name := "forgetSharer", desc := "(II)V" } : Jvm.MethodName)) ∈ zB := zB_mem (List.mem_of_getElem? (i := 284) rfl) rfl
set_option maxRecDepth 100000 in
theorem im_H_forgetSharer : (Jvm.Cond.instanceMethod ({ cls := "SharerHome$Home", name := "forgetSharer", desc := "(II)V" } : Jvm.MethodName)) ∈ zB := zB_mem (List.mem_of_getElem? (i := 286) rfl) rfl
set_option maxRecDepth 100000 in
theorem co_H_forgetSharer : (Jvm.Cond.code ({ cls := "SharerHome$Home", name := "forgetSharer", desc := "(II)V" } : Jvm.MethodName) prog_3_method_9_code (3 : Nat) (Option.none : Option Jvm.ClassFile.FieldType)) ∈ zB := zB_mem (List.mem_of_getElem? (i := 287) rfl) rfl
set_option maxRecDepth 100000 in
theorem ml_S_118 : (Jvm.Cond.methodLink "SharerHome" (118 : Nat) ({ cls := "SharerHome$Core", name := "take", desc := "(I)V" } : Jvm.MethodName)) ∈ zB := zB_mem (List.mem_of_getElem? (i := 288) rfl) rfl
set_option maxRecDepth 100000 in
theorem im_C_take : (Jvm.Cond.instanceMethod ({ cls := "SharerHome$Core", name := "take", desc := "(I)V" } : Jvm.MethodName)) ∈ zB := zB_mem (List.mem_of_getElem? (i := 289) rfl) rfl
set_option maxRecDepth 100000 in
theorem se_C_take : (Jvm.Cond.selects "SharerHome$Core" ({ cls := "SharerHome$Core", name := "take", desc := "(I)V" } : Jvm.MethodName) ({ cls := "SharerHome$Core", name := "take", desc := "(I)V" } : Jvm.MethodName)) ∈ zB := zB_mem (List.mem_of_getElem? (i := 290) rfl) rfl
set_option maxRecDepth 100000 in
theorem co_C_take : (Jvm.Cond.code ({ cls := "SharerHome$Core", name := "take", desc := "(I)V" } : Jvm.MethodName) prog_2_method_5_code (4 : Nat) (Option.none : Option Jvm.ClassFile.FieldType)) ∈ zB := zB_mem (List.mem_of_getElem? (i := 291) rfl) rfl
set_option maxRecDepth 100000 in
theorem ml_C_63 : (Jvm.Cond.methodLink "SharerHome$Core" (63 : Nat) ({ cls := "SharerHome$Mail", name := "part", desc := "(II)I" } : Jvm.MethodName)) ∈ zB := zB_mem (List.mem_of_getElem? (i := 292) rfl) rfl
set_option maxRecDepth 100000 in
theorem ml_C_69 : (Jvm.Cond.methodLink "SharerHome$Core" (69 : Nat) ({ cls := "SharerHome$Core", name := "shareWith", desc := "(II)V" } : Jvm.MethodName)) ∈ zB := zB_mem (List.mem_of_getElem? (i := 293) rfl) rfl
set_option maxRecDepth 100000 in
theorem im_C_shareWith : (Jvm.Cond.instanceMethod ({ cls := "SharerHome$Core", name := "shareWith", desc := "(II)V" } : Jvm.MethodName)) ∈ zB := zB_mem (List.mem_of_getElem? (i := 295) rfl) rfl
set_option maxRecDepth 100000 in
theorem co_C_shareWith : (Jvm.Cond.code ({ cls := "SharerHome$Core", name := "shareWith", desc := "(II)V" } : Jvm.MethodName) prog_2_method_12_code (4 : Nat) (Option.none : Option Jvm.ClassFile.FieldType)) ∈ zB := zB_mem (List.mem_of_getElem? (i := 296) rfl) rfl
set_option maxRecDepth 100000 in
theorem ml_C_90 : (Jvm.Cond.methodLink "SharerHome$Core" (90 : Nat) ({ cls := "SharerHome$Core", name := "isLeavingAlone", desc := "(I)Z" } : Jvm.MethodName)) ∈ zB := zB_mem (List.mem_of_getElem? (i := 297) rfl) rfl
set_option maxRecDepth 100000 in
theorem im_C_isLeavingAlone : (Jvm.Cond.instanceMethod ({ cls := "SharerHome$Core", name := "isLeavingAlone", desc := "(I)Z" } : Jvm.MethodName)) ∈ zB := zB_mem (List.mem_of_getElem? (i := 299) rfl) rfl
set_option maxRecDepth 100000 in
theorem co_C_isLeavingAlone : (Jvm.Cond.code ({ cls := "SharerHome$Core", name := "isLeavingAlone", desc := "(I)Z" } : Jvm.MethodName) prog_2_method_14_code (2 : Nat) (Option.some Jvm.ClassFile.FieldType.boolean)) ∈ zB := zB_mem (List.mem_of_getElem? (i := 300) rfl) rfl
set_option maxRecDepth 100000 in
theorem ml_C_73 : (Jvm.Cond.methodLink "SharerHome$Core" (73 : Nat) ({ cls := "SharerHome$Core", name := "yieldTo", desc := "(II)V" } : Jvm.MethodName)) ∈ zB := zB_mem (List.mem_of_getElem? (i := 301) rfl) rfl
set_option maxRecDepth 100000 in
theorem im_C_yieldTo : (Jvm.Cond.instanceMethod ({ cls := "SharerHome$Core", name := "yieldTo", desc := "(II)V" } : Jvm.MethodName)) ∈ zB := zB_mem (List.mem_of_getElem? (i := 303) rfl) rfl
set_option maxRecDepth 100000 in
theorem co_C_yieldTo : (Jvm.Cond.code ({ cls := "SharerHome$Core", name := "yieldTo", desc := "(II)V" } : Jvm.MethodName) prog_2_method_13_code (4 : Nat) (Option.none : Option Jvm.ClassFile.FieldType)) ∈ zB := zB_mem (List.mem_of_getElem? (i := 304) rfl) rfl
set_option maxRecDepth 100000 in
theorem ml_C_76 : (Jvm.Cond.methodLink "SharerHome$Core" (76 : Nat) ({ cls := "SharerHome$Core", name := "dropFor", desc := "(II)V" } : Jvm.MethodName)) ∈ zB := zB_mem (List.mem_of_getElem? (i := 305) rfl) rfl
set_option maxRecDepth 100000 in
theorem im_C_dropFor : (Jvm.Cond.instanceMethod ({ cls := "SharerHome$Core", name := "dropFor", desc := "(II)V" } : Jvm.MethodName)) ∈ zB := zB_mem (List.mem_of_getElem? (i := 307) rfl) rfl
set_option maxRecDepth 100000 in
theorem co_C_dropFor : (Jvm.Cond.code ({ cls := "SharerHome$Core", name := "dropFor", desc := "(II)V" } : Jvm.MethodName) prog_2_method_15_code (3 : Nat) (Option.none : Option Jvm.ClassFile.FieldType)) ∈ zB := zB_mem (List.mem_of_getElem? (i := 308) rfl) rfl
set_option maxRecDepth 100000 in
theorem ml_C_79 : (Jvm.Cond.methodLink "SharerHome$Core" (79 : Nat) ({ cls := "SharerHome$Core", name := "takeData", desc := "(III)V" } : Jvm.MethodName)) ∈ zB := zB_mem (List.mem_of_getElem? (i := 309) rfl) rfl
set_option maxRecDepth 100000 in
theorem im_C_takeData : (Jvm.Cond.instanceMethod ({ cls := "SharerHome$Core", name := "takeData", desc := "(III)V" } : Jvm.MethodName)) ∈ zB := zB_mem (List.mem_of_getElem? (i := 311) rfl) rfl
set_option maxRecDepth 100000 in
theorem co_C_takeData : (Jvm.Cond.code ({ cls := "SharerHome$Core", name := "takeData", desc := "(III)V" } : Jvm.MethodName) prog_2_method_16_code (4 : Nat) (Option.none : Option Jvm.ClassFile.FieldType)) ∈ zB := zB_mem (List.mem_of_getElem? (i := 312) rfl) rfl
set_option maxRecDepth 100000 in
theorem ml_C_93 : (Jvm.Cond.methodLink "SharerHome$Core" (93 : Nat) ({ cls := "SharerHome$Core", name := "ownIfNothingOwed", desc := "(I)V" } : Jvm.MethodName)) ∈ zB := zB_mem (List.mem_of_getElem? (i := 313) rfl) rfl
set_option maxRecDepth 100000 in
theorem im_C_ownIfNothingOwed : (Jvm.Cond.instanceMethod ({ cls := "SharerHome$Core", name := "ownIfNothingOwed", desc := "(I)V" } : Jvm.MethodName)) ∈ zB := zB_mem (List.mem_of_getElem? (i := 315) rfl) rfl
set_option maxRecDepth 100000 in
theorem co_C_ownIfNothingOwed : (Jvm.Cond.code ({ cls := "SharerHome$Core", name := "ownIfNothingOwed", desc := "(I)V" } : Jvm.MethodName) prog_2_method_18_code (2 : Nat) (Option.none : Option Jvm.ClassFile.FieldType)) ∈ zB := zB_mem (List.mem_of_getElem? (i := 316) rfl) rfl
set_option maxRecDepth 100000 in
theorem ml_C_83 : (Jvm.Cond.methodLink "SharerHome$Core" (83 : Nat) ({ cls := "SharerHome$Core", name := "takeDropped", desc := "(I)V" } : Jvm.MethodName)) ∈ zB := zB_mem (List.mem_of_getElem? (i := 317) rfl) rfl
set_option maxRecDepth 100000 in
theorem im_C_takeDropped : (Jvm.Cond.instanceMethod ({ cls := "SharerHome$Core", name := "takeDropped", desc := "(I)V" } : Jvm.MethodName)) ∈ zB := zB_mem (List.mem_of_getElem? (i := 319) rfl) rfl
set_option maxRecDepth 100000 in
theorem co_C_takeDropped : (Jvm.Cond.code ({ cls := "SharerHome$Core", name := "takeDropped", desc := "(I)V" } : Jvm.MethodName) prog_2_method_17_code (2 : Nat) (Option.none : Option Jvm.ClassFile.FieldType)) ∈ zB := zB_mem (List.mem_of_getElem? (i := 320) rfl) rfl
set_option maxRecDepth 100000 in
theorem ml_S_119 : (Jvm.Cond.methodLink "SharerHome" (119 : Nat) ({ cls := "SharerHome$Mail", name := "remove", desc := "(I)V" } : Jvm.MethodName)) ∈ zB := zB_mem (List.mem_of_getElem? (i := 321) rfl) rfl
set_option maxRecDepth 100000 in
theorem im_A_remove : (Jvm.Cond.instanceMethod ({ cls := "SharerHome$Mail", name := "remove", desc := "(I)V" } : Jvm.MethodName)) ∈ zB := zB_mem (List.mem_of_getElem? (i := 322) rfl) rfl
set_option maxRecDepth 100000 in
theorem se_A_remove : (Jvm.Cond.selects "SharerHome$Mail" ({ cls := "SharerHome$Mail", name := "remove", desc := "(I)V" } : Jvm.MethodName) ({ cls := "SharerHome$Mail", name := "remove", desc := "(I)V" } : Jvm.MethodName)) ∈ zB := zB_mem (List.mem_of_getElem? (i := 323) rfl) rfl
set_option maxRecDepth 100000 in
theorem co_A_remove : (Jvm.Cond.code ({ cls := "SharerHome$Mail", name := "remove", desc := "(I)V" } : Jvm.MethodName) prog_4_method_5_code (4 : Nat) (Option.none : Option Jvm.ClassFile.FieldType)) ∈ zB := zB_mem (List.mem_of_getElem? (i := 324) rfl) rfl
set_option maxRecDepth 100000 in
theorem ml_L_36 : (Jvm.Cond.methodLink "SharerHomeLaw" (36 : Nat) ({ cls := "SharerHome", name := "message", desc := "(II)I" } : Jvm.MethodName)) ∈ zB := zB_mem (List.mem_of_getElem? (i := 325) rfl) rfl
set_option maxRecDepth 100000 in
theorem im_S_message : (Jvm.Cond.instanceMethod ({ cls := "SharerHome", name := "message", desc := "(II)I" } : Jvm.MethodName)) ∈ zB := zB_mem (List.mem_of_getElem? (i := 326) rfl) rfl
set_option maxRecDepth 100000 in
theorem se_S_message : (Jvm.Cond.selects "SharerHome" ({ cls := "SharerHome", name := "message", desc := "(II)I" } : Jvm.MethodName) ({ cls := "SharerHome", name := "message", desc := "(II)I" } : Jvm.MethodName)) ∈ zB := zB_mem (List.mem_of_getElem? (i := 327) rfl) rfl
set_option maxRecDepth 100000 in
theorem co_S_message : (Jvm.Cond.code ({ cls := "SharerHome", name := "message", desc := "(II)I" } : Jvm.MethodName) prog_1_method_7_code (3 : Nat) (Option.some Jvm.ClassFile.FieldType.int)) ∈ zB := zB_mem (List.mem_of_getElem? (i := 328) rfl) rfl
set_option maxRecDepth 100000 in
theorem ml_L_40 : (Jvm.Cond.methodLink "SharerHomeLaw" (40 : Nat) ({ cls := "SharerHome", name := "carried", desc := "(I)I" } : Jvm.MethodName)) ∈ zB := zB_mem (List.mem_of_getElem? (i := 329) rfl) rfl
set_option maxRecDepth 100000 in
theorem im_S_carried : (Jvm.Cond.instanceMethod ({ cls := "SharerHome", name := "carried", desc := "(I)I" } : Jvm.MethodName)) ∈ zB := zB_mem (List.mem_of_getElem? (i := 330) rfl) rfl
set_option maxRecDepth 100000 in
theorem se_S_carried : (Jvm.Cond.selects "SharerHome" ({ cls := "SharerHome", name := "carried", desc := "(I)I" } : Jvm.MethodName) ({ cls := "SharerHome", name := "carried", desc := "(I)I" } : Jvm.MethodName)) ∈ zB := zB_mem (List.mem_of_getElem? (i := 331) rfl) rfl
set_option maxRecDepth 100000 in
theorem co_S_carried : (Jvm.Cond.code ({ cls := "SharerHome", name := "carried", desc := "(I)I" } : Jvm.MethodName) prog_1_method_8_code (2 : Nat) (Option.some Jvm.ClassFile.FieldType.int)) ∈ zB := zB_mem (List.mem_of_getElem? (i := 332) rfl) rfl
set_option maxRecDepth 100000 in
theorem ml_L_44 : (Jvm.Cond.methodLink "SharerHomeLaw" (44 : Nat) ({ cls := "SharerHome", name := "state", desc := "(II)I" } : Jvm.MethodName)) ∈ zB := zB_mem (List.mem_of_getElem? (i := 333) rfl) rfl
set_option maxRecDepth 100000 in
theorem im_S_state : (Jvm.Cond.instanceMethod ({ cls := "SharerHome", name := "state", desc := "(II)I" } : Jvm.MethodName)) ∈ zB := zB_mem (List.mem_of_getElem? (i := 334) rfl) rfl
set_option maxRecDepth 100000 in
theorem se_S_state : (Jvm.Cond.selects "SharerHome" ({ cls := "SharerHome", name := "state", desc := "(II)I" } : Jvm.MethodName) ({ cls := "SharerHome", name := "state", desc := "(II)I" } : Jvm.MethodName)) ∈ zB := zB_mem (List.mem_of_getElem? (i := 335) rfl) rfl
set_option maxRecDepth 100000 in
theorem co_S_state : (Jvm.Cond.code ({ cls := "SharerHome", name := "state", desc := "(II)I" } : Jvm.MethodName) prog_1_method_9_code (3 : Nat) (Option.some Jvm.ClassFile.FieldType.int)) ∈ zB := zB_mem (List.mem_of_getElem? (i := 336) rfl) rfl
set_option maxRecDepth 100000 in
theorem ml_L_48 : (Jvm.Cond.methodLink "SharerHomeLaw" (48 : Nat) ({ cls := "SharerHome", name := "value", desc := "(II)I" } : Jvm.MethodName)) ∈ zB := zB_mem (List.mem_of_getElem? (i := 337) rfl) rfl
set_option maxRecDepth 100000 in
theorem im_S_value : (Jvm.Cond.instanceMethod ({ cls := "SharerHome", name := "value", desc := "(II)I" } : Jvm.MethodName)) ∈ zB := zB_mem (List.mem_of_getElem? (i := 338) rfl) rfl
set_option maxRecDepth 100000 in
theorem se_S_value : (Jvm.Cond.selects "SharerHome" ({ cls := "SharerHome", name := "value", desc := "(II)I" } : Jvm.MethodName) ({ cls := "SharerHome", name := "value", desc := "(II)I" } : Jvm.MethodName)) ∈ zB := zB_mem (List.mem_of_getElem? (i := 339) rfl) rfl
set_option maxRecDepth 100000 in
theorem co_S_value : (Jvm.Cond.code ({ cls := "SharerHome", name := "value", desc := "(II)I" } : Jvm.MethodName) prog_1_method_10_code (3 : Nat) (Option.some Jvm.ClassFile.FieldType.int)) ∈ zB := zB_mem (List.mem_of_getElem? (i := 340) rfl) rfl
set_option maxRecDepth 100000 in
theorem ml_S_69 : (Jvm.Cond.methodLink "SharerHome" (69 : Nat) ({ cls := "SharerHome$Core", name := "shownValue", desc := "(I)I" } : Jvm.MethodName)) ∈ zB := zB_mem (List.mem_of_getElem? (i := 341) rfl) rfl
set_option maxRecDepth 100000 in
theorem im_C_shownValue : (Jvm.Cond.instanceMethod ({ cls := "SharerHome$Core", name := "shownValue", desc := "(I)I" } : Jvm.MethodName)) ∈ zB := zB_mem (List.mem_of_getElem? (i := 342) rfl) rfl
set_option maxRecDepth 100000 in
theorem se_C_shownValue : (Jvm.Cond.selects "SharerHome$Core" ({ cls := "SharerHome$Core", name := "shownValue", desc := "(I)I" } : Jvm.MethodName) ({ cls := "SharerHome$Core", name := "shownValue", desc := "(I)I" } : Jvm.MethodName)) ∈ zB := zB_mem (List.mem_of_getElem? (i := 343) rfl) rfl
set_option maxRecDepth 100000 in
theorem co_C_shownValue : (Jvm.Cond.code ({ cls := "SharerHome$Core", name := "shownValue", desc := "(I)I" } : Jvm.MethodName) prog_2_method_6_code (2 : Nat) (Option.some Jvm.ClassFile.FieldType.int)) ∈ zB := zB_mem (List.mem_of_getElem? (i := 344) rfl) rfl
set_option maxRecDepth 100000 in
theorem ml_L_52 : (Jvm.Cond.methodLink "SharerHomeLaw" (52 : Nat) ({ cls := "SharerHome", name := "due", desc := "(II)I" } : Jvm.MethodName)) ∈ zB := zB_mem (List.mem_of_getElem? (i := 345) rfl) rfl
set_option maxRecDepth 100000 in
theorem im_S_due : (Jvm.Cond.instanceMethod ({ cls := "SharerHome", name := "due", desc := "(II)I" } : Jvm.MethodName)) ∈ zB := zB_mem (List.mem_of_getElem? (i := 346) rfl) rfl
set_option maxRecDepth 100000 in
theorem se_S_due : (Jvm.Cond.selects "SharerHome" ({ cls := "SharerHome", name := "due", desc := "(II)I" } : Jvm.MethodName) ({ cls := "SharerHome", name := "due", desc := "(II)I" } : Jvm.MethodName)) ∈ zB := zB_mem (List.mem_of_getElem? (i := 347) rfl) rfl
set_option maxRecDepth 100000 in
theorem co_S_due : (Jvm.Cond.code ({ cls := "SharerHome", name := "due", desc := "(II)I" } : Jvm.MethodName) prog_1_method_11_code (3 : Nat) (Option.some Jvm.ClassFile.FieldType.int)) ∈ zB := zB_mem (List.mem_of_getElem? (i := 348) rfl) rfl
set_option maxRecDepth 100000 in
theorem ml_S_72 : (Jvm.Cond.methodLink "SharerHome" (72 : Nat) ({ cls := "SharerHome$Core", name := "shownOwed", desc := "(I)I" } : Jvm.MethodName)) ∈ zB := zB_mem (List.mem_of_getElem? (i := 349) rfl) rfl
set_option maxRecDepth 100000 in
theorem im_C_shownOwed : (Jvm.Cond.instanceMethod ({ cls := "SharerHome$Core", name := "shownOwed", desc := "(I)I" } : Jvm.MethodName)) ∈ zB := zB_mem (List.mem_of_getElem? (i := 350) rfl) rfl
set_option maxRecDepth 100000 in
theorem se_C_shownOwed : (Jvm.Cond.selects "SharerHome$Core" ({ cls := "SharerHome$Core", name := "shownOwed", desc := "(I)I" } : Jvm.MethodName) ({ cls := "SharerHome$Core", name := "shownOwed", desc := "(I)I" } : Jvm.MethodName)) ∈ zB := zB_mem (List.mem_of_getElem? (i := 351) rfl) rfl
set_option maxRecDepth 100000 in
theorem co_C_shownOwed : (Jvm.Cond.code ({ cls := "SharerHome$Core", name := "shownOwed", desc := "(I)I" } : Jvm.MethodName) prog_2_method_7_code (2 : Nat) (Option.some Jvm.ClassFile.FieldType.int)) ∈ zB := zB_mem (List.mem_of_getElem? (i := 352) rfl) rfl
set_option maxRecDepth 100000 in
theorem ml_L_56 : (Jvm.Cond.methodLink "SharerHomeLaw" (56 : Nat) ({ cls := "SharerHome", name := "home", desc := "(I)I" } : Jvm.MethodName)) ∈ zB := zB_mem (List.mem_of_getElem? (i := 353) rfl) rfl
set_option maxRecDepth 100000 in
theorem im_S_home : (Jvm.Cond.instanceMethod ({ cls := "SharerHome", name := "home", desc := "(I)I" } : Jvm.MethodName)) ∈ zB := zB_mem (List.mem_of_getElem? (i := 354) rfl) rfl
set_option maxRecDepth 100000 in
theorem se_S_home : (Jvm.Cond.selects "SharerHome" ({ cls := "SharerHome", name := "home", desc := "(I)I" } : Jvm.MethodName) ({ cls := "SharerHome", name := "home", desc := "(I)I" } : Jvm.MethodName)) ∈ zB := zB_mem (List.mem_of_getElem? (i := 355) rfl) rfl
set_option maxRecDepth 100000 in
theorem co_S_home : (Jvm.Cond.code ({ cls := "SharerHome", name := "home", desc := "(I)I" } : Jvm.MethodName) prog_1_method_12_code (2 : Nat) (Option.some Jvm.ClassFile.FieldType.int)) ∈ zB := zB_mem (List.mem_of_getElem? (i := 356) rfl) rfl
set_option maxRecDepth 100000 in
theorem ml_S_78 : (Jvm.Cond.methodLink "SharerHome" (78 : Nat) ({ cls := "SharerHome$Home", name := "summary", desc := "(I)I" } : Jvm.MethodName)) ∈ zB := zB_mem (List.mem_of_getElem? (i := 357) rfl) rfl
set_option maxRecDepth 100000 in
theorem im_H_summary : (Jvm.Cond.instanceMethod ({ cls := "SharerHome$Home", name := "summary", desc := "(I)I" } : Jvm.MethodName)) ∈ zB := zB_mem (List.mem_of_getElem? (i := 358) rfl) rfl
set_option maxRecDepth 100000 in
theorem se_H_summary : (Jvm.Cond.selects "SharerHome$Home" ({ cls := "SharerHome$Home", name := "summary", desc := "(I)I" } : Jvm.MethodName) ({ cls := "SharerHome$Home", name := "summary", desc := "(I)I" } : Jvm.MethodName)) ∈ zB := zB_mem (List.mem_of_getElem? (i := 359) rfl) rfl
set_option maxRecDepth 100000 in
theorem co_H_summary : (Jvm.Cond.code ({ cls := "SharerHome$Home", name := "summary", desc := "(I)I" } : Jvm.MethodName) prog_3_method_2_code (3 : Nat) (Option.some Jvm.ClassFile.FieldType.int)) ∈ zB := zB_mem (List.mem_of_getElem? (i := 360) rfl) rfl
set_option maxRecDepth 100000 in
theorem ml_L_60 : (Jvm.Cond.methodLink "SharerHomeLaw" (60 : Nat) ({ cls := "SharerHome", name := "memory", desc := "(I)I" } : Jvm.MethodName)) ∈ zB := zB_mem (List.mem_of_getElem? (i := 361) rfl) rfl
set_option maxRecDepth 100000 in
theorem im_S_memory : (Jvm.Cond.instanceMethod ({ cls := "SharerHome", name := "memory", desc := "(I)I" } : Jvm.MethodName)) ∈ zB := zB_mem (List.mem_of_getElem? (i := 362) rfl) rfl
set_option maxRecDepth 100000 in
theorem se_S_memory : (Jvm.Cond.selects "SharerHome" ({ cls := "SharerHome", name := "memory", desc := "(I)I" } : Jvm.MethodName) ({ cls := "SharerHome", name := "memory", desc := "(I)I" } : Jvm.MethodName)) ∈ zB := zB_mem (List.mem_of_getElem? (i := 363) rfl) rfl
set_option maxRecDepth 100000 in
theorem co_S_memory : (Jvm.Cond.code ({ cls := "SharerHome", name := "memory", desc := "(I)I" } : Jvm.MethodName) prog_1_method_13_code (2 : Nat) (Option.some Jvm.ClassFile.FieldType.int)) ∈ zB := zB_mem (List.mem_of_getElem? (i := 364) rfl) rfl
set_option maxRecDepth 100000 in
theorem ml_L_64 : (Jvm.Cond.methodLink "SharerHomeLaw" (64 : Nat) ({ cls := "SharerHome", name := "waits", desc := "(I)Z" } : Jvm.MethodName)) ∈ zB := zB_mem (List.mem_of_getElem? (i := 365) rfl) rfl
set_option maxRecDepth 100000 in
theorem im_S_waits : (Jvm.Cond.instanceMethod ({ cls := "SharerHome", name := "waits", desc := "(I)Z" } : Jvm.MethodName)) ∈ zB := zB_mem (List.mem_of_getElem? (i := 366) rfl) rfl
set_option maxRecDepth 100000 in
theorem se_S_waits : (Jvm.Cond.selects "SharerHome" ({ cls := "SharerHome", name := "waits", desc := "(I)Z" } : Jvm.MethodName) ({ cls := "SharerHome", name := "waits", desc := "(I)Z" } : Jvm.MethodName)) ∈ zB := zB_mem (List.mem_of_getElem? (i := 367) rfl) rfl
set_option maxRecDepth 100000 in
theorem co_S_waits : (Jvm.Cond.code ({ cls := "SharerHome", name := "waits", desc := "(I)Z" } : Jvm.MethodName) prog_1_method_14_code (2 : Nat) (Option.some Jvm.ClassFile.FieldType.boolean)) ∈ zB := zB_mem (List.mem_of_getElem? (i := 368) rfl) rfl
set_option maxRecDepth 100000 in
theorem ml_L_69 : (Jvm.Cond.methodLink "SharerHomeLaw" (69 : Nat) ({ cls := "SharerHome", name := "done", desc := "(I)I" } : Jvm.MethodName)) ∈ zB := zB_mem (List.mem_of_getElem? (i := 369) rfl) rfl
set_option maxRecDepth 100000 in
theorem im_S_done : (Jvm.Cond.instanceMethod ({ cls := "SharerHome", name := "done", desc := "(I)I" } : Jvm.MethodName)) ∈ zB := zB_mem (List.mem_of_getElem? (i := 370) rfl) rfl
set_option maxRecDepth 100000 in
theorem se_S_done : (Jvm.Cond.selects "SharerHome" ({ cls := "SharerHome", name := "done", desc := "(I)I" } : Jvm.MethodName) ({ cls := "SharerHome", name := "done", desc := "(I)I" } : Jvm.MethodName)) ∈ zB := zB_mem (List.mem_of_getElem? (i := 371) rfl) rfl
set_option maxRecDepth 100000 in
theorem co_S_done : (Jvm.Cond.code ({ cls := "SharerHome", name := "done", desc := "(I)I" } : Jvm.MethodName) prog_1_method_15_code (2 : Nat) (Option.some Jvm.ClassFile.FieldType.int)) ∈ zB := zB_mem (List.mem_of_getElem? (i := 372) rfl) rfl
set_option maxRecDepth 100000 in
theorem ml_L_73 : (Jvm.Cond.methodLink "SharerHomeLaw" (73 : Nat) ({ cls := "SharerHome", name := "result", desc := "(I)I" } : Jvm.MethodName)) ∈ zB := zB_mem (List.mem_of_getElem? (i := 373) rfl) rfl
set_option maxRecDepth 100000 in
theorem im_S_result : (Jvm.Cond.instanceMethod ({ cls := "SharerHome", name := "result", desc := "(I)I" } : Jvm.MethodName)) ∈ zB := zB_mem (List.mem_of_getElem? (i := 374) rfl) rfl
set_option maxRecDepth 100000 in
theorem se_S_result : (Jvm.Cond.selects "SharerHome" ({ cls := "SharerHome", name := "result", desc := "(I)I" } : Jvm.MethodName) ({ cls := "SharerHome", name := "result", desc := "(I)I" } : Jvm.MethodName)) ∈ zB := zB_mem (List.mem_of_getElem? (i := 375) rfl) rfl
set_option maxRecDepth 100000 in
theorem co_S_result : (Jvm.Cond.code ({ cls := "SharerHome", name := "result", desc := "(I)I" } : Jvm.MethodName) prog_1_method_16_code (2 : Nat) (Option.some Jvm.ClassFile.FieldType.int)) ∈ zB := zB_mem (List.mem_of_getElem? (i := 376) rfl) rfl
set_option maxRecDepth 100000 in
theorem ml_L_77 : (Jvm.Cond.methodLink "SharerHomeLaw" (77 : Nat) ({ cls := "SharerHome", name := "tally", desc := "(II)I" } : Jvm.MethodName)) ∈ zB := zB_mem (List.mem_of_getElem? (i := 377) rfl) rfl
set_option maxRecDepth 100000 in
theorem im_S_tally : (Jvm.Cond.instanceMethod ({ cls := "SharerHome", name := "tally", desc := "(II)I" } : Jvm.MethodName)) ∈ zB := zB_mem (List.mem_of_getElem? (i := 378) rfl) rfl
set_option maxRecDepth 100000 in
theorem se_S_tally : (Jvm.Cond.selects "SharerHome" ({ cls := "SharerHome", name := "tally", desc := "(II)I" } : Jvm.MethodName) ({ cls := "SharerHome", name := "tally", desc := "(II)I" } : Jvm.MethodName)) ∈ zB := zB_mem (List.mem_of_getElem? (i := 379) rfl) rfl
set_option maxRecDepth 100000 in
theorem co_S_tally : (Jvm.Cond.code ({ cls := "SharerHome", name := "tally", desc := "(II)I" } : Jvm.MethodName) prog_1_method_17_code (3 : Nat) (Option.some Jvm.ClassFile.FieldType.int)) ∈ zB := zB_mem (List.mem_of_getElem? (i := 380) rfl) rfl
set_option maxRecDepth 100000 in
theorem ml_L_81 : (Jvm.Cond.methodLink "SharerHomeLaw" (81 : Nat) ({ cls := "SharerHome", name := "run", desc := "(I)I" } : Jvm.MethodName)) ∈ zB := zB_mem (List.mem_of_getElem? (i := 381) rfl) rfl
set_option maxRecDepth 100000 in
theorem im_S_run : (Jvm.Cond.instanceMethod ({ cls := "SharerHome", name := "run", desc := "(I)I" } : Jvm.MethodName)) ∈ zB := zB_mem (List.mem_of_getElem? (i := 382) rfl) rfl
set_option maxRecDepth 100000 in
theorem se_S_run : (Jvm.Cond.selects "SharerHome" ({ cls := "SharerHome", name := "run", desc := "(I)I" } : Jvm.MethodName) ({ cls := "SharerHome", name := "run", desc := "(I)I" } : Jvm.MethodName)) ∈ zB := zB_mem (List.mem_of_getElem? (i := 383) rfl) rfl
set_option maxRecDepth 100000 in
theorem co_S_run : (Jvm.Cond.code ({ cls := "SharerHome", name := "run", desc := "(I)I" } : Jvm.MethodName) prog_1_method_18_code (4 : Nat) (Option.some Jvm.ClassFile.FieldType.int)) ∈ zB := zB_mem (List.mem_of_getElem? (i := 384) rfl) rfl
set_option maxRecDepth 100000 in
theorem ml_S_101 : (Jvm.Cond.methodLink "SharerHome" (101 : Nat) ({ cls := "SharerHome", name := "oldestToTake", desc := "()I" } : Jvm.MethodName)) ∈ zB := zB_mem (List.mem_of_getElem? (i := 385) rfl) rfl
set_option maxRecDepth 100000 in
theorem im_S_oldestToTake : (Jvm.Cond.instanceMethod ({ cls := "SharerHome", name := "oldestToTake", desc := "()I" } : Jvm.MethodName)) ∈ zB := zB_mem (List.mem_of_getElem? (i := 387) rfl) rfl
set_option maxRecDepth 100000 in
theorem co_S_oldestToTake : (Jvm.Cond.code ({ cls := "SharerHome", name := "oldestToTake", desc := "()I" } : Jvm.MethodName) prog_1_method_22_code (2 : Nat) (Option.some Jvm.ClassFile.FieldType.int)) ∈ zB := zB_mem (List.mem_of_getElem? (i := 388) rfl) rfl
set_option maxRecDepth 100000 in
theorem cl_L_10 : (Jvm.Cond.classLink "SharerHomeLaw" (10 : Nat) "SharerHomeModel") ∈ zB := zB_mem (List.mem_of_getElem? (i := 389) rfl) rfl
set_option maxRecDepth 100000 in
theorem is_M : (Jvm.Cond.instantiable "SharerHomeModel" (23 : Nat)) ∈ zB := zB_mem (List.mem_of_getElem? (i := 390) rfl) rfl
set_option maxRecDepth 100000 in
theorem ml_L_12 : (Jvm.Cond.methodLink "SharerHomeLaw" (12 : Nat) ({ cls := "SharerHomeModel", name := "<init>", desc := "()V" } : Jvm.MethodName)) ∈ zB := zB_mem (List.mem_of_getElem? (i := 391) rfl) rfl
set_option maxRecDepth 100000 in
theorem im_M_init : (Jvm.Cond.instanceMethod ({ cls := "SharerHomeModel", name := "<init>", desc := "()V" } : Jvm.MethodName)) ∈ zB := zB_mem (List.mem_of_getElem? (i := 392) rfl) rfl
set_option maxRecDepth 100000 in
theorem co_M_init : (Jvm.Cond.code ({ cls := "SharerHomeModel", name := "<init>", desc := "()V" } : Jvm.MethodName) prog_6_method_1_code (1 : Nat) (Option.none : Option Jvm.ClassFile.FieldType)) ∈ zB := zB_mem (List.mem_of_getElem? (i := 393) rfl) rfl
set_option maxRecDepth 100000 in
theorem ml_M_1 : (Jvm.Cond.methodLink "SharerHomeModel" (1 : Nat) ({ cls := "java/lang/Object", name := "<init>", desc := "()V" } : Jvm.MethodName)) ∈ zB := zB_mem (List.mem_of_getElem? (i := 394) rfl) rfl
set_option maxRecDepth 100000 in
theorem fl_M_7 : (Jvm.Cond.fieldLink "SharerHomeModel" (7 : Nat) "SharerHomeModel" "copy" "[I") ∈ zB := zB_mem (List.mem_of_getElem? (i := 395) rfl) rfl
set_option maxRecDepth 100000 in
theorem fl_M_13 : (Jvm.Cond.fieldLink "SharerHomeModel" (13 : Nat) "SharerHomeModel" "content" "[I") ∈ zB := zB_mem (List.mem_of_getElem? (i := 396) rfl) rfl
set_option maxRecDepth 100000 in
theorem fl_M_16 : (Jvm.Cond.fieldLink "SharerHomeModel" (16 : Nat) "SharerHomeModel" "needed" "[I") ∈ zB := zB_mem (List.mem_of_getElem? (i := 397) rfl) rfl
set_option maxRecDepth 100000 in
theorem fl_M_19 : (Jvm.Cond.fieldLink "SharerHomeModel" (19 : Nat) "SharerHomeModel" "got" "[I") ∈ zB := zB_mem (List.mem_of_getElem? (i := 398) rfl) rfl
set_option maxRecDepth 100000 in
theorem fl_M_22 : (Jvm.Cond.fieldLink "SharerHomeModel" (22 : Nat) "SharerHomeModel" "sentSince" "[I") ∈ zB := zB_mem (List.mem_of_getElem? (i := 399) rfl) rfl
set_option maxRecDepth 100000 in
theorem fl_M_25 : (Jvm.Cond.fieldLink "SharerHomeModel" (25 : Nat) "SharerHomeModel" "waiting" "[Z") ∈ zB := zB_mem (List.mem_of_getElem? (i := 400) rfl) rfl
set_option maxRecDepth 100000 in
theorem fl_M_29 : (Jvm.Cond.fieldLink "SharerHomeModel" (29 : Nat) "SharerHomeModel" "forLine" "[I") ∈ zB := zB_mem (List.mem_of_getElem? (i := 401) rfl) rfl
set_option maxRecDepth 100000 in
theorem fl_M_32 : (Jvm.Cond.fieldLink "SharerHomeModel" (32 : Nat) "SharerHomeModel" "operation" "[I") ∈ zB := zB_mem (List.mem_of_getElem? (i := 402) rfl) rfl
set_option maxRecDepth 100000 in
theorem fl_M_35 : (Jvm.Cond.fieldLink "SharerHomeModel" (35 : Nat) "SharerHomeModel" "operand" "[I") ∈ zB := zB_mem (List.mem_of_getElem? (i := 403) rfl) rfl
set_option maxRecDepth 100000 in
theorem fl_M_38 : (Jvm.Cond.fieldLink "SharerHomeModel" (38 : Nat) "SharerHomeModel" "finished" "[I") ∈ zB := zB_mem (List.mem_of_getElem? (i := 404) rfl) rfl
set_option maxRecDepth 100000 in
theorem fl_M_41 : (Jvm.Cond.fieldLink "SharerHomeModel" (41 : Nat) "SharerHomeModel" "latest" "[I") ∈ zB := zB_mem (List.mem_of_getElem? (i := 405) rfl) rfl
set_option maxRecDepth 100000 in
theorem fl_M_44 : (Jvm.Cond.fieldLink "SharerHomeModel" (44 : Nat) "SharerHomeModel" "keeping" "[I") ∈ zB := zB_mem (List.mem_of_getElem? (i := 406) rfl) rfl
set_option maxRecDepth 100000 in
theorem fl_M_47 : (Jvm.Cond.fieldLink "SharerHomeModel" (47 : Nat) "SharerHomeModel" "owner" "[I") ∈ zB := zB_mem (List.mem_of_getElem? (i := 407) rfl) rfl
set_option maxRecDepth 100000 in
theorem fl_M_50 : (Jvm.Cond.fieldLink "SharerHomeModel" (50 : Nat) "SharerHomeModel" "sharers" "[I") ∈ zB := zB_mem (List.mem_of_getElem? (i := 408) rfl) rfl
set_option maxRecDepth 100000 in
theorem fl_M_53 : (Jvm.Cond.fieldLink "SharerHomeModel" (53 : Nat) "SharerHomeModel" "cells" "[I") ∈ zB := zB_mem (List.mem_of_getElem? (i := 409) rfl) rfl
set_option maxRecDepth 100000 in
theorem fl_M_81 : (Jvm.Cond.fieldLink "SharerHomeModel" (81 : Nat) "SharerHomeModel" "rows" "I") ∈ zB := zB_mem (List.mem_of_getElem? (i := 410) rfl) rfl
set_option maxRecDepth 100000 in
theorem fl_M_56 : (Jvm.Cond.fieldLink "SharerHomeModel" (56 : Nat) "SharerHomeModel" "kind" "[I") ∈ zB := zB_mem (List.mem_of_getElem? (i := 411) rfl) rfl
set_option maxRecDepth 100000 in
theorem fl_M_59 : (Jvm.Cond.fieldLink "SharerHomeModel" (59 : Nat) "SharerHomeModel" "about" "[I") ∈ zB := zB_mem (List.mem_of_getElem? (i := 412) rfl) rfl
set_option maxRecDepth 100000 in
theorem fl_M_62 : (Jvm.Cond.fieldLink "SharerHomeModel" (62 : Nat) "SharerHomeModel" "sender" "[I") ∈ zB := zB_mem (List.mem_of_getElem? (i := 413) rfl) rfl
set_option maxRecDepth 100000 in
theorem fl_M_65 : (Jvm.Cond.fieldLink "SharerHomeModel" (65 : Nat) "SharerHomeModel" "receiver" "[I") ∈ zB := zB_mem (List.mem_of_getElem? (i := 414) rfl) rfl
set_option maxRecDepth 100000 in
theorem fl_M_68 : (Jvm.Cond.fieldLink "SharerHomeModel" (68 : Nat) "SharerHomeModel" "requester" "[I") ∈ zB := zB_mem (List.mem_of_getElem? (i := 415) rfl) rfl
set_option maxRecDepth 100000 in
theorem fl_M_71 : (Jvm.Cond.fieldLink "SharerHomeModel" (71 : Nat) "SharerHomeModel" "number" "[I") ∈ zB := zB_mem (List.mem_of_getElem? (i := 416) rfl) rfl
set_option maxRecDepth 100000 in
theorem fl_M_74 : (Jvm.Cond.fieldLink "SharerHomeModel" (74 : Nat) "SharerHomeModel" "burden" "[I") ∈ zB := zB_mem (List.mem_of_getElem? (i := 417) rfl) rfl
set_option maxRecDepth 100000 in
theorem ac_boolean : (Jvm.Cond.arrayClass Jvm.ClassFile.FieldType.boolean) ∈ zB := zB_mem (List.mem_of_getElem? (i := 465) rfl) rfl
set_option maxRecDepth 100000 in
theorem ml_L_17 : (Jvm.Cond.methodLink "SharerHomeLaw" (17 : Nat) ({ cls := "SharerHomeModel", name := "load", desc := "(II)I" } : Jvm.MethodName)) ∈ zB := zB_mem (List.mem_of_getElem? (i := 466) rfl) rfl
set_option maxRecDepth 100000 in
theorem im_M_load : (Jvm.Cond.instanceMethod ({ cls := "SharerHomeModel", name := "load", desc := "(II)I" } : Jvm.MethodName)) ∈ zB := zB_mem (List.mem_of_getElem? (i := 467) rfl) rfl
set_option maxRecDepth 100000 in
theorem se_M_load : (Jvm.Cond.selects "SharerHomeModel" ({ cls := "SharerHomeModel", name := "load", desc := "(II)I" } : Jvm.MethodName) ({ cls := "SharerHomeModel", name := "load", desc := "(II)I" } : Jvm.MethodName)) ∈ zB := zB_mem (List.mem_of_getElem? (i := 468) rfl) rfl
set_option maxRecDepth 100000 in
theorem co_M_load : (Jvm.Cond.code ({ cls := "SharerHomeModel", name := "load", desc := "(II)I" } : Jvm.MethodName) prog_6_method_19_code (3 : Nat) (Option.some Jvm.ClassFile.FieldType.int)) ∈ zB := zB_mem (List.mem_of_getElem? (i := 469) rfl) rfl
set_option maxRecDepth 100000 in
theorem ml_M_142 : (Jvm.Cond.methodLink "SharerHomeModel" (142 : Nat) ({ cls := "SharerHomeModel", name := "start", desc := "(IIII)I" } : Jvm.MethodName)) ∈ zB := zB_mem (List.mem_of_getElem? (i := 470) rfl) rfl
set_option maxRecDepth 100000 in
theorem im_M_start : (Jvm.Cond.instanceMethod ({ cls := "SharerHomeModel", name := "start", desc := "(IIII)I" } : Jvm.MethodName)) ∈ zB := zB_mem (List.mem_of_getElem? (i := 472) rfl) rfl
set_option maxRecDepth 100000 in
theorem co_M_start : (Jvm.Cond.code ({ cls := "SharerHomeModel", name := "start", desc := "(IIII)I" } : Jvm.MethodName) prog_6_method_18_code (6 : Nat) (Option.some Jvm.ClassFile.FieldType.int)) ∈ zB := zB_mem (List.mem_of_getElem? (i := 473) rfl) rfl
set_option maxRecDepth 100000 in
theorem ml_M_139 : (Jvm.Cond.methodLink "SharerHomeModel" (139 : Nat) ({ cls := "SharerHomeModel", name := "isFour", desc := "(I)Z" } : Jvm.MethodName)) ∈ zB := zB_mem (List.mem_of_getElem? (i := 474) rfl) rfl
set_option maxRecDepth 100000 in
theorem sc_M_isFour : (Jvm.Cond.static ({ cls := "SharerHomeModel", name := "isFour", desc := "(I)Z" } : Jvm.MethodName)) ∈ zB := zB_mem (List.mem_of_getElem? (i := 475) rfl) rfl
set_option maxRecDepth 100000 in
theorem co_M_isFour : (Jvm.Cond.code ({ cls := "SharerHomeModel", name := "isFour", desc := "(I)Z" } : Jvm.MethodName) prog_6_method_2_code (1 : Nat) (Option.some Jvm.ClassFile.FieldType.boolean)) ∈ zB := zB_mem (List.mem_of_getElem? (i := 476) rfl) rfl
set_option maxRecDepth 100000 in
theorem ml_M_136 : (Jvm.Cond.methodLink "SharerHomeModel" (136 : Nat) ({ cls := "SharerHomeModel", name := "finish", desc := "(II)V" } : Jvm.MethodName)) ∈ zB := zB_mem (List.mem_of_getElem? (i := 477) rfl) rfl
set_option maxRecDepth 100000 in
theorem im_M_finish : (Jvm.Cond.instanceMethod ({ cls := "SharerHomeModel", name := "finish", desc := "(II)V" } : Jvm.MethodName)) ∈ zB := zB_mem (List.mem_of_getElem? (i := 479) rfl) rfl
set_option maxRecDepth 100000 in
theorem co_M_finish : (Jvm.Cond.code ({ cls := "SharerHomeModel", name := "finish", desc := "(II)V" } : Jvm.MethodName) prog_6_method_17_code (5 : Nat) (Option.none : Option Jvm.ClassFile.FieldType)) ∈ zB := zB_mem (List.mem_of_getElem? (i := 480) rfl) rfl
set_option maxRecDepth 100000 in
theorem ml_M_130 : (Jvm.Cond.methodLink "SharerHomeModel" (130 : Nat) ({ cls := "SharerHomeModel", name := "send", desc := "(IIIIII)V" } : Jvm.MethodName)) ∈ zB := zB_mem (List.mem_of_getElem? (i := 481) rfl) rfl
set_option maxRecDepth 100000 in
theorem im_M_send : (Jvm.Cond.instanceMethod ({ cls := "SharerHomeModel", name := "send", desc := "(IIIIII)V" } : Jvm.MethodName)) ∈ zB := zB_mem (List.mem_of_getElem? (i := 483) rfl) rfl
set_option maxRecDepth 100000 in
theorem co_M_send : (Jvm.Cond.code ({ cls := "SharerHomeModel", name := "send", desc := "(IIIIII)V" } : Jvm.MethodName) prog_6_method_3_code (7 : Nat) (Option.none : Option Jvm.ClassFile.FieldType)) ∈ zB := zB_mem (List.mem_of_getElem? (i := 484) rfl) rfl
set_option maxRecDepth 100000 in
theorem ml_M_77 : (Jvm.Cond.methodLink "SharerHomeModel" (77 : Nat) ({ cls := "SharerHomeModel", name := "sendWith", desc := "(IIIIIII)V" } : Jvm.MethodName)) ∈ zB := zB_mem (List.mem_of_getElem? (i := 485) rfl) rfl
set_option maxRecDepth 100000 in
theorem im_M_sendWith : (Jvm.Cond.instanceMethod ({ cls := "SharerHomeModel", name := "sendWith", desc := "(IIIIIII)V" } : Jvm.MethodName)) ∈ zB := zB_mem (List.mem_of_getElem? (i := 487) rfl) rfl
set_option maxRecDepth 100000 in
theorem co_M_sendWith : (Jvm.Cond.code ({ cls := "SharerHomeModel", name := "sendWith", desc := "(IIIIIII)V" } : Jvm.MethodName) prog_6_method_4_code (8 : Nat) (Option.none : Option Jvm.ClassFile.FieldType)) ∈ zB := zB_mem (List.mem_of_getElem? (i := 488) rfl) rfl
set_option maxRecDepth 100000 in
theorem ml_L_22 : (Jvm.Cond.methodLink "SharerHomeLaw" (22 : Nat) ({ cls := "SharerHomeModel", name := "store", desc := "(III)I" } : Jvm.MethodName)) ∈ zB := zB_mem (List.mem_of_getElem? (i := 489) rfl) rfl
set_option maxRecDepth 100000 in
theorem im_M_store : (Jvm.Cond.instanceMethod ({ cls := "SharerHomeModel", name := "store", desc := "(III)I" } : Jvm.MethodName)) ∈ zB := zB_mem (List.mem_of_getElem? (i := 490) rfl) rfl
set_option maxRecDepth 100000 in
theorem se_M_store : (Jvm.Cond.selects "SharerHomeModel" ({ cls := "SharerHomeModel", name := "store", desc := "(III)I" } : Jvm.MethodName) ({ cls := "SharerHomeModel", name := "store", desc := "(III)I" } : Jvm.MethodName)) ∈ zB := zB_mem (List.mem_of_getElem? (i := 491) rfl) rfl
set_option maxRecDepth 100000 in
theorem co_M_store : (Jvm.Cond.code ({ cls := "SharerHomeModel", name := "store", desc := "(III)I" } : Jvm.MethodName) prog_6_method_20_code (4 : Nat) (Option.some Jvm.ClassFile.FieldType.int)) ∈ zB := zB_mem (List.mem_of_getElem? (i := 492) rfl) rfl
set_option maxRecDepth 100000 in
theorem ml_L_26 : (Jvm.Cond.methodLink "SharerHomeLaw" (26 : Nat) ({ cls := "SharerHomeModel", name := "add", desc := "(III)I" } : Jvm.MethodName)) ∈ zB := zB_mem (List.mem_of_getElem? (i := 493) rfl) rfl
set_option maxRecDepth 100000 in
theorem im_M_add : (Jvm.Cond.instanceMethod ({ cls := "SharerHomeModel", name := "add", desc := "(III)I" } : Jvm.MethodName)) ∈ zB := zB_mem (List.mem_of_getElem? (i := 494) rfl) rfl
set_option maxRecDepth 100000 in
theorem se_M_add : (Jvm.Cond.selects "SharerHomeModel" ({ cls := "SharerHomeModel", name := "add", desc := "(III)I" } : Jvm.MethodName) ({ cls := "SharerHomeModel", name := "add", desc := "(III)I" } : Jvm.MethodName)) ∈ zB := zB_mem (List.mem_of_getElem? (i := 495) rfl) rfl
set_option maxRecDepth 100000 in
theorem co_M_add : (Jvm.Cond.code ({ cls := "SharerHomeModel", name := "add", desc := "(III)I" } : Jvm.MethodName) prog_6_method_21_code (4 : Nat) (Option.some Jvm.ClassFile.FieldType.int)) ∈ zB := zB_mem (List.mem_of_getElem? (i := 496) rfl) rfl
set_option maxRecDepth 100000 in
theorem ml_L_30 : (Jvm.Cond.methodLink "SharerHomeLaw" (30 : Nat) ({ cls := "SharerHomeModel", name := "leave", desc := "(II)I" } : Jvm.MethodName)) ∈ zB := zB_mem (List.mem_of_getElem? (i := 497) rfl) rfl
set_option maxRecDepth 100000 in
theorem im_M_leave : (Jvm.Cond.instanceMethod ({ cls := "SharerHomeModel", name := "leave", desc := "(II)I" } : Jvm.MethodName)) ∈ zB := zB_mem (List.mem_of_getElem? (i := 498) rfl) rfl
set_option maxRecDepth 100000 in
theorem se_M_leave : (Jvm.Cond.selects "SharerHomeModel" ({ cls := "SharerHomeModel", name := "leave", desc := "(II)I" } : Jvm.MethodName) ({ cls := "SharerHomeModel", name := "leave", desc := "(II)I" } : Jvm.MethodName)) ∈ zB := zB_mem (List.mem_of_getElem? (i := 499) rfl) rfl
set_option maxRecDepth 100000 in
theorem co_M_leave : (Jvm.Cond.code ({ cls := "SharerHomeModel", name := "leave", desc := "(II)I" } : Jvm.MethodName) prog_6_method_22_code (5 : Nat) (Option.some Jvm.ClassFile.FieldType.int)) ∈ zB := zB_mem (List.mem_of_getElem? (i := 500) rfl) rfl
set_option maxRecDepth 100000 in
theorem ml_L_35 : (Jvm.Cond.methodLink "SharerHomeLaw" (35 : Nat) ({ cls := "SharerHomeModel", name := "deliver", desc := "(I)I" } : Jvm.MethodName)) ∈ zB := zB_mem (List.mem_of_getElem? (i := 501) rfl) rfl
set_option maxRecDepth 100000 in
theorem im_M_deliver : (Jvm.Cond.instanceMethod ({ cls := "SharerHomeModel", name := "deliver", desc := "(I)I" } : Jvm.MethodName)) ∈ zB := zB_mem (List.mem_of_getElem? (i := 502) rfl) rfl
set_option maxRecDepth 100000 in
theorem se_M_deliver : (Jvm.Cond.selects "SharerHomeModel" ({ cls := "SharerHomeModel", name := "deliver", desc := "(I)I" } : Jvm.MethodName) ({ cls := "SharerHomeModel", name := "deliver", desc := "(I)I" } : Jvm.MethodName)) ∈ zB := zB_mem (List.mem_of_getElem? (i := 503) rfl) rfl
set_option maxRecDepth 100000 in
theorem co_M_deliver : (Jvm.Cond.code ({ cls := "SharerHomeModel", name := "deliver", desc := "(I)I" } : Jvm.MethodName) prog_6_method_23_code (2 : Nat) (Option.some Jvm.ClassFile.FieldType.int)) ∈ zB := zB_mem (List.mem_of_getElem? (i := 504) rfl) rfl
set_option maxRecDepth 100000 in
theorem ml_M_146 : (Jvm.Cond.methodLink "SharerHomeModel" (146 : Nat) ({ cls := "SharerHomeModel", name := "move", desc := "(I)I" } : Jvm.MethodName)) ∈ zB := zB_mem (List.mem_of_getElem? (i := 505) rfl) rfl
set_option maxRecDepth 100000 in
theorem im_M_move : (Jvm.Cond.instanceMethod ({ cls := "SharerHomeModel", name := "move", desc := "(I)I" } : Jvm.MethodName)) ∈ zB := zB_mem (List.mem_of_getElem? (i := 507) rfl) rfl
set_option maxRecDepth 100000 in
theorem co_M_move : (Jvm.Cond.code ({ cls := "SharerHomeModel", name := "move", desc := "(I)I" } : Jvm.MethodName) prog_6_method_11_code (8 : Nat) (Option.some Jvm.ClassFile.FieldType.int)) ∈ zB := zB_mem (List.mem_of_getElem? (i := 508) rfl) rfl
set_option maxRecDepth 100000 in
theorem ml_M_105 : (Jvm.Cond.methodLink "SharerHomeModel" (105 : Nat) ({ cls := "SharerHomeModel", name := "keptBack", desc := "(I)Z" } : Jvm.MethodName)) ∈ zB := zB_mem (List.mem_of_getElem? (i := 509) rfl) rfl
set_option maxRecDepth 100000 in
theorem im_M_keptBack : (Jvm.Cond.instanceMethod ({ cls := "SharerHomeModel", name := "keptBack", desc := "(I)Z" } : Jvm.MethodName)) ∈ zB := zB_mem (List.mem_of_getElem? (i := 511) rfl) rfl
set_option maxRecDepth 100000 in
theorem co_M_keptBack : (Jvm.Cond.code ({ cls := "SharerHomeModel", name := "keptBack", desc := "(I)Z" } : Jvm.MethodName) prog_6_method_7_code (4 : Nat) (Option.some Jvm.ClassFile.FieldType.boolean)) ∈ zB := zB_mem (List.mem_of_getElem? (i := 512) rfl) rfl
set_option maxRecDepth 100000 in
theorem ml_M_85 : (Jvm.Cond.methodLink "SharerHomeModel" (85 : Nat) ({ cls := "SharerHomeModel", name := "isOrdered", desc := "(I)Z" } : Jvm.MethodName)) ∈ zB := zB_mem (List.mem_of_getElem? (i := 513) rfl) rfl
set_option maxRecDepth 100000 in
theorem sc_M_isOrdered : (Jvm.Cond.static ({ cls := "SharerHomeModel", name := "isOrdered", desc := "(I)Z" } : Jvm.MethodName)) ∈ zB := zB_mem (List.mem_of_getElem? (i := 514) rfl) rfl
set_option maxRecDepth 100000 in
theorem co_M_isOrdered : (Jvm.Cond.code ({ cls := "SharerHomeModel", name := "isOrdered", desc := "(I)Z" } : Jvm.MethodName) prog_6_method_6_code (1 : Nat) (Option.some Jvm.ClassFile.FieldType.boolean)) ∈ zB := zB_mem (List.mem_of_getElem? (i := 515) rfl) rfl
set_option maxRecDepth 100000 in
theorem ml_M_108 : (Jvm.Cond.methodLink "SharerHomeModel" (108 : Nat) ({ cls := "SharerHomeModel", name := "stalls", desc := "(I)Z" } : Jvm.MethodName)) ∈ zB := zB_mem (List.mem_of_getElem? (i := 516) rfl) rfl
set_option maxRecDepth 100000 in
theorem im_M_stalls : (Jvm.Cond.instanceMethod ({ cls := "SharerHomeModel", name := "stalls", desc := "(I)Z" } : Jvm.MethodName)) ∈ zB := zB_mem (List.mem_of_getElem? (i := 518) rfl) rfl
set_option maxRecDepth 100000 in
theorem co_M_stalls : (Jvm.Cond.code ({ cls := "SharerHomeModel", name := "stalls", desc := "(I)Z" } : Jvm.MethodName) prog_6_method_10_code (2 : Nat) (Option.some Jvm.ClassFile.FieldType.boolean)) ∈ zB := zB_mem (List.mem_of_getElem? (i := 519) rfl) rfl
set_option maxRecDepth 100000 in
theorem ml_M_101 : (Jvm.Cond.methodLink "SharerHomeModel" (101 : Nat) ({ cls := "SharerHomeModel", name := "becomes", desc := "(II)I" } : Jvm.MethodName)) ∈ zB := zB_mem (List.mem_of_getElem? (i := 520) rfl) rfl
set_option maxRecDepth 100000 in
theorem sc_M_becomes : (Jvm.Cond.static ({ cls := "SharerHomeModel", name := "becomes", desc := "(II)I" } : Jvm.MethodName)) ∈ zB := zB_mem (List.mem_of_getElem? (i := 521) rfl) rfl
set_option maxRecDepth 100000 in
theorem co_M_becomes : (Jvm.Cond.code ({ cls := "SharerHomeModel", name := "becomes", desc := "(II)I" } : Jvm.MethodName) prog_6_method_9_code (2 : Nat) (Option.some Jvm.ClassFile.FieldType.int)) ∈ zB := zB_mem (List.mem_of_getElem? (i := 522) rfl) rfl
set_option maxRecDepth 100000 in
theorem kl_M_91 : (Jvm.Cond.constantLong "SharerHomeModel" (91 : Nat) (3584133028581648 : Int64)) ∈ zB := zB_mem (List.mem_of_getElem? (i := 523) rfl) rfl
set_option maxRecDepth 100000 in
theorem ml_M_93 : (Jvm.Cond.methodLink "SharerHomeModel" (93 : Nat) ({ cls := "SharerHomeModel", name := "digit", desc := "(JI)I" } : Jvm.MethodName)) ∈ zB := zB_mem (List.mem_of_getElem? (i := 524) rfl) rfl
set_option maxRecDepth 100000 in
theorem sc_M_digit : (Jvm.Cond.static ({ cls := "SharerHomeModel", name := "digit", desc := "(JI)I" } : Jvm.MethodName)) ∈ zB := zB_mem (List.mem_of_getElem? (i := 525) rfl) rfl
set_option maxRecDepth 100000 in
theorem co_M_digit : (Jvm.Cond.code ({ cls := "SharerHomeModel", name := "digit", desc := "(JI)I" } : Jvm.MethodName) prog_6_method_8_code (3 : Nat) (Option.some Jvm.ClassFile.FieldType.int)) ∈ zB := zB_mem (List.mem_of_getElem? (i := 526) rfl) rfl
set_option maxRecDepth 100000 in
theorem kl_M_89 : (Jvm.Cond.constantLong "SharerHomeModel" (89 : Nat) (15 : Int64)) ∈ zB := zB_mem (List.mem_of_getElem? (i := 527) rfl) rfl
set_option maxRecDepth 100000 in
theorem kl_M_97 : (Jvm.Cond.constantLong "SharerHomeModel" (97 : Nat) (3585301259681808 : Int64)) ∈ zB := zB_mem (List.mem_of_getElem? (i := 528) rfl) rfl
set_option maxRecDepth 100000 in
theorem kl_M_99 : (Jvm.Cond.constantLong "SharerHomeModel" (99 : Nat) (3600455353446912 : Int64)) ∈ zB := zB_mem (List.mem_of_getElem? (i := 529) rfl) rfl
set_option maxRecDepth 100000 in
theorem ml_M_111 : (Jvm.Cond.methodLink "SharerHomeModel" (111 : Nat) ({ cls := "SharerHomeModel", name := "strike", desc := "(I)V" } : Jvm.MethodName)) ∈ zB := zB_mem (List.mem_of_getElem? (i := 530) rfl) rfl
set_option maxRecDepth 100000 in
theorem im_M_strike : (Jvm.Cond.instanceMethod ({ cls := "SharerHomeModel", name := "strike", desc := "(I)V" } : Jvm.MethodName)) ∈ zB := zB_mem (List.mem_of_getElem? (i := 532) rfl) rfl
set_option maxRecDepth 100000 in
theorem co_M_strike : (Jvm.Cond.code ({ cls := "SharerHomeModel", name := "strike", desc := "(I)V" } : Jvm.MethodName) prog_6_method_5_code (3 : Nat) (Option.none : Option Jvm.ClassFile.FieldType)) ∈ zB := zB_mem (List.mem_of_getElem? (i := 533) rfl) rfl
set_option maxRecDepth 100000 in
theorem ml_M_115 : (Jvm.Cond.methodLink "SharerHomeModel" (115 : Nat) ({ cls := "SharerHomeModel", name := "toCore", desc := "(IIIIII)V" } : Jvm.MethodName)) ∈ zB := zB_mem (List.mem_of_getElem? (i := 534) rfl) rfl
set_option maxRecDepth 100000 in
theorem im_M_toCore : (Jvm.Cond.instanceMethod ({ cls := "SharerHomeModel", name := "toCore", desc := "(IIIIII)V" } : Jvm.MethodName)) ∈ zB := zB_mem (List.mem_of_getElem? (i := 536) rfl) rfl
set_option maxRecDepth 100000 in
theorem co_M_toCore : (Jvm.Cond.code ({ cls := "SharerHomeModel", name := "toCore", desc := "(IIIIII)V" } : Jvm.MethodName) prog_6_method_15_code (11 : Nat) (Option.none : Option Jvm.ClassFile.FieldType)) ∈ zB := zB_mem (List.mem_of_getElem? (i := 537) rfl) rfl
set_option maxRecDepth 100000 in
theorem ml_M_133 : (Jvm.Cond.methodLink "SharerHomeModel" (133 : Nat) ({ cls := "SharerHomeModel", name := "acknowledged", desc := "(II)V" } : Jvm.MethodName)) ∈ zB := zB_mem (List.mem_of_getElem? (i := 538) rfl) rfl
set_option maxRecDepth 100000 in
theorem im_M_acknowledged : (Jvm.Cond.instanceMethod ({ cls := "SharerHomeModel", name := "acknowledged", desc := "(II)V" } : Jvm.MethodName)) ∈ zB := zB_mem (List.mem_of_getElem? (i := 540) rfl) rfl
set_option maxRecDepth 100000 in
theorem co_M_acknowledged : (Jvm.Cond.code ({ cls := "SharerHomeModel", name := "acknowledged", desc := "(II)V" } : Jvm.MethodName) prog_6_method_16_code (4 : Nat) (Option.none : Option Jvm.ClassFile.FieldType)) ∈ zB := zB_mem (List.mem_of_getElem? (i := 541) rfl) rfl
set_option maxRecDepth 100000 in
theorem ml_M_119 : (Jvm.Cond.methodLink "SharerHomeModel" (119 : Nat) ({ cls := "SharerHomeModel", name := "toRead", desc := "(II)V" } : Jvm.MethodName)) ∈ zB := zB_mem (List.mem_of_getElem? (i := 542) rfl) rfl
set_option maxRecDepth 100000 in
theorem im_M_toRead : (Jvm.Cond.instanceMethod ({ cls := "SharerHomeModel", name := "toRead", desc := "(II)V" } : Jvm.MethodName)) ∈ zB := zB_mem (List.mem_of_getElem? (i := 544) rfl) rfl
set_option maxRecDepth 100000 in
theorem co_M_toRead : (Jvm.Cond.code ({ cls := "SharerHomeModel", name := "toRead", desc := "(II)V" } : Jvm.MethodName) prog_6_method_12_code (3 : Nat) (Option.none : Option Jvm.ClassFile.FieldType)) ∈ zB := zB_mem (List.mem_of_getElem? (i := 545) rfl) rfl
set_option maxRecDepth 100000 in
theorem ml_M_123 : (Jvm.Cond.methodLink "SharerHomeModel" (123 : Nat) ({ cls := "SharerHomeModel", name := "toWrite", desc := "(II)V" } : Jvm.MethodName)) ∈ zB := zB_mem (List.mem_of_getElem? (i := 546) rfl) rfl
set_option maxRecDepth 100000 in
theorem im_M_toWrite : (Jvm.Cond.instanceMethod ({ cls := "SharerHomeModel", name := "toWrite", desc := "(II)V" } : Jvm.MethodName)) ∈ zB := zB_mem (List.mem_of_getElem? (i := 548) rfl) rfl
set_option maxRecDepth 100000 in
theorem co_M_toWrite : (Jvm.Cond.code ({ cls := "SharerHomeModel", name := "toWrite", desc := "(II)V" } : Jvm.MethodName) prog_6_method_13_code (5 : Nat) (Option.none : Option Jvm.ClassFile.FieldType)) ∈ zB := zB_mem (List.mem_of_getElem? (i := 549) rfl) rfl
set_option maxRecDepth 100000 in
theorem ml_M_126 : (Jvm.Cond.methodLink "SharerHomeModel" (126 : Nat) ({ cls := "SharerHomeModel", name := "toLeave", desc := "(IIII)V" } : Jvm.MethodName)) ∈ zB := zB_mem (List.mem_of_getElem? (i := 550) rfl) rfl
set_option maxRecDepth 100000 in
theorem im_M_toLeave : (Jvm.Cond.instanceMethod ({ cls := "SharerHomeModel", name := "toLeave", desc := "(IIII)V" } : Jvm.MethodName)) ∈ zB := zB_mem (List.mem_of_getElem? (i := 552) rfl) rfl
set_option maxRecDepth 100000 in
theorem co_M_toLeave : (Jvm.Cond.code ({ cls := "SharerHomeModel", name := "toLeave", desc := "(IIII)V" } : Jvm.MethodName) prog_6_method_14_code (5 : Nat) (Option.none : Option Jvm.ClassFile.FieldType)) ∈ zB := zB_mem (List.mem_of_getElem? (i := 553) rfl) rfl
set_option maxRecDepth 100000 in
theorem ml_L_39 : (Jvm.Cond.methodLink "SharerHomeLaw" (39 : Nat) ({ cls := "SharerHomeModel", name := "message", desc := "(II)I" } : Jvm.MethodName)) ∈ zB := zB_mem (List.mem_of_getElem? (i := 554) rfl) rfl
set_option maxRecDepth 100000 in
theorem im_M_message : (Jvm.Cond.instanceMethod ({ cls := "SharerHomeModel", name := "message", desc := "(II)I" } : Jvm.MethodName)) ∈ zB := zB_mem (List.mem_of_getElem? (i := 555) rfl) rfl
set_option maxRecDepth 100000 in
theorem se_M_message : (Jvm.Cond.selects "SharerHomeModel" ({ cls := "SharerHomeModel", name := "message", desc := "(II)I" } : Jvm.MethodName) ({ cls := "SharerHomeModel", name := "message", desc := "(II)I" } : Jvm.MethodName)) ∈ zB := zB_mem (List.mem_of_getElem? (i := 556) rfl) rfl
set_option maxRecDepth 100000 in
theorem co_M_message : (Jvm.Cond.code ({ cls := "SharerHomeModel", name := "message", desc := "(II)I" } : Jvm.MethodName) prog_6_method_24_code (3 : Nat) (Option.some Jvm.ClassFile.FieldType.int)) ∈ zB := zB_mem (List.mem_of_getElem? (i := 557) rfl) rfl
set_option maxRecDepth 100000 in
theorem ml_L_43 : (Jvm.Cond.methodLink "SharerHomeLaw" (43 : Nat) ({ cls := "SharerHomeModel", name := "carried", desc := "(I)I" } : Jvm.MethodName)) ∈ zB := zB_mem (List.mem_of_getElem? (i := 558) rfl) rfl
set_option maxRecDepth 100000 in
theorem im_M_carried : (Jvm.Cond.instanceMethod ({ cls := "SharerHomeModel", name := "carried", desc := "(I)I" } : Jvm.MethodName)) ∈ zB := zB_mem (List.mem_of_getElem? (i := 559) rfl) rfl
set_option maxRecDepth 100000 in
theorem se_M_carried : (Jvm.Cond.selects "SharerHomeModel" ({ cls := "SharerHomeModel", name := "carried", desc := "(I)I" } : Jvm.MethodName) ({ cls := "SharerHomeModel", name := "carried", desc := "(I)I" } : Jvm.MethodName)) ∈ zB := zB_mem (List.mem_of_getElem? (i := 560) rfl) rfl
set_option maxRecDepth 100000 in
theorem co_M_carried : (Jvm.Cond.code ({ cls := "SharerHomeModel", name := "carried", desc := "(I)I" } : Jvm.MethodName) prog_6_method_25_code (2 : Nat) (Option.some Jvm.ClassFile.FieldType.int)) ∈ zB := zB_mem (List.mem_of_getElem? (i := 561) rfl) rfl
set_option maxRecDepth 100000 in
theorem ml_L_47 : (Jvm.Cond.methodLink "SharerHomeLaw" (47 : Nat) ({ cls := "SharerHomeModel", name := "state", desc := "(II)I" } : Jvm.MethodName)) ∈ zB := zB_mem (List.mem_of_getElem? (i := 562) rfl) rfl
set_option maxRecDepth 100000 in
theorem im_M_state : (Jvm.Cond.instanceMethod ({ cls := "SharerHomeModel", name := "state", desc := "(II)I" } : Jvm.MethodName)) ∈ zB := zB_mem (List.mem_of_getElem? (i := 563) rfl) rfl
set_option maxRecDepth 100000 in
theorem se_M_state : (Jvm.Cond.selects "SharerHomeModel" ({ cls := "SharerHomeModel", name := "state", desc := "(II)I" } : Jvm.MethodName) ({ cls := "SharerHomeModel", name := "state", desc := "(II)I" } : Jvm.MethodName)) ∈ zB := zB_mem (List.mem_of_getElem? (i := 564) rfl) rfl
set_option maxRecDepth 100000 in
theorem co_M_state : (Jvm.Cond.code ({ cls := "SharerHomeModel", name := "state", desc := "(II)I" } : Jvm.MethodName) prog_6_method_26_code (3 : Nat) (Option.some Jvm.ClassFile.FieldType.int)) ∈ zB := zB_mem (List.mem_of_getElem? (i := 565) rfl) rfl
set_option maxRecDepth 100000 in
theorem ml_L_51 : (Jvm.Cond.methodLink "SharerHomeLaw" (51 : Nat) ({ cls := "SharerHomeModel", name := "value", desc := "(II)I" } : Jvm.MethodName)) ∈ zB := zB_mem (List.mem_of_getElem? (i := 566) rfl) rfl
set_option maxRecDepth 100000 in
theorem im_M_value : (Jvm.Cond.instanceMethod ({ cls := "SharerHomeModel", name := "value", desc := "(II)I" } : Jvm.MethodName)) ∈ zB := zB_mem (List.mem_of_getElem? (i := 567) rfl) rfl
set_option maxRecDepth 100000 in
theorem se_M_value : (Jvm.Cond.selects "SharerHomeModel" ({ cls := "SharerHomeModel", name := "value", desc := "(II)I" } : Jvm.MethodName) ({ cls := "SharerHomeModel", name := "value", desc := "(II)I" } : Jvm.MethodName)) ∈ zB := zB_mem (List.mem_of_getElem? (i := 568) rfl) rfl
set_option maxRecDepth 100000 in
theorem co_M_value : (Jvm.Cond.code ({ cls := "SharerHomeModel", name := "value", desc := "(II)I" } : Jvm.MethodName) prog_6_method_27_code (4 : Nat) (Option.some Jvm.ClassFile.FieldType.int)) ∈ zB := zB_mem (List.mem_of_getElem? (i := 569) rfl) rfl
set_option maxRecDepth 100000 in
theorem ml_L_55 : (Jvm.Cond.methodLink "SharerHomeLaw" (55 : Nat) ({ cls := "SharerHomeModel", name := "due", desc := "(II)I" } : Jvm.MethodName)) ∈ zB := zB_mem (List.mem_of_getElem? (i := 570) rfl) rfl
set_option maxRecDepth 100000 in
theorem im_M_due : (Jvm.Cond.instanceMethod ({ cls := "SharerHomeModel", name := "due", desc := "(II)I" } : Jvm.MethodName)) ∈ zB := zB_mem (List.mem_of_getElem? (i := 571) rfl) rfl
set_option maxRecDepth 100000 in
theorem se_M_due : (Jvm.Cond.selects "SharerHomeModel" ({ cls := "SharerHomeModel", name := "due", desc := "(II)I" } : Jvm.MethodName) ({ cls := "SharerHomeModel", name := "due", desc := "(II)I" } : Jvm.MethodName)) ∈ zB := zB_mem (List.mem_of_getElem? (i := 572) rfl) rfl
set_option maxRecDepth 100000 in
theorem co_M_due : (Jvm.Cond.code ({ cls := "SharerHomeModel", name := "due", desc := "(II)I" } : Jvm.MethodName) prog_6_method_28_code (5 : Nat) (Option.some Jvm.ClassFile.FieldType.int)) ∈ zB := zB_mem (List.mem_of_getElem? (i := 573) rfl) rfl
set_option maxRecDepth 100000 in
theorem ml_L_59 : (Jvm.Cond.methodLink "SharerHomeLaw" (59 : Nat) ({ cls := "SharerHomeModel", name := "home", desc := "(I)I" } : Jvm.MethodName)) ∈ zB := zB_mem (List.mem_of_getElem? (i := 574) rfl) rfl
set_option maxRecDepth 100000 in
theorem im_M_home : (Jvm.Cond.instanceMethod ({ cls := "SharerHomeModel", name := "home", desc := "(I)I" } : Jvm.MethodName)) ∈ zB := zB_mem (List.mem_of_getElem? (i := 575) rfl) rfl
set_option maxRecDepth 100000 in
theorem se_M_home : (Jvm.Cond.selects "SharerHomeModel" ({ cls := "SharerHomeModel", name := "home", desc := "(I)I" } : Jvm.MethodName) ({ cls := "SharerHomeModel", name := "home", desc := "(I)I" } : Jvm.MethodName)) ∈ zB := zB_mem (List.mem_of_getElem? (i := 576) rfl) rfl
set_option maxRecDepth 100000 in
theorem co_M_home : (Jvm.Cond.code ({ cls := "SharerHomeModel", name := "home", desc := "(I)I" } : Jvm.MethodName) prog_6_method_29_code (3 : Nat) (Option.some Jvm.ClassFile.FieldType.int)) ∈ zB := zB_mem (List.mem_of_getElem? (i := 577) rfl) rfl
set_option maxRecDepth 100000 in
theorem ml_L_63 : (Jvm.Cond.methodLink "SharerHomeLaw" (63 : Nat) ({ cls := "SharerHomeModel", name := "memory", desc := "(I)I" } : Jvm.MethodName)) ∈ zB := zB_mem (List.mem_of_getElem? (i := 578) rfl) rfl
set_option maxRecDepth 100000 in
theorem im_M_memory : (Jvm.Cond.instanceMethod ({ cls := "SharerHomeModel", name := "memory", desc := "(I)I" } : Jvm.MethodName)) ∈ zB := zB_mem (List.mem_of_getElem? (i := 579) rfl) rfl
set_option maxRecDepth 100000 in
theorem se_M_memory : (Jvm.Cond.selects "SharerHomeModel" ({ cls := "SharerHomeModel", name := "memory", desc := "(I)I" } : Jvm.MethodName) ({ cls := "SharerHomeModel", name := "memory", desc := "(I)I" } : Jvm.MethodName)) ∈ zB := zB_mem (List.mem_of_getElem? (i := 580) rfl) rfl
set_option maxRecDepth 100000 in
theorem co_M_memory : (Jvm.Cond.code ({ cls := "SharerHomeModel", name := "memory", desc := "(I)I" } : Jvm.MethodName) prog_6_method_30_code (2 : Nat) (Option.some Jvm.ClassFile.FieldType.int)) ∈ zB := zB_mem (List.mem_of_getElem? (i := 581) rfl) rfl
set_option maxRecDepth 100000 in
theorem ml_L_68 : (Jvm.Cond.methodLink "SharerHomeLaw" (68 : Nat) ({ cls := "SharerHomeModel", name := "waits", desc := "(I)Z" } : Jvm.MethodName)) ∈ zB := zB_mem (List.mem_of_getElem? (i := 582) rfl) rfl
set_option maxRecDepth 100000 in
theorem im_M_waits : (Jvm.Cond.instanceMethod ({ cls := "SharerHomeModel", name := "waits", desc := "(I)Z" } : Jvm.MethodName)) ∈ zB := zB_mem (List.mem_of_getElem? (i := 583) rfl) rfl
set_option maxRecDepth 100000 in
theorem se_M_waits : (Jvm.Cond.selects "SharerHomeModel" ({ cls := "SharerHomeModel", name := "waits", desc := "(I)Z" } : Jvm.MethodName) ({ cls := "SharerHomeModel", name := "waits", desc := "(I)Z" } : Jvm.MethodName)) ∈ zB := zB_mem (List.mem_of_getElem? (i := 584) rfl) rfl
set_option maxRecDepth 100000 in
theorem co_M_waits : (Jvm.Cond.code ({ cls := "SharerHomeModel", name := "waits", desc := "(I)Z" } : Jvm.MethodName) prog_6_method_31_code (2 : Nat) (Option.some Jvm.ClassFile.FieldType.boolean)) ∈ zB := zB_mem (List.mem_of_getElem? (i := 585) rfl) rfl
set_option maxRecDepth 100000 in
theorem ml_L_72 : (Jvm.Cond.methodLink "SharerHomeLaw" (72 : Nat) ({ cls := "SharerHomeModel", name := "done", desc := "(I)I" } : Jvm.MethodName)) ∈ zB := zB_mem (List.mem_of_getElem? (i := 586) rfl) rfl
set_option maxRecDepth 100000 in
theorem im_M_done : (Jvm.Cond.instanceMethod ({ cls := "SharerHomeModel", name := "done", desc := "(I)I" } : Jvm.MethodName)) ∈ zB := zB_mem (List.mem_of_getElem? (i := 587) rfl) rfl
set_option maxRecDepth 100000 in
theorem se_M_done : (Jvm.Cond.selects "SharerHomeModel" ({ cls := "SharerHomeModel", name := "done", desc := "(I)I" } : Jvm.MethodName) ({ cls := "SharerHomeModel", name := "done", desc := "(I)I" } : Jvm.MethodName)) ∈ zB := zB_mem (List.mem_of_getElem? (i := 588) rfl) rfl
set_option maxRecDepth 100000 in
theorem co_M_done : (Jvm.Cond.code ({ cls := "SharerHomeModel", name := "done", desc := "(I)I" } : Jvm.MethodName) prog_6_method_32_code (2 : Nat) (Option.some Jvm.ClassFile.FieldType.int)) ∈ zB := zB_mem (List.mem_of_getElem? (i := 589) rfl) rfl
set_option maxRecDepth 100000 in
theorem ml_L_76 : (Jvm.Cond.methodLink "SharerHomeLaw" (76 : Nat) ({ cls := "SharerHomeModel", name := "result", desc := "(I)I" } : Jvm.MethodName)) ∈ zB := zB_mem (List.mem_of_getElem? (i := 590) rfl) rfl
set_option maxRecDepth 100000 in
theorem im_M_result : (Jvm.Cond.instanceMethod ({ cls := "SharerHomeModel", name := "result", desc := "(I)I" } : Jvm.MethodName)) ∈ zB := zB_mem (List.mem_of_getElem? (i := 591) rfl) rfl
set_option maxRecDepth 100000 in
theorem se_M_result : (Jvm.Cond.selects "SharerHomeModel" ({ cls := "SharerHomeModel", name := "result", desc := "(I)I" } : Jvm.MethodName) ({ cls := "SharerHomeModel", name := "result", desc := "(I)I" } : Jvm.MethodName)) ∈ zB := zB_mem (List.mem_of_getElem? (i := 592) rfl) rfl
set_option maxRecDepth 100000 in
theorem co_M_result : (Jvm.Cond.code ({ cls := "SharerHomeModel", name := "result", desc := "(I)I" } : Jvm.MethodName) prog_6_method_33_code (2 : Nat) (Option.some Jvm.ClassFile.FieldType.int)) ∈ zB := zB_mem (List.mem_of_getElem? (i := 593) rfl) rfl
set_option maxRecDepth 100000 in
theorem ml_L_80 : (Jvm.Cond.methodLink "SharerHomeLaw" (80 : Nat) ({ cls := "SharerHomeModel", name := "tally", desc := "(II)I" } : Jvm.MethodName)) ∈ zB := zB_mem (List.mem_of_getElem? (i := 594) rfl) rfl
set_option maxRecDepth 100000 in
theorem im_M_tally : (Jvm.Cond.instanceMethod ({ cls := "SharerHomeModel", name := "tally", desc := "(II)I" } : Jvm.MethodName)) ∈ zB := zB_mem (List.mem_of_getElem? (i := 595) rfl) rfl
set_option maxRecDepth 100000 in
theorem se_M_tally : (Jvm.Cond.selects "SharerHomeModel" ({ cls := "SharerHomeModel", name := "tally", desc := "(II)I" } : Jvm.MethodName) ({ cls := "SharerHomeModel", name := "tally", desc := "(II)I" } : Jvm.MethodName)) ∈ zB := zB_mem (List.mem_of_getElem? (i := 596) rfl) rfl
set_option maxRecDepth 100000 in
theorem co_M_tally : (Jvm.Cond.code ({ cls := "SharerHomeModel", name := "tally", desc := "(II)I" } : Jvm.MethodName) prog_6_method_34_code (3 : Nat) (Option.some Jvm.ClassFile.FieldType.int)) ∈ zB := zB_mem (List.mem_of_getElem? (i := 597) rfl) rfl
set_option maxRecDepth 100000 in
theorem ml_L_84 : (Jvm.Cond.methodLink "SharerHomeLaw" (84 : Nat) ({ cls := "SharerHomeModel", name := "run", desc := "(I)I" } : Jvm.MethodName)) ∈ zB := zB_mem (List.mem_of_getElem? (i := 598) rfl) rfl
set_option maxRecDepth 100000 in
theorem im_M_run : (Jvm.Cond.instanceMethod ({ cls := "SharerHomeModel", name := "run", desc := "(I)I" } : Jvm.MethodName)) ∈ zB := zB_mem (List.mem_of_getElem? (i := 599) rfl) rfl
set_option maxRecDepth 100000 in
theorem se_M_run : (Jvm.Cond.selects "SharerHomeModel" ({ cls := "SharerHomeModel", name := "run", desc := "(I)I" } : Jvm.MethodName) ({ cls := "SharerHomeModel", name := "run", desc := "(I)I" } : Jvm.MethodName)) ∈ zB := zB_mem (List.mem_of_getElem? (i := 600) rfl) rfl
set_option maxRecDepth 100000 in
theorem co_M_run : (Jvm.Cond.code ({ cls := "SharerHomeModel", name := "run", desc := "(I)I" } : Jvm.MethodName) prog_6_method_35_code (6 : Nat) (Option.some Jvm.ClassFile.FieldType.int)) ∈ zB := zB_mem (List.mem_of_getElem? (i := 601) rfl) rfl
