section
def lw_okq (q : MethodName × Nat) : Prop := (q.1.cls ≠ "java/lang/invoke/MethodHandle" ∧ q.1.cls ≠ "java/lang/invoke/VarHandle") ∧ Cond.instantiable q.1.cls q.2 ∈ tables_1 ∧ Cond.privateMethod q.1 ∈ tables_1 ∧ Cond.instanceMethod q.1 ∈ tables_1
theorem lw_p0 : lw_okq (⟨"java/lang/Throwable", "fillInStackTrace", "(I)Ljava/lang/Throwable;"⟩, 6) := ⟨⟨by decide +kernel, by decide +kernel⟩, List.mem_of_getElem? (i := 91) (by decide +kernel), List.mem_of_getElem? (i := 89) (by decide +kernel), List.mem_of_getElem? (i := 90) (by decide +kernel)⟩
theorem lw_p1 : lw_okq (⟨"WideNumbers", "calculate", "(I[J[J)V"⟩, 7) := ⟨⟨by decide +kernel, by decide +kernel⟩, List.mem_of_getElem? (i := 11) (by decide +kernel), List.mem_of_getElem? (i := 142) (by decide +kernel), List.mem_of_getElem? (i := 143) (by decide +kernel)⟩
theorem lw_p2 : lw_okq (⟨"WideNumbers", "divide", "([J[J)V"⟩, 7) := ⟨⟨by decide +kernel, by decide +kernel⟩, List.mem_of_getElem? (i := 11) (by decide +kernel), List.mem_of_getElem? (i := 158) (by decide +kernel), List.mem_of_getElem? (i := 159) (by decide +kernel)⟩
theorem lw_p3 : lw_okq (⟨"WideNumbers", "divideSizes", "([J[J)V"⟩, 7) := ⟨⟨by decide +kernel, by decide +kernel⟩, List.mem_of_getElem? (i := 11) (by decide +kernel), List.mem_of_getElem? (i := 184) (by decide +kernel), List.mem_of_getElem? (i := 185) (by decide +kernel)⟩
theorem lw_p4 : lw_okq (⟨"WideNumbers", "raise", "([J[J)V"⟩, 7) := ⟨⟨by decide +kernel, by decide +kernel⟩, List.mem_of_getElem? (i := 11) (by decide +kernel), List.mem_of_getElem? (i := 197) (by decide +kernel), List.mem_of_getElem? (i := 198) (by decide +kernel)⟩
theorem lw_p5 : lw_okq (⟨"WideNumbers", "arrangeBits", "(I[J[J)V"⟩, 7) := ⟨⟨by decide +kernel, by decide +kernel⟩, List.mem_of_getElem? (i := 11) (by decide +kernel), List.mem_of_getElem? (i := 201) (by decide +kernel), List.mem_of_getElem? (i := 202) (by decide +kernel)⟩
theorem lw_p6 : lw_okq (⟨"WideNumbers", "extendSign", "([J[J)V"⟩, 7) := ⟨⟨by decide +kernel, by decide +kernel⟩, List.mem_of_getElem? (i := 11) (by decide +kernel), List.mem_of_getElem? (i := 205) (by decide +kernel), List.mem_of_getElem? (i := 206) (by decide +kernel)⟩
theorem lw_p7 : lw_okq (⟨"WideNumbers", "pickByte", "([J[J)V"⟩, 7) := ⟨⟨by decide +kernel, by decide +kernel⟩, List.mem_of_getElem? (i := 11) (by decide +kernel), List.mem_of_getElem? (i := 224) (by decide +kernel), List.mem_of_getElem? (i := 225) (by decide +kernel)⟩
theorem lw_p8 : lw_okq (⟨"WideNumbersModel", "out", "(I)Z"⟩, 9) := ⟨⟨by decide +kernel, by decide +kernel⟩, List.mem_of_getElem? (i := 269) (by decide +kernel), List.mem_of_getElem? (i := 314) (by decide +kernel), List.mem_of_getElem? (i := 315) (by decide +kernel)⟩
theorem lw_p9 : lw_okq (⟨"WideNumbersModel", "fail", "(I)I"⟩, 9) := ⟨⟨by decide +kernel, by decide +kernel⟩, List.mem_of_getElem? (i := 269) (by decide +kernel), List.mem_of_getElem? (i := 322) (by decide +kernel), List.mem_of_getElem? (i := 323) (by decide +kernel)⟩
theorem lw_p10 : lw_okq (⟨"WideNumbersModel", "work", "(I[I[I)V"⟩, 9) := ⟨⟨by decide +kernel, by decide +kernel⟩, List.mem_of_getElem? (i := 269) (by decide +kernel), List.mem_of_getElem? (i := 334) (by decide +kernel), List.mem_of_getElem? (i := 335) (by decide +kernel)⟩
theorem lw_p11 : lw_okq (⟨"WideNumbersModel", "multiply", "([I[I)V"⟩, 9) := ⟨⟨by decide +kernel, by decide +kernel⟩, List.mem_of_getElem? (i := 269) (by decide +kernel), List.mem_of_getElem? (i := 350) (by decide +kernel), List.mem_of_getElem? (i := 351) (by decide +kernel)⟩
theorem lw_p12 : lw_okq (⟨"WideNumbersModel", "divide", "([I[I)V"⟩, 9) := ⟨⟨by decide +kernel, by decide +kernel⟩, List.mem_of_getElem? (i := 269) (by decide +kernel), List.mem_of_getElem? (i := 357) (by decide +kernel), List.mem_of_getElem? (i := 358) (by decide +kernel)⟩
theorem lw_p13 : lw_okq (⟨"WideNumbersModel", "divideWide", "([II)V"⟩, 9) := ⟨⟨by decide +kernel, by decide +kernel⟩, List.mem_of_getElem? (i := 269) (by decide +kernel), List.mem_of_getElem? (i := 361) (by decide +kernel), List.mem_of_getElem? (i := 362) (by decide +kernel)⟩
theorem lw_p14 : lw_okq (⟨"WideNumbersModel", "signed", "([I[I[IZ)V"⟩, 9) := ⟨⟨by decide +kernel, by decide +kernel⟩, List.mem_of_getElem? (i := 269) (by decide +kernel), List.mem_of_getElem? (i := 365) (by decide +kernel), List.mem_of_getElem? (i := 366) (by decide +kernel)⟩
theorem lw_p15 : lw_okq (⟨"WideNumbersModel", "below", "([I)Z"⟩, 9) := ⟨⟨by decide +kernel, by decide +kernel⟩, List.mem_of_getElem? (i := 269) (by decide +kernel), List.mem_of_getElem? (i := 369) (by decide +kernel), List.mem_of_getElem? (i := 370) (by decide +kernel)⟩
def lw_privs_1 : List (MethodName × Nat) := [(⟨"java/lang/Throwable", "fillInStackTrace", "(I)Ljava/lang/Throwable;"⟩, 6), (⟨"WideNumbers", "calculate", "(I[J[J)V"⟩, 7), (⟨"WideNumbers", "divide", "([J[J)V"⟩, 7), (⟨"WideNumbers", "divideSizes", "([J[J)V"⟩, 7), (⟨"WideNumbers", "raise", "([J[J)V"⟩, 7), (⟨"WideNumbers", "arrangeBits", "(I[J[J)V"⟩, 7), (⟨"WideNumbers", "extendSign", "([J[J)V"⟩, 7), (⟨"WideNumbers", "pickByte", "([J[J)V"⟩, 7), (⟨"WideNumbersModel", "out", "(I)Z"⟩, 9), (⟨"WideNumbersModel", "fail", "(I)I"⟩, 9), (⟨"WideNumbersModel", "work", "(I[I[I)V"⟩, 9), (⟨"WideNumbersModel", "multiply", "([I[I)V"⟩, 9), (⟨"WideNumbersModel", "divide", "([I[I)V"⟩, 9), (⟨"WideNumbersModel", "divideWide", "([II)V"⟩, 9), (⟨"WideNumbersModel", "signed", "([I[I[IZ)V"⟩, 9), (⟨"WideNumbersModel", "below", "([I)Z"⟩, 9)]
theorem lw_r1 : ∀ q ∈ lw_privs_1, lw_okq q := List.forall_mem_cons.mpr ⟨lw_p0, List.forall_mem_cons.mpr ⟨lw_p1, List.forall_mem_cons.mpr ⟨lw_p2, List.forall_mem_cons.mpr ⟨lw_p3, List.forall_mem_cons.mpr ⟨lw_p4, List.forall_mem_cons.mpr ⟨lw_p5, List.forall_mem_cons.mpr ⟨lw_p6, List.forall_mem_cons.mpr ⟨lw_p7, List.forall_mem_cons.mpr ⟨lw_p8, List.forall_mem_cons.mpr ⟨lw_p9, List.forall_mem_cons.mpr ⟨lw_p10, List.forall_mem_cons.mpr ⟨lw_p11, List.forall_mem_cons.mpr ⟨lw_p12, List.forall_mem_cons.mpr ⟨lw_p13, List.forall_mem_cons.mpr ⟨lw_p14, List.forall_mem_cons.mpr ⟨lw_p15, fun _ h => absurd h List.not_mem_nil⟩⟩⟩⟩⟩⟩⟩⟩⟩⟩⟩⟩⟩⟩⟩⟩
theorem lw_p16 : lw_okq (⟨"WideNumbersModel", "negate", "([I)V"⟩, 9) := ⟨⟨by decide +kernel, by decide +kernel⟩, List.mem_of_getElem? (i := 269) (by decide +kernel), List.mem_of_getElem? (i := 376) (by decide +kernel), List.mem_of_getElem? (i := 377) (by decide +kernel)⟩
theorem lw_p17 : lw_okq (⟨"WideNumbersModel", "power", "([I[I)V"⟩, 9) := ⟨⟨by decide +kernel, by decide +kernel⟩, List.mem_of_getElem? (i := 269) (by decide +kernel), List.mem_of_getElem? (i := 380) (by decide +kernel), List.mem_of_getElem? (i := 381) (by decide +kernel)⟩
theorem lw_p18 : lw_okq (⟨"WideNumbersModel", "extend", "([I[I)V"⟩, 9) := ⟨⟨by decide +kernel, by decide +kernel⟩, List.mem_of_getElem? (i := 269) (by decide +kernel), List.mem_of_getElem? (i := 390) (by decide +kernel), List.mem_of_getElem? (i := 391) (by decide +kernel)⟩
def lw_privs_2 : List (MethodName × Nat) := [(⟨"WideNumbersModel", "negate", "([I)V"⟩, 9), (⟨"WideNumbersModel", "power", "([I[I)V"⟩, 9), (⟨"WideNumbersModel", "extend", "([I[I)V"⟩, 9)]
theorem lw_r2 : ∀ q ∈ lw_privs_2, lw_okq q := List.forall_mem_cons.mpr ⟨lw_p16, List.forall_mem_cons.mpr ⟨lw_p17, List.forall_mem_cons.mpr ⟨lw_p18, fun _ h => absurd h List.not_mem_nil⟩⟩⟩
def lw_privs : List (MethodName × Nat) := lw_privs_1 ++ (lw_privs_2)
def lw_tbl : List Cond := k2_sels lw_privs ++ tables_1
theorem lw_privs_ok : ∀ q ∈ lw_privs, lw_okq q := by
  show ∀ q ∈ lw_privs_1 ++ (lw_privs_2), lw_okq q
  exact List.forall_mem_append.mpr ⟨lw_r1, lw_r2⟩
end
section
-- names of methods and their codes; the tables' words that every method may use
abbrev b_C_init : ByteArray := prog_1_method_1_code
def y_C_init : MethodName := ⟨"WideNumbers", "<init>", "()V"⟩
abbrev b_J_init_Object : ByteArray := object_method_1_code
def y_J_init_Object : MethodName := ⟨"java/lang/Object", "<init>", "()V"⟩
abbrev b_L_set : ByteArray := method_3_code
def y_L_set : MethodName := ⟨"WideNumbersLaw", "set", "(LWideNumbers;IJJJJ)I"⟩
abbrev b_C_set : ByteArray := prog_1_method_2_code
def y_C_set : MethodName := ⟨"WideNumbers", "set", "(IJJJJ)V"⟩
abbrev b_C_refuseOutside : ByteArray := prog_1_method_9_code
def y_C_refuseOutside : MethodName := ⟨"WideNumbers", "refuseOutside", "(II)V"⟩
abbrev b_J_init_Throwable_V : ByteArray := prog_10_method_1_code
def y_J_init_Throwable_V : MethodName := ⟨"java/lang/Throwable", "<init>", "()V"⟩
abbrev b_J_init_IllegalArgumentException : ByteArray := prog_5_method_2_code
def y_J_init_IllegalArgumentException : MethodName := ⟨"java/lang/IllegalArgumentException", "<init>", "(Ljava/lang/String;)V"⟩
abbrev b_J_init_RuntimeException : ByteArray := prog_7_method_2_code
def y_J_init_RuntimeException : MethodName := ⟨"java/lang/RuntimeException", "<init>", "(Ljava/lang/String;)V"⟩
abbrev b_J_init_Exception : ByteArray := prog_4_method_2_code
def y_J_init_Exception : MethodName := ⟨"java/lang/Exception", "<init>", "(Ljava/lang/String;)V"⟩
abbrev b_J_init_Throwable_LjavalangStringV : ByteArray := prog_10_method_2_code
def y_J_init_Throwable_LjavalangStringV : MethodName := ⟨"java/lang/Throwable", "<init>", "(Ljava/lang/String;)V"⟩
abbrev b_C_writePart : ByteArray := prog_1_method_13_code
def y_C_writePart : MethodName := ⟨"WideNumbers", "writePart", "([JIJ)V"⟩
abbrev b_C_lowLimbOfPart : ByteArray := prog_1_method_12_code
def y_C_lowLimbOfPart : MethodName := ⟨"WideNumbers", "lowLimbOfPart", "(I)I"⟩
abbrev b_L_get : ByteArray := method_4_code
def y_L_get : MethodName := ⟨"WideNumbersLaw", "get", "(LWideNumbers;II[J)I"⟩
abbrev b_C_get : ByteArray := prog_1_method_3_code
def y_C_get : MethodName := ⟨"WideNumbers", "get", "(II)J"⟩
abbrev b_L_two : ByteArray := method_5_code
def y_L_two : MethodName := ⟨"WideNumbersLaw", "two", "(LWideNumbers;IIII)I"⟩
abbrev b_C_two : ByteArray := prog_1_method_4_code
def y_C_two : MethodName := ⟨"WideNumbers", "two", "(IIII)V"⟩
abbrev b_C_calculate : ByteArray := prog_1_method_10_code
def y_C_calculate : MethodName := ⟨"WideNumbers", "calculate", "(I[J[J)V"⟩
abbrev b_C_add : ByteArray := prog_1_method_16_code
def y_C_add : MethodName := ⟨"WideNumbers", "add", "([J[J[J)J"⟩
abbrev b_C_subtract : ByteArray := prog_1_method_17_code
def y_C_subtract : MethodName := ⟨"WideNumbers", "subtract", "([J[J[J)V"⟩
abbrev b_C_multiply : ByteArray := prog_1_method_18_code
def y_C_multiply : MethodName := ⟨"WideNumbers", "multiply", "([J[J[J)V"⟩
abbrev b_J_fill_Arrays : ByteArray := prog_11_method_101_code
def y_J_fill_Arrays : MethodName := ⟨"java/util/Arrays", "fill", "([JJ)V"⟩
abbrev b_C_divide : ByteArray := prog_1_method_19_code
def y_C_divide : MethodName := ⟨"WideNumbers", "divide", "([J[J)V"⟩
abbrev b_C_usedBits : ByteArray := prog_1_method_37_code
def y_C_usedBits : MethodName := ⟨"WideNumbers", "usedBits", "([J)I"⟩
abbrev b_J_numberOfLeadingZeros_Integer : ByteArray := prog_6_method_47_code
def y_J_numberOfLeadingZeros_Integer : MethodName := ⟨"java/lang/Integer", "numberOfLeadingZeros", "(I)I"⟩
abbrev b_C_bitAt : ByteArray := prog_1_method_35_code
def y_C_bitAt : MethodName := ⟨"WideNumbers", "bitAt", "([JI)J"⟩
abbrev b_C_doubleAndAdd : ByteArray := prog_1_method_21_code
def y_C_doubleAndAdd : MethodName := ⟨"WideNumbers", "doubleAndAdd", "([JJ)J"⟩
abbrev b_C_order : ByteArray := prog_1_method_36_code
def y_C_order : MethodName := ⟨"WideNumbers", "order", "([J[J)I"⟩
abbrev b_C_copyNumber : ByteArray := prog_1_method_14_code
def y_C_copyNumber : MethodName := ⟨"WideNumbers", "copyNumber", "([J[J)V"⟩
abbrev b_C_divideSizes : ByteArray := prog_1_method_20_code
def y_C_divideSizes : MethodName := ⟨"WideNumbers", "divideSizes", "([J[J)V"⟩
abbrev b_C_isNegative : ByteArray := prog_1_method_33_code
def y_C_isNegative : MethodName := ⟨"WideNumbers", "isNegative", "([J)Z"⟩
abbrev b_C_copyWithSign : ByteArray := prog_1_method_15_code
def y_C_copyWithSign : MethodName := ⟨"WideNumbers", "copyWithSign", "([J[JZ)V"⟩
abbrev b_C_negate : ByteArray := prog_1_method_32_code
def y_C_negate : MethodName := ⟨"WideNumbers", "negate", "([J[J)V"⟩
abbrev b_C_raise : ByteArray := prog_1_method_22_code
def y_C_raise : MethodName := ⟨"WideNumbers", "raise", "([J[J)V"⟩
abbrev b_C_arrangeBits : ByteArray := prog_1_method_11_code
def y_C_arrangeBits : MethodName := ⟨"WideNumbers", "arrangeBits", "(I[J[J)V"⟩
abbrev b_C_extendSign : ByteArray := prog_1_method_23_code
def y_C_extendSign : MethodName := ⟨"WideNumbers", "extendSign", "([J[J)V"⟩
abbrev b_C_valueUpTo : ByteArray := prog_1_method_38_code
def y_C_valueUpTo : MethodName := ⟨"WideNumbers", "valueUpTo", "([JI)I"⟩
abbrev b_C_moveLeft : ByteArray := prog_1_method_24_code
def y_C_moveLeft : MethodName := ⟨"WideNumbers", "moveLeft", "([J[JI)V"⟩
abbrev b_C_limbOr : ByteArray := prog_1_method_26_code
def y_C_limbOr : MethodName := ⟨"WideNumbers", "limbOr", "([JIJ)J"⟩
abbrev b_C_limbOfSign : ByteArray := prog_1_method_34_code
def y_C_limbOfSign : MethodName := ⟨"WideNumbers", "limbOfSign", "([J)J"⟩
abbrev b_C_moveRight : ByteArray := prog_1_method_25_code
def y_C_moveRight : MethodName := ⟨"WideNumbers", "moveRight", "([J[JIJ)V"⟩
abbrev b_C_pickByte : ByteArray := prog_1_method_27_code
def y_C_pickByte : MethodName := ⟨"WideNumbers", "pickByte", "([J[J)V"⟩
abbrev b_C_and : ByteArray := prog_1_method_28_code
def y_C_and : MethodName := ⟨"WideNumbers", "and", "([J[J[J)V"⟩
abbrev b_C_or : ByteArray := prog_1_method_29_code
def y_C_or : MethodName := ⟨"WideNumbers", "or", "([J[J[J)V"⟩
abbrev b_C_exclusiveOr : ByteArray := prog_1_method_30_code
def y_C_exclusiveOr : MethodName := ⟨"WideNumbers", "exclusiveOr", "([J[J[J)V"⟩
abbrev b_L_modular : ByteArray := method_6_code
def y_L_modular : MethodName := ⟨"WideNumbersLaw", "modular", "(LWideNumbers;IIIIZ)I"⟩
abbrev b_C_modular : ByteArray := prog_1_method_5_code
def y_C_modular : MethodName := ⟨"WideNumbers", "modular", "(IIIIZ)V"⟩
abbrev b_L_turn : ByteArray := method_7_code
def y_L_turn : MethodName := ⟨"WideNumbersLaw", "turn", "(LWideNumbers;IIZ)I"⟩
abbrev b_C_turn : ByteArray := prog_1_method_6_code
def y_C_turn : MethodName := ⟨"WideNumbers", "turn", "(IIZ)V"⟩
abbrev b_C_invert : ByteArray := prog_1_method_31_code
def y_C_invert : MethodName := ⟨"WideNumbers", "invert", "([J[J)V"⟩
abbrev b_L_compare : ByteArray := method_8_code
def y_L_compare : MethodName := ⟨"WideNumbersLaw", "compare", "(LWideNumbers;IIZ[J)I"⟩
abbrev b_C_compare : ByteArray := prog_1_method_7_code
def y_C_compare : MethodName := ⟨"WideNumbers", "compare", "(IIZ)I"⟩
abbrev b_L_bytes : ByteArray := method_9_code
def y_L_bytes : MethodName := ⟨"WideNumbersLaw", "bytes", "(LWideNumbers;I[J)I"⟩
abbrev b_C_bytes : ByteArray := prog_1_method_8_code
def y_C_bytes : MethodName := ⟨"WideNumbers", "bytes", "(I)I"⟩
abbrev b_M_init : ByteArray := prog_3_method_1_code
def y_M_init : MethodName := ⟨"WideNumbersModel", "<init>", "()V"⟩
abbrev b_M_thrown : ByteArray := prog_3_method_2_code
def y_M_thrown : MethodName := ⟨"WideNumbersModel", "thrown", "()I"⟩
abbrev b_M_set_IJJJJV : ByteArray := prog_3_method_25_code
def y_M_set_IJJJJV : MethodName := ⟨"WideNumbersModel", "set", "(IJJJJ)V"⟩
abbrev b_M_out : ByteArray := prog_3_method_24_code
def y_M_out : MethodName := ⟨"WideNumbersModel", "out", "(I)Z"⟩
abbrev b_M_get : ByteArray := prog_3_method_26_code
def y_M_get : MethodName := ⟨"WideNumbersModel", "get", "(II)J"⟩
abbrev b_M_fail : ByteArray := prog_3_method_3_code
def y_M_fail : MethodName := ⟨"WideNumbersModel", "fail", "(I)I"⟩
abbrev b_M_part : ByteArray := prog_3_method_19_code
def y_M_part : MethodName := ⟨"WideNumbersModel", "part", "([II)J"⟩
abbrev b_M_two : ByteArray := prog_3_method_27_code
def y_M_two : MethodName := ⟨"WideNumbersModel", "two", "(IIII)V"⟩
abbrev b_M_work : ByteArray := prog_3_method_28_code
def y_M_work : MethodName := ⟨"WideNumbersModel", "work", "(I[I[I)V"⟩
abbrev b_M_zero : ByteArray := prog_3_method_6_code
def y_M_zero : MethodName := ⟨"WideNumbersModel", "zero", "([I)Z"⟩
abbrev b_M_clear : ByteArray := prog_3_method_4_code
def y_M_clear : MethodName := ⟨"WideNumbersModel", "clear", "([I)V"⟩
abbrev b_M_add : ByteArray := prog_3_method_10_code
def y_M_add : MethodName := ⟨"WideNumbersModel", "add", "([I[I[I)I"⟩
abbrev b_M_subtract : ByteArray := prog_3_method_11_code
def y_M_subtract : MethodName := ⟨"WideNumbersModel", "subtract", "([I[I[I)V"⟩
abbrev b_M_multiply : ByteArray := prog_3_method_14_code
def y_M_multiply : MethodName := ⟨"WideNumbersModel", "multiply", "([I[I)V"⟩
abbrev b_M_take : ByteArray := prog_3_method_17_code
def y_M_take : MethodName := ⟨"WideNumbersModel", "take", "([I[I)V"⟩
abbrev b_M_divide : ByteArray := prog_3_method_16_code
def y_M_divide : MethodName := ⟨"WideNumbersModel", "divide", "([I[I)V"⟩
abbrev b_M_divideWide : ByteArray := prog_3_method_15_code
def y_M_divideWide : MethodName := ⟨"WideNumbersModel", "divideWide", "([II)V"⟩
abbrev b_M_signed : ByteArray := prog_3_method_21_code
def y_M_signed : MethodName := ⟨"WideNumbersModel", "signed", "([I[I[IZ)V"⟩
abbrev b_M_below : ByteArray := prog_3_method_20_code
def y_M_below : MethodName := ⟨"WideNumbersModel", "below", "([I)Z"⟩
abbrev b_M_copy : ByteArray := prog_3_method_5_code
def y_M_copy : MethodName := ⟨"WideNumbersModel", "copy", "([I[I)V"⟩
abbrev b_M_negate : ByteArray := prog_3_method_12_code
def y_M_negate : MethodName := ⟨"WideNumbersModel", "negate", "([I)V"⟩
abbrev b_M_power : ByteArray := prog_3_method_22_code
def y_M_power : MethodName := ⟨"WideNumbersModel", "power", "([I[I)V"⟩
abbrev b_M_set_IJV : ByteArray := prog_3_method_9_code
def y_M_set_IJV : MethodName := ⟨"WideNumbersModel", "set", "([IJ)V"⟩
abbrev b_M_bit : ByteArray := prog_3_method_13_code
def y_M_bit : MethodName := ⟨"WideNumbersModel", "bit", "([II)I"⟩
abbrev b_M_extend : ByteArray := prog_3_method_23_code
def y_M_extend : MethodName := ⟨"WideNumbersModel", "extend", "([I[I)V"⟩
abbrev b_M_small : ByteArray := prog_3_method_18_code
def y_M_small : MethodName := ⟨"WideNumbersModel", "small", "([IJ)J"⟩
abbrev b_M_modular : ByteArray := prog_3_method_29_code
def y_M_modular : MethodName := ⟨"WideNumbersModel", "modular", "(IIIIZ)V"⟩
abbrev b_M_turn : ByteArray := prog_3_method_30_code
def y_M_turn : MethodName := ⟨"WideNumbersModel", "turn", "(IIZ)V"⟩
abbrev b_M_compare : ByteArray := prog_3_method_31_code
def y_M_compare : MethodName := ⟨"WideNumbersModel", "compare", "(IIZ)I"⟩
abbrev b_M_less : ByteArray := prog_3_method_8_code
def y_M_less : MethodName := ⟨"WideNumbersModel", "less", "([I[I)Z"⟩
abbrev b_M_bytes : ByteArray := prog_3_method_32_code
def y_M_bytes : MethodName := ⟨"WideNumbersModel", "bytes", "(I)I"⟩
abbrev b_L_law : ByteArray := code
def y_L_law : MethodName := ⟨"WideNumbersLaw", "law", "([I)Z"⟩
def F_C : u_T := fun k => match k with
  | 0 => ("WideNumbers", "registers", "[[J", true)
  | 1 => ("WideNumbers", "result", "[J", true)
  | 2 => ("WideNumbers", "first", "[J", true)
  | 3 => ("WideNumbers", "second", "[J", true)
  | 4 => ("WideNumbers", "whole", "[J", true)
  | 5 => ("WideNumbers", "quotient", "[J", true)
  | _ => ("WideNumbers", "remainder", "[J", true)
def t_C : Nat → FieldType := fun k => match k with
  | 0 => .array (.array .long)
  | 1 => .array .long
  | 2 => .array .long
  | 3 => .array .long
  | 4 => .array .long
  | 5 => .array .long
  | _ => .array .long
theorem n_C : ∀ a, a < 7 → ∀ b, b < 7 → a ≠ b → (F_C a).2.1 ≠ (F_C b).2.1 := by decide +kernel
theorem t_C_ok : ∀ k, k < 7 → parseFieldDescriptor (F_C k).2.2.1 = some (t_C k) := by decide +kernel
def F_M : u_T := fun k => match k with
  | 0 => ("WideNumbersModel", "failed", "I", false)
  | 1 => ("WideNumbersModel", "registers", "[[I", true)
  | 2 => ("WideNumbersModel", "x", "[I", true)
  | 3 => ("WideNumbersModel", "y", "[I", true)
  | 4 => ("WideNumbersModel", "z", "[I", true)
  | 5 => ("WideNumbersModel", "none", "[I", true)
  | 6 => ("WideNumbersModel", "wide", "[I", true)
  | 7 => ("WideNumbersModel", "quotient", "[I", true)
  | _ => ("WideNumbersModel", "rest", "[I", true)
def t_M : Nat → FieldType := fun k => match k with
  | 0 => .int
  | 1 => .array (.array .int)
  | 2 => .array .int
  | 3 => .array .int
  | 4 => .array .int
  | 5 => .array .int
  | 6 => .array .int
  | 7 => .array .int
  | _ => .array .int
theorem n_M : ∀ a, a < 9 → ∀ b, b < 9 → a ≠ b → (F_M a).2.1 ≠ (F_M b).2.1 := by decide +kernel
theorem t_M_ok : ∀ k, k < 9 → parseFieldDescriptor (F_M k).2.2.1 = some (t_M k) := by decide +kernel
abbrev vwCl : List vw_C := [("WideNumbers", F_C, 7), ("WideNumbersModel", F_M, 9)]
def WT : List Cond := lw_tbl.filter goodWord
theorem kw_of {w : Cond} (i : Nat) (h : tables_1[i]? = some w) (hg : goodWord w = true) : w ∈ WT := List.mem_filter.mpr ⟨List.mem_append_right _ (List.mem_of_getElem? h), hg⟩
theorem ks_of {w : Cond} (i : Nat) (h : (k2_sels lw_privs)[i]? = some w) (hg : goodWord w = true) : w ∈ WT := List.mem_filter.mpr ⟨List.mem_append_left _ (List.mem_of_getElem? h), hg⟩
theorem gdL {c : Cond} (h : c ∈ WT) : GoodIn WT (c :: WT) := fun w hw => by
  have hw2 : w ∈ WT := (List.mem_cons.mp hw).elim (fun e => e ▸ h) id
  exact ⟨hw2, good_of_word (List.mem_filter.mp hw2).2⟩
theorem kw_0 : (Cond.initialized "WideNumbersLaw") ∈ WT := kw_of 0 (by decide +kernel) (by decide +kernel)
theorem kw_1 : (Cond.initialized "WideNumbers") ∈ WT := kw_of 1 (by decide +kernel) (by decide +kernel)
theorem kw_2 : (Cond.initialized "WideNumbersModel") ∈ WT := kw_of 2 (by decide +kernel) (by decide +kernel)
theorem kw_3 : (Cond.initialized "java/lang/Throwable") ∈ WT := kw_of 3 (by decide +kernel) (by decide +kernel)
theorem kw_4 : (Cond.initialized "java/lang/Exception") ∈ WT := kw_of 4 (by decide +kernel) (by decide +kernel)
theorem kw_5 : (Cond.initialized "java/lang/RuntimeException") ∈ WT := kw_of 5 (by decide +kernel) (by decide +kernel)
theorem kw_6 : (Cond.initialized "java/lang/IllegalArgumentException") ∈ WT := kw_of 6 (by decide +kernel) (by decide +kernel)
theorem kw_7 : (Cond.initialized "java/util/Arrays") ∈ WT := kw_of 7 (by decide +kernel) (by decide +kernel)
theorem kw_8 : (Cond.initialized "java/lang/Integer") ∈ WT := kw_of 8 (by decide +kernel) (by decide +kernel)
theorem kw_9 : (Cond.initialized "java/lang/System") ∈ WT := kw_of 9 (by decide +kernel) (by decide +kernel)
theorem kw_10 : (Cond.classLink "WideNumbersLaw" 8 "WideNumbers") ∈ WT := kw_of 10 (by decide +kernel) (by decide +kernel)
theorem kw_11 : (Cond.instantiable "WideNumbers" 7) ∈ WT := kw_of 11 (by decide +kernel) (by decide +kernel)
theorem kw_12 : (Cond.methodLink "WideNumbersLaw" 39 y_C_init) ∈ WT := kw_of 12 (by decide +kernel) (by decide +kernel)
theorem kw_13 : (Cond.instanceMethod y_C_init) ∈ WT := kw_of 13 (by decide +kernel) (by decide +kernel)
theorem kw_14 : (Cond.code y_C_init b_C_init 1 none) ∈ WT := kw_of 14 (by decide +kernel) (by decide +kernel)
theorem kw_15 : (Cond.methodLink "WideNumbers" 1 y_J_init_Object) ∈ WT := kw_of 15 (by decide +kernel) (by decide +kernel)
theorem kw_16 : (Cond.instanceMethod y_J_init_Object) ∈ WT := kw_of 16 (by decide +kernel) (by decide +kernel)
theorem kw_17 : (Cond.code y_J_init_Object b_J_init_Object 1 none) ∈ WT := kw_of 17 (by decide +kernel) (by decide +kernel)
theorem kw_18 : (Cond.classLink "WideNumbers" 9 "[[J") ∈ WT := kw_of 18 (by decide +kernel) (by decide +kernel)
theorem kw_20 : (Cond.fieldLink "WideNumbers" 11 "WideNumbers" "registers" "[[J") ∈ WT := kw_of 20 (by decide +kernel) (by decide +kernel)
theorem kw_21 : (Cond.fieldLink "WideNumbers" 14 "WideNumbers" "result" "[J") ∈ WT := kw_of 21 (by decide +kernel) (by decide +kernel)
theorem kw_22 : (Cond.fieldLink "WideNumbers" 18 "WideNumbers" "first" "[J") ∈ WT := kw_of 22 (by decide +kernel) (by decide +kernel)
theorem kw_23 : (Cond.fieldLink "WideNumbers" 21 "WideNumbers" "second" "[J") ∈ WT := kw_of 23 (by decide +kernel) (by decide +kernel)
theorem kw_24 : (Cond.fieldLink "WideNumbers" 24 "WideNumbers" "whole" "[J") ∈ WT := kw_of 24 (by decide +kernel) (by decide +kernel)
theorem kw_25 : (Cond.fieldLink "WideNumbers" 27 "WideNumbers" "quotient" "[J") ∈ WT := kw_of 25 (by decide +kernel) (by decide +kernel)
theorem kw_26 : (Cond.fieldLink "WideNumbers" 30 "WideNumbers" "remainder" "[J") ∈ WT := kw_of 26 (by decide +kernel) (by decide +kernel)
theorem kw_27 : (Cond.laysFinal "WideNumbers" "WideNumbers" "registers" "[[J") ∈ WT := kw_of 27 (by decide +kernel) (by decide +kernel)
theorem kw_28 : (Cond.soleField "WideNumbers" "registers") ∈ WT := kw_of 28 (by decide +kernel) (by decide +kernel)
theorem kw_29 : (Cond.laysFinal "WideNumbers" "WideNumbers" "result" "[J") ∈ WT := kw_of 29 (by decide +kernel) (by decide +kernel)
theorem kw_30 : (Cond.soleField "WideNumbers" "result") ∈ WT := kw_of 30 (by decide +kernel) (by decide +kernel)
theorem kw_31 : (Cond.laysFinal "WideNumbers" "WideNumbers" "first" "[J") ∈ WT := kw_of 31 (by decide +kernel) (by decide +kernel)
theorem kw_32 : (Cond.soleField "WideNumbers" "first") ∈ WT := kw_of 32 (by decide +kernel) (by decide +kernel)
theorem kw_33 : (Cond.laysFinal "WideNumbers" "WideNumbers" "second" "[J") ∈ WT := kw_of 33 (by decide +kernel) (by decide +kernel)
theorem kw_34 : (Cond.soleField "WideNumbers" "second") ∈ WT := kw_of 34 (by decide +kernel) (by decide +kernel)
theorem kw_35 : (Cond.laysFinal "WideNumbers" "WideNumbers" "whole" "[J") ∈ WT := kw_of 35 (by decide +kernel) (by decide +kernel)
theorem kw_36 : (Cond.soleField "WideNumbers" "whole") ∈ WT := kw_of 36 (by decide +kernel) (by decide +kernel)
theorem kw_37 : (Cond.laysFinal "WideNumbers" "WideNumbers" "quotient" "[J") ∈ WT := kw_of 37 (by decide +kernel) (by decide +kernel)
theorem kw_38 : (Cond.soleField "WideNumbers" "quotient") ∈ WT := kw_of 38 (by decide +kernel) (by decide +kernel)
theorem kw_39 : (Cond.laysFinal "WideNumbers" "WideNumbers" "remainder" "[J") ∈ WT := kw_of 39 (by decide +kernel) (by decide +kernel)
theorem kw_40 : (Cond.soleField "WideNumbers" "remainder") ∈ WT := kw_of 40 (by decide +kernel) (by decide +kernel)
theorem kw_41 : (Cond.superclass "WideNumbers" "java/lang/Object") ∈ WT := kw_of 41 (by decide +kernel) (by decide +kernel)
theorem kw_42 : (Cond.arrayClass FieldType.long) ∈ WT := kw_of 42 (by decide +kernel) (by decide +kernel)
theorem kw_43 : (Cond.methodLink "WideNumbersLaw" 45 y_L_set) ∈ WT := kw_of 43 (by decide +kernel) (by decide +kernel)
theorem kw_44 : (Cond.static y_L_set) ∈ WT := kw_of 44 (by decide +kernel) (by decide +kernel)
theorem kw_45 : (Cond.codeWith y_L_set b_L_set 11 (some FieldType.int) [(0, 12, 15, 13)]) ∈ WT := kw_of 45 (by decide +kernel) (by decide +kernel)
theorem kw_46 : (Cond.classLink "WideNumbersLaw" 13 "java/lang/IllegalArgumentException") ∈ WT := kw_of 46 (by decide +kernel) (by decide +kernel)
theorem kw_47 : (Cond.methodLink "WideNumbersLaw" 7 y_C_set) ∈ WT := kw_of 47 (by decide +kernel) (by decide +kernel)
theorem kw_48 : (Cond.instanceMethod y_C_set) ∈ WT := kw_of 48 (by decide +kernel) (by decide +kernel)
theorem kw_49 : (Cond.selects "WideNumbers" y_C_set y_C_set) ∈ WT := kw_of 49 (by decide +kernel) (by decide +kernel)
theorem kw_50 : (Cond.code y_C_set b_C_set 10 none) ∈ WT := kw_of 50 (by decide +kernel) (by decide +kernel)
theorem kw_51 : (Cond.methodLink "WideNumbers" 33 y_C_refuseOutside) ∈ WT := kw_of 51 (by decide +kernel) (by decide +kernel)
theorem kw_52 : (Cond.static y_C_refuseOutside) ∈ WT := kw_of 52 (by decide +kernel) (by decide +kernel)
theorem kw_53 : (Cond.code y_C_refuseOutside b_C_refuseOutside 2 none) ∈ WT := kw_of 53 (by decide +kernel) (by decide +kernel)
theorem kw_54 : (Cond.classLink "WideNumbers" 91 "java/lang/IllegalArgumentException") ∈ WT := kw_of 54 (by decide +kernel) (by decide +kernel)
theorem kw_55 : (Cond.instantiable "java/lang/IllegalArgumentException" 6) ∈ WT := kw_of 55 (by decide +kernel) (by decide +kernel)
theorem kw_63 : (Cond.selects "java/lang/IllegalArgumentException" ⟨"java/lang/Throwable", "fillInStackTrace", "(I)Ljava/lang/Throwable;"⟩ ⟨"java/lang/Throwable", "fillInStackTrace", "(I)Ljava/lang/Throwable;"⟩) ∈ WT := kw_of 63 (by decide +kernel) (by decide +kernel)
theorem kw_64 : (Cond.selects "java/lang/IllegalArgumentException" ⟨"java/lang/Throwable", "fillInStackTrace", "()Ljava/lang/Throwable;"⟩ ⟨"java/lang/Throwable", "fillInStackTrace", "()Ljava/lang/Throwable;"⟩) ∈ WT := kw_of 64 (by decide +kernel) (by decide +kernel)
theorem kw_65 : (Cond.lays "java/lang/IllegalArgumentException" "java/lang/Throwable" "cause" "Ljava/lang/Throwable;") ∈ WT := kw_of 65 (by decide +kernel) (by decide +kernel)
theorem kw_66 : (Cond.lays "java/lang/Throwable" "java/lang/Throwable" "cause" "Ljava/lang/Throwable;") ∈ WT := kw_of 66 (by decide +kernel) (by decide +kernel)
theorem kw_67 : (Cond.lays "java/lang/IllegalArgumentException" "java/lang/Throwable" "stackTrace" "[Ljava/lang/StackTraceElement;") ∈ WT := kw_of 67 (by decide +kernel) (by decide +kernel)
theorem kw_68 : (Cond.lays "java/lang/Throwable" "java/lang/Throwable" "stackTrace" "[Ljava/lang/StackTraceElement;") ∈ WT := kw_of 68 (by decide +kernel) (by decide +kernel)
theorem kw_69 : (Cond.lays "java/lang/IllegalArgumentException" "java/lang/Throwable" "suppressedExceptions" "Ljava/util/List;") ∈ WT := kw_of 69 (by decide +kernel) (by decide +kernel)
theorem kw_70 : (Cond.lays "java/lang/Throwable" "java/lang/Throwable" "suppressedExceptions" "Ljava/util/List;") ∈ WT := kw_of 70 (by decide +kernel) (by decide +kernel)
theorem kw_71 : (Cond.lays "java/lang/IllegalArgumentException" "java/lang/Throwable" "detailMessage" "Ljava/lang/String;") ∈ WT := kw_of 71 (by decide +kernel) (by decide +kernel)
theorem kw_72 : (Cond.lays "java/lang/Throwable" "java/lang/Throwable" "detailMessage" "Ljava/lang/String;") ∈ WT := kw_of 72 (by decide +kernel) (by decide +kernel)
theorem kw_73 : (Cond.lays "java/lang/IllegalArgumentException" "java/lang/Throwable" "backtrace" "Ljava/lang/Object;") ∈ WT := kw_of 73 (by decide +kernel) (by decide +kernel)
theorem kw_74 : (Cond.lays "java/lang/Throwable" "java/lang/Throwable" "backtrace" "Ljava/lang/Object;") ∈ WT := kw_of 74 (by decide +kernel) (by decide +kernel)
theorem kw_75 : (Cond.fieldLink "java/lang/Throwable" 198 "java/lang/Throwable" "backtrace" "Ljava/lang/Object;") ∈ WT := kw_of 75 (by decide +kernel) (by decide +kernel)
theorem kw_76 : (Cond.superclass "java/lang/Throwable" "java/lang/Object") ∈ WT := kw_of 76 (by decide +kernel) (by decide +kernel)
theorem kw_77 : (Cond.instanceMethod y_J_init_Throwable_V) ∈ WT := kw_of 77 (by decide +kernel) (by decide +kernel)
theorem kw_78 : (Cond.code y_J_init_Throwable_V b_J_init_Throwable_V 1 none) ∈ WT := kw_of 78 (by decide +kernel) (by decide +kernel)
theorem kw_79 : (Cond.methodLink "java/lang/Throwable" 1 y_J_init_Object) ∈ WT := kw_of 79 (by decide +kernel) (by decide +kernel)
theorem kw_80 : (Cond.fieldLink "java/lang/Throwable" 13 "java/lang/Throwable" "UNASSIGNED_STACK" "[Ljava/lang/StackTraceElement;") ∈ WT := kw_of 80 (by decide +kernel) (by decide +kernel)
theorem kw_82 : (Cond.fieldLink "java/lang/Throwable" 20 "java/lang/Throwable" "SUPPRESSED_SENTINEL" "Ljava/util/List;") ∈ WT := kw_of 82 (by decide +kernel) (by decide +kernel)
theorem kw_84 : (Cond.methodLink "java/lang/Throwable" 27 ⟨"java/lang/Throwable", "fillInStackTrace", "()Ljava/lang/Throwable;"⟩) ∈ WT := kw_of 84 (by decide +kernel) (by decide +kernel)
theorem kw_85 : (Cond.instanceMethod ⟨"java/lang/Throwable", "fillInStackTrace", "()Ljava/lang/Throwable;"⟩) ∈ WT := kw_of 85 (by decide +kernel) (by decide +kernel)
theorem kw_86 : (Cond.sameMethod "java/lang/Throwable" "java/lang/Throwable" "fillInStackTrace" "()Ljava/lang/Throwable;") ∈ WT := kw_of 86 (by decide +kernel) (by decide +kernel)
theorem kw_87 : (Cond.codeSync ⟨"java/lang/Throwable", "fillInStackTrace", "()Ljava/lang/Throwable;"⟩ prog_10_method_18_code 1 (some (FieldType.object "java/lang/Throwable"))) ∈ WT := kw_of 87 (by decide +kernel) (by decide +kernel)
theorem kw_88 : (Cond.methodLink "java/lang/Throwable" 202 ⟨"java/lang/Throwable", "fillInStackTrace", "(I)Ljava/lang/Throwable;"⟩) ∈ WT := kw_of 88 (by decide +kernel) (by decide +kernel)
theorem kw_90 : (Cond.instanceMethod ⟨"java/lang/Throwable", "fillInStackTrace", "(I)Ljava/lang/Throwable;"⟩) ∈ WT := kw_of 90 (by decide +kernel) (by decide +kernel)
theorem kw_91 : (Cond.instantiable "java/lang/Throwable" 6) ∈ WT := kw_of 91 (by decide +kernel) (by decide +kernel)
theorem kw_92 : (Cond.native ⟨"java/lang/Throwable", "fillInStackTrace", "(I)Ljava/lang/Throwable;"⟩) ∈ WT := kw_of 92 (by decide +kernel) (by decide +kernel)
theorem kw_94 : (Cond.methodLink "WideNumbers" 95 y_J_init_IllegalArgumentException) ∈ WT := kw_of 94 (by decide +kernel) (by decide +kernel)
theorem kw_95 : (Cond.instanceMethod y_J_init_IllegalArgumentException) ∈ WT := kw_of 95 (by decide +kernel) (by decide +kernel)
theorem kw_96 : (Cond.code y_J_init_IllegalArgumentException b_J_init_IllegalArgumentException 2 none) ∈ WT := kw_of 96 (by decide +kernel) (by decide +kernel)
theorem kw_97 : (Cond.methodLink "java/lang/IllegalArgumentException" 7 y_J_init_RuntimeException) ∈ WT := kw_of 97 (by decide +kernel) (by decide +kernel)
theorem kw_98 : (Cond.instanceMethod y_J_init_RuntimeException) ∈ WT := kw_of 98 (by decide +kernel) (by decide +kernel)
theorem kw_99 : (Cond.code y_J_init_RuntimeException b_J_init_RuntimeException 2 none) ∈ WT := kw_of 99 (by decide +kernel) (by decide +kernel)
theorem kw_100 : (Cond.methodLink "java/lang/RuntimeException" 7 y_J_init_Exception) ∈ WT := kw_of 100 (by decide +kernel) (by decide +kernel)
theorem kw_101 : (Cond.instanceMethod y_J_init_Exception) ∈ WT := kw_of 101 (by decide +kernel) (by decide +kernel)
theorem kw_102 : (Cond.code y_J_init_Exception b_J_init_Exception 2 none) ∈ WT := kw_of 102 (by decide +kernel) (by decide +kernel)
theorem kw_103 : (Cond.methodLink "java/lang/Exception" 7 y_J_init_Throwable_LjavalangStringV) ∈ WT := kw_of 103 (by decide +kernel) (by decide +kernel)
theorem kw_104 : (Cond.instanceMethod y_J_init_Throwable_LjavalangStringV) ∈ WT := kw_of 104 (by decide +kernel) (by decide +kernel)
theorem kw_105 : (Cond.code y_J_init_Throwable_LjavalangStringV b_J_init_Throwable_LjavalangStringV 2 none) ∈ WT := kw_of 105 (by decide +kernel) (by decide +kernel)
theorem kw_106 : (Cond.fieldLink "java/lang/Throwable" 198 "java/lang/Throwable" "backtrace" "Ljava/lang/Object;") ∈ WT := kw_of 106 (by decide +kernel) (by decide +kernel)
theorem kw_107 : (Cond.fieldLink "java/lang/Throwable" 31 "java/lang/Throwable" "detailMessage" "Ljava/lang/String;") ∈ WT := kw_of 107 (by decide +kernel) (by decide +kernel)
theorem kw_108 : (Cond.fieldLink "java/lang/Throwable" 7 "java/lang/Throwable" "cause" "Ljava/lang/Throwable;") ∈ WT := kw_of 108 (by decide +kernel) (by decide +kernel)
theorem kw_109 : (Cond.fieldLink "java/lang/Throwable" 17 "java/lang/Throwable" "stackTrace" "[Ljava/lang/StackTraceElement;") ∈ WT := kw_of 109 (by decide +kernel) (by decide +kernel)
theorem kw_110 : (Cond.fieldLink "java/lang/Throwable" 24 "java/lang/Throwable" "suppressedExceptions" "Ljava/util/List;") ∈ WT := kw_of 110 (by decide +kernel) (by decide +kernel)
theorem kw_111 : (Cond.soleField "java/lang/Throwable" "backtrace") ∈ WT := kw_of 111 (by decide +kernel) (by decide +kernel)
theorem kw_112 : (Cond.soleField "java/lang/Throwable" "detailMessage") ∈ WT := kw_of 112 (by decide +kernel) (by decide +kernel)
theorem kw_113 : (Cond.soleField "java/lang/Throwable" "cause") ∈ WT := kw_of 113 (by decide +kernel) (by decide +kernel)
theorem kw_114 : (Cond.soleField "java/lang/Throwable" "stackTrace") ∈ WT := kw_of 114 (by decide +kernel) (by decide +kernel)
theorem kw_115 : (Cond.lays "java/lang/IllegalArgumentException" "java/lang/Throwable" "depth" "I") ∈ WT := kw_of 115 (by decide +kernel) (by decide +kernel)
theorem kw_116 : (Cond.soleField "java/lang/Throwable" "depth") ∈ WT := kw_of 116 (by decide +kernel) (by decide +kernel)
theorem kw_117 : (Cond.soleField "java/lang/Throwable" "suppressedExceptions") ∈ WT := kw_of 117 (by decide +kernel) (by decide +kernel)
theorem kw_118 : (Cond.superclass "java/lang/IllegalArgumentException" "java/lang/RuntimeException") ∈ WT := kw_of 118 (by decide +kernel) (by decide +kernel)
theorem kw_119 : (Cond.arrayClass FieldType.byte) ∈ WT := kw_of 119 (by decide +kernel) (by decide +kernel)
theorem kw_120 : (Cond.methodLink "WideNumbers" 37 y_C_writePart) ∈ WT := kw_of 120 (by decide +kernel) (by decide +kernel)
theorem kw_121 : (Cond.static y_C_writePart) ∈ WT := kw_of 121 (by decide +kernel) (by decide +kernel)
theorem kw_122 : (Cond.code y_C_writePart b_C_writePart 5 none) ∈ WT := kw_of 122 (by decide +kernel) (by decide +kernel)
theorem kw_123 : (Cond.methodLink "WideNumbers" 41 y_C_lowLimbOfPart) ∈ WT := kw_of 123 (by decide +kernel) (by decide +kernel)
theorem kw_124 : (Cond.static y_C_lowLimbOfPart) ∈ WT := kw_of 124 (by decide +kernel) (by decide +kernel)
theorem kw_125 : (Cond.code y_C_lowLimbOfPart b_C_lowLimbOfPart 1 (some FieldType.int)) ∈ WT := kw_of 125 (by decide +kernel) (by decide +kernel)
theorem kw_126 : (Cond.constantLong "WideNumbers" 142 (4294967295 : Int64)) ∈ WT := kw_of 126 (by decide +kernel) (by decide +kernel)
theorem kw_127 : (Cond.methodLink "WideNumbersLaw" 55 y_L_get) ∈ WT := kw_of 127 (by decide +kernel) (by decide +kernel)
theorem kw_128 : (Cond.static y_L_get) ∈ WT := kw_of 128 (by decide +kernel) (by decide +kernel)
theorem kw_129 : (Cond.codeWith y_L_get b_L_get 5 (some FieldType.int) [(0, 9, 12, 13)]) ∈ WT := kw_of 129 (by decide +kernel) (by decide +kernel)
theorem kw_130 : (Cond.methodLink "WideNumbersLaw" 15 y_C_get) ∈ WT := kw_of 130 (by decide +kernel) (by decide +kernel)
theorem kw_131 : (Cond.instanceMethod y_C_get) ∈ WT := kw_of 131 (by decide +kernel) (by decide +kernel)
theorem kw_132 : (Cond.selects "WideNumbers" y_C_get y_C_get) ∈ WT := kw_of 132 (by decide +kernel) (by decide +kernel)
theorem kw_133 : (Cond.code y_C_get b_C_get 4 (some FieldType.long)) ∈ WT := kw_of 133 (by decide +kernel) (by decide +kernel)
theorem kw_134 : (Cond.methodLink "WideNumbersLaw" 59 y_L_two) ∈ WT := kw_of 134 (by decide +kernel) (by decide +kernel)
theorem kw_135 : (Cond.static y_L_two) ∈ WT := kw_of 135 (by decide +kernel) (by decide +kernel)
theorem kw_136 : (Cond.codeWith y_L_two b_L_two 6 (some FieldType.int) [(0, 9, 12, 13)]) ∈ WT := kw_of 136 (by decide +kernel) (by decide +kernel)
theorem kw_137 : (Cond.methodLink "WideNumbersLaw" 19 y_C_two) ∈ WT := kw_of 137 (by decide +kernel) (by decide +kernel)
theorem kw_138 : (Cond.instanceMethod y_C_two) ∈ WT := kw_of 138 (by decide +kernel) (by decide +kernel)
theorem kw_139 : (Cond.selects "WideNumbers" y_C_two y_C_two) ∈ WT := kw_of 139 (by decide +kernel) (by decide +kernel)
theorem kw_140 : (Cond.code y_C_two b_C_two 5 none) ∈ WT := kw_of 140 (by decide +kernel) (by decide +kernel)
theorem kw_141 : (Cond.methodLink "WideNumbers" 45 y_C_calculate) ∈ WT := kw_of 141 (by decide +kernel) (by decide +kernel)
theorem kw_143 : (Cond.instanceMethod y_C_calculate) ∈ WT := kw_of 143 (by decide +kernel) (by decide +kernel)
theorem kw_144 : (Cond.code y_C_calculate b_C_calculate 4 none) ∈ WT := kw_of 144 (by decide +kernel) (by decide +kernel)
theorem kw_145 : (Cond.methodLink "WideNumbers" 66 y_C_add) ∈ WT := kw_of 145 (by decide +kernel) (by decide +kernel)
theorem kw_146 : (Cond.static y_C_add) ∈ WT := kw_of 146 (by decide +kernel) (by decide +kernel)
theorem kw_147 : (Cond.code y_C_add b_C_add 8 (some FieldType.long)) ∈ WT := kw_of 147 (by decide +kernel) (by decide +kernel)
theorem kw_148 : (Cond.methodLink "WideNumbers" 98 y_C_subtract) ∈ WT := kw_of 148 (by decide +kernel) (by decide +kernel)
theorem kw_149 : (Cond.static y_C_subtract) ∈ WT := kw_of 149 (by decide +kernel) (by decide +kernel)
theorem kw_150 : (Cond.code y_C_subtract b_C_subtract 8 none) ∈ WT := kw_of 150 (by decide +kernel) (by decide +kernel)
theorem kw_151 : (Cond.methodLink "WideNumbers" 56 y_C_multiply) ∈ WT := kw_of 151 (by decide +kernel) (by decide +kernel)
theorem kw_152 : (Cond.static y_C_multiply) ∈ WT := kw_of 152 (by decide +kernel) (by decide +kernel)
theorem kw_153 : (Cond.code y_C_multiply b_C_multiply 9 none) ∈ WT := kw_of 153 (by decide +kernel) (by decide +kernel)
theorem kw_154 : (Cond.methodLink "WideNumbers" 60 y_J_fill_Arrays) ∈ WT := kw_of 154 (by decide +kernel) (by decide +kernel)
theorem kw_155 : (Cond.static y_J_fill_Arrays) ∈ WT := kw_of 155 (by decide +kernel) (by decide +kernel)
theorem kw_156 : (Cond.code y_J_fill_Arrays b_J_fill_Arrays 5 none) ∈ WT := kw_of 156 (by decide +kernel) (by decide +kernel)
theorem kw_157 : (Cond.methodLink "WideNumbers" 70 y_C_divide) ∈ WT := kw_of 157 (by decide +kernel) (by decide +kernel)
theorem kw_159 : (Cond.instanceMethod y_C_divide) ∈ WT := kw_of 159 (by decide +kernel) (by decide +kernel)
theorem kw_160 : (Cond.code y_C_divide b_C_divide 6 none) ∈ WT := kw_of 160 (by decide +kernel) (by decide +kernel)
theorem kw_161 : (Cond.methodLink "WideNumbers" 87 y_C_usedBits) ∈ WT := kw_of 161 (by decide +kernel) (by decide +kernel)
theorem kw_162 : (Cond.static y_C_usedBits) ∈ WT := kw_of 162 (by decide +kernel) (by decide +kernel)
theorem kw_163 : (Cond.code y_C_usedBits b_C_usedBits 2 (some FieldType.int)) ∈ WT := kw_of 163 (by decide +kernel) (by decide +kernel)
theorem kw_164 : (Cond.methodLink "WideNumbers" 164 y_J_numberOfLeadingZeros_Integer) ∈ WT := kw_of 164 (by decide +kernel) (by decide +kernel)
theorem kw_165 : (Cond.static y_J_numberOfLeadingZeros_Integer) ∈ WT := kw_of 165 (by decide +kernel) (by decide +kernel)
theorem kw_166 : (Cond.code y_J_numberOfLeadingZeros_Integer b_J_numberOfLeadingZeros_Integer 2 (some FieldType.int)) ∈ WT := kw_of 166 (by decide +kernel) (by decide +kernel)
theorem kw_167 : (Cond.constant "java/lang/Integer" 264 (65536 : Int32)) ∈ WT := kw_of 167 (by decide +kernel) (by decide +kernel)
theorem kw_168 : (Cond.methodLink "WideNumbers" 150 y_C_bitAt) ∈ WT := kw_of 168 (by decide +kernel) (by decide +kernel)
theorem kw_169 : (Cond.static y_C_bitAt) ∈ WT := kw_of 169 (by decide +kernel) (by decide +kernel)
theorem kw_170 : (Cond.code y_C_bitAt b_C_bitAt 2 (some FieldType.long)) ∈ WT := kw_of 170 (by decide +kernel) (by decide +kernel)
theorem kw_171 : (Cond.methodLink "WideNumbers" 154 y_C_doubleAndAdd) ∈ WT := kw_of 171 (by decide +kernel) (by decide +kernel)
theorem kw_172 : (Cond.static y_C_doubleAndAdd) ∈ WT := kw_of 172 (by decide +kernel) (by decide +kernel)
theorem kw_173 : (Cond.code y_C_doubleAndAdd b_C_doubleAndAdd 8 (some FieldType.long)) ∈ WT := kw_of 173 (by decide +kernel) (by decide +kernel)
theorem kw_174 : (Cond.methodLink "WideNumbers" 83 y_C_order) ∈ WT := kw_of 174 (by decide +kernel) (by decide +kernel)
theorem kw_175 : (Cond.static y_C_order) ∈ WT := kw_of 175 (by decide +kernel) (by decide +kernel)
theorem kw_176 : (Cond.code y_C_order b_C_order 3 (some FieldType.int)) ∈ WT := kw_of 176 (by decide +kernel) (by decide +kernel)
theorem kw_177 : (Cond.methodLink "WideNumbers" 52 y_C_copyNumber) ∈ WT := kw_of 177 (by decide +kernel) (by decide +kernel)
theorem kw_178 : (Cond.static y_C_copyNumber) ∈ WT := kw_of 178 (by decide +kernel) (by decide +kernel)
theorem kw_179 : (Cond.code y_C_copyNumber b_C_copyNumber 2 none) ∈ WT := kw_of 179 (by decide +kernel) (by decide +kernel)
theorem kw_180 : (Cond.methodLink "WideNumbers" 144 ⟨"java/lang/System", "arraycopy", "(Ljava/lang/Object;ILjava/lang/Object;II)V"⟩) ∈ WT := kw_of 180 (by decide +kernel) (by decide +kernel)
theorem kw_181 : (Cond.static ⟨"java/lang/System", "arraycopy", "(Ljava/lang/Object;ILjava/lang/Object;II)V"⟩) ∈ WT := kw_of 181 (by decide +kernel) (by decide +kernel)
theorem kw_182 : (Cond.native ⟨"java/lang/System", "arraycopy", "(Ljava/lang/Object;ILjava/lang/Object;II)V"⟩) ∈ WT := kw_of 182 (by decide +kernel) (by decide +kernel)
theorem kw_183 : (Cond.methodLink "WideNumbers" 101 y_C_divideSizes) ∈ WT := kw_of 183 (by decide +kernel) (by decide +kernel)
theorem kw_185 : (Cond.instanceMethod y_C_divideSizes) ∈ WT := kw_of 185 (by decide +kernel) (by decide +kernel)
theorem kw_186 : (Cond.code y_C_divideSizes b_C_divideSizes 3 none) ∈ WT := kw_of 186 (by decide +kernel) (by decide +kernel)
theorem kw_187 : (Cond.methodLink "WideNumbers" 79 y_C_isNegative) ∈ WT := kw_of 187 (by decide +kernel) (by decide +kernel)
theorem kw_188 : (Cond.static y_C_isNegative) ∈ WT := kw_of 188 (by decide +kernel) (by decide +kernel)
theorem kw_189 : (Cond.code y_C_isNegative b_C_isNegative 1 (some FieldType.boolean)) ∈ WT := kw_of 189 (by decide +kernel) (by decide +kernel)
theorem kw_190 : (Cond.methodLink "WideNumbers" 104 y_C_copyWithSign) ∈ WT := kw_of 190 (by decide +kernel) (by decide +kernel)
theorem kw_191 : (Cond.static y_C_copyWithSign) ∈ WT := kw_of 191 (by decide +kernel) (by decide +kernel)
theorem kw_192 : (Cond.code y_C_copyWithSign b_C_copyWithSign 3 none) ∈ WT := kw_of 192 (by decide +kernel) (by decide +kernel)
theorem kw_193 : (Cond.methodLink "WideNumbers" 76 y_C_negate) ∈ WT := kw_of 193 (by decide +kernel) (by decide +kernel)
theorem kw_194 : (Cond.static y_C_negate) ∈ WT := kw_of 194 (by decide +kernel) (by decide +kernel)
theorem kw_195 : (Cond.code y_C_negate b_C_negate 7 none) ∈ WT := kw_of 195 (by decide +kernel) (by decide +kernel)
theorem kw_196 : (Cond.methodLink "WideNumbers" 108 y_C_raise) ∈ WT := kw_of 196 (by decide +kernel) (by decide +kernel)
theorem kw_198 : (Cond.instanceMethod y_C_raise) ∈ WT := kw_of 198 (by decide +kernel) (by decide +kernel)
theorem kw_199 : (Cond.code y_C_raise b_C_raise 4 none) ∈ WT := kw_of 199 (by decide +kernel) (by decide +kernel)
theorem kw_200 : (Cond.methodLink "WideNumbers" 49 y_C_arrangeBits) ∈ WT := kw_of 200 (by decide +kernel) (by decide +kernel)
theorem kw_202 : (Cond.instanceMethod y_C_arrangeBits) ∈ WT := kw_of 202 (by decide +kernel) (by decide +kernel)
theorem kw_203 : (Cond.code y_C_arrangeBits b_C_arrangeBits 4 none) ∈ WT := kw_of 203 (by decide +kernel) (by decide +kernel)
theorem kw_204 : (Cond.methodLink "WideNumbers" 111 y_C_extendSign) ∈ WT := kw_of 204 (by decide +kernel) (by decide +kernel)
theorem kw_206 : (Cond.instanceMethod y_C_extendSign) ∈ WT := kw_of 206 (by decide +kernel) (by decide +kernel)
theorem kw_207 : (Cond.code y_C_extendSign b_C_extendSign 5 none) ∈ WT := kw_of 207 (by decide +kernel) (by decide +kernel)
theorem kw_208 : (Cond.methodLink "WideNumbers" 114 y_C_valueUpTo) ∈ WT := kw_of 208 (by decide +kernel) (by decide +kernel)
theorem kw_209 : (Cond.static y_C_valueUpTo) ∈ WT := kw_of 209 (by decide +kernel) (by decide +kernel)
theorem kw_210 : (Cond.code y_C_valueUpTo b_C_valueUpTo 2 (some FieldType.int)) ∈ WT := kw_of 210 (by decide +kernel) (by decide +kernel)
theorem kw_211 : (Cond.methodLink "WideNumbers" 118 y_C_moveLeft) ∈ WT := kw_of 211 (by decide +kernel) (by decide +kernel)
theorem kw_212 : (Cond.static y_C_moveLeft) ∈ WT := kw_of 212 (by decide +kernel) (by decide +kernel)
theorem kw_213 : (Cond.code y_C_moveLeft b_C_moveLeft 7 none) ∈ WT := kw_of 213 (by decide +kernel) (by decide +kernel)
theorem kw_214 : (Cond.methodLink "WideNumbers" 158 y_C_limbOr) ∈ WT := kw_of 214 (by decide +kernel) (by decide +kernel)
theorem kw_215 : (Cond.static y_C_limbOr) ∈ WT := kw_of 215 (by decide +kernel) (by decide +kernel)
theorem kw_216 : (Cond.code y_C_limbOr b_C_limbOr 4 (some FieldType.long)) ∈ WT := kw_of 216 (by decide +kernel) (by decide +kernel)
theorem kw_217 : (Cond.methodLink "WideNumbers" 126 y_C_limbOfSign) ∈ WT := kw_of 217 (by decide +kernel) (by decide +kernel)
theorem kw_218 : (Cond.static y_C_limbOfSign) ∈ WT := kw_of 218 (by decide +kernel) (by decide +kernel)
theorem kw_219 : (Cond.code y_C_limbOfSign b_C_limbOfSign 1 (some FieldType.long)) ∈ WT := kw_of 219 (by decide +kernel) (by decide +kernel)
theorem kw_220 : (Cond.methodLink "WideNumbers" 122 y_C_moveRight) ∈ WT := kw_of 220 (by decide +kernel) (by decide +kernel)
theorem kw_221 : (Cond.static y_C_moveRight) ∈ WT := kw_of 221 (by decide +kernel) (by decide +kernel)
theorem kw_222 : (Cond.code y_C_moveRight b_C_moveRight 9 none) ∈ WT := kw_of 222 (by decide +kernel) (by decide +kernel)
theorem kw_223 : (Cond.methodLink "WideNumbers" 130 y_C_pickByte) ∈ WT := kw_of 223 (by decide +kernel) (by decide +kernel)
theorem kw_225 : (Cond.instanceMethod y_C_pickByte) ∈ WT := kw_of 225 (by decide +kernel) (by decide +kernel)
theorem kw_226 : (Cond.code y_C_pickByte b_C_pickByte 5 none) ∈ WT := kw_of 226 (by decide +kernel) (by decide +kernel)
theorem kw_227 : (Cond.constantLong "WideNumbers" 162 (255 : Int64)) ∈ WT := kw_of 227 (by decide +kernel) (by decide +kernel)
theorem kw_228 : (Cond.methodLink "WideNumbers" 133 y_C_and) ∈ WT := kw_of 228 (by decide +kernel) (by decide +kernel)
theorem kw_229 : (Cond.static y_C_and) ∈ WT := kw_of 229 (by decide +kernel) (by decide +kernel)
theorem kw_230 : (Cond.code y_C_and b_C_and 4 none) ∈ WT := kw_of 230 (by decide +kernel) (by decide +kernel)
theorem kw_231 : (Cond.methodLink "WideNumbers" 136 y_C_or) ∈ WT := kw_of 231 (by decide +kernel) (by decide +kernel)
theorem kw_232 : (Cond.static y_C_or) ∈ WT := kw_of 232 (by decide +kernel) (by decide +kernel)
theorem kw_233 : (Cond.code y_C_or b_C_or 4 none) ∈ WT := kw_of 233 (by decide +kernel) (by decide +kernel)
theorem kw_234 : (Cond.methodLink "WideNumbers" 139 y_C_exclusiveOr) ∈ WT := kw_of 234 (by decide +kernel) (by decide +kernel)
theorem kw_235 : (Cond.static y_C_exclusiveOr) ∈ WT := kw_of 235 (by decide +kernel) (by decide +kernel)
theorem kw_236 : (Cond.code y_C_exclusiveOr b_C_exclusiveOr 4 none) ∈ WT := kw_of 236 (by decide +kernel) (by decide +kernel)
theorem kw_237 : (Cond.methodLink "WideNumbersLaw" 63 y_L_modular) ∈ WT := kw_of 237 (by decide +kernel) (by decide +kernel)
theorem kw_238 : (Cond.static y_L_modular) ∈ WT := kw_of 238 (by decide +kernel) (by decide +kernel)
theorem kw_239 : (Cond.codeWith y_L_modular b_L_modular 7 (some FieldType.int) [(0, 11, 14, 13)]) ∈ WT := kw_of 239 (by decide +kernel) (by decide +kernel)
theorem kw_240 : (Cond.methodLink "WideNumbersLaw" 23 y_C_modular) ∈ WT := kw_of 240 (by decide +kernel) (by decide +kernel)
theorem kw_241 : (Cond.instanceMethod y_C_modular) ∈ WT := kw_of 241 (by decide +kernel) (by decide +kernel)
theorem kw_242 : (Cond.selects "WideNumbers" y_C_modular y_C_modular) ∈ WT := kw_of 242 (by decide +kernel) (by decide +kernel)
theorem kw_243 : (Cond.code y_C_modular b_C_modular 6 none) ∈ WT := kw_of 243 (by decide +kernel) (by decide +kernel)
theorem kw_244 : (Cond.methodLink "WideNumbersLaw" 67 y_L_turn) ∈ WT := kw_of 244 (by decide +kernel) (by decide +kernel)
theorem kw_245 : (Cond.static y_L_turn) ∈ WT := kw_of 245 (by decide +kernel) (by decide +kernel)
theorem kw_246 : (Cond.codeWith y_L_turn b_L_turn 5 (some FieldType.int) [(0, 7, 10, 13)]) ∈ WT := kw_of 246 (by decide +kernel) (by decide +kernel)
theorem kw_247 : (Cond.methodLink "WideNumbersLaw" 27 y_C_turn) ∈ WT := kw_of 247 (by decide +kernel) (by decide +kernel)
theorem kw_248 : (Cond.instanceMethod y_C_turn) ∈ WT := kw_of 248 (by decide +kernel) (by decide +kernel)
theorem kw_249 : (Cond.selects "WideNumbers" y_C_turn y_C_turn) ∈ WT := kw_of 249 (by decide +kernel) (by decide +kernel)
theorem kw_250 : (Cond.code y_C_turn b_C_turn 4 none) ∈ WT := kw_of 250 (by decide +kernel) (by decide +kernel)
theorem kw_251 : (Cond.methodLink "WideNumbers" 73 y_C_invert) ∈ WT := kw_of 251 (by decide +kernel) (by decide +kernel)
theorem kw_252 : (Cond.static y_C_invert) ∈ WT := kw_of 252 (by decide +kernel) (by decide +kernel)
theorem kw_253 : (Cond.code y_C_invert b_C_invert 3 none) ∈ WT := kw_of 253 (by decide +kernel) (by decide +kernel)
theorem kw_254 : (Cond.methodLink "WideNumbersLaw" 71 y_L_compare) ∈ WT := kw_of 254 (by decide +kernel) (by decide +kernel)
theorem kw_255 : (Cond.static y_L_compare) ∈ WT := kw_of 255 (by decide +kernel) (by decide +kernel)
theorem kw_256 : (Cond.codeWith y_L_compare b_L_compare 6 (some FieldType.int) [(0, 12, 15, 13)]) ∈ WT := kw_of 256 (by decide +kernel) (by decide +kernel)
theorem kw_257 : (Cond.methodLink "WideNumbersLaw" 31 y_C_compare) ∈ WT := kw_of 257 (by decide +kernel) (by decide +kernel)
theorem kw_258 : (Cond.instanceMethod y_C_compare) ∈ WT := kw_of 258 (by decide +kernel) (by decide +kernel)
theorem kw_259 : (Cond.selects "WideNumbers" y_C_compare y_C_compare) ∈ WT := kw_of 259 (by decide +kernel) (by decide +kernel)
theorem kw_260 : (Cond.code y_C_compare b_C_compare 5 (some FieldType.int)) ∈ WT := kw_of 260 (by decide +kernel) (by decide +kernel)
theorem kw_261 : (Cond.methodLink "WideNumbersLaw" 75 y_L_bytes) ∈ WT := kw_of 261 (by decide +kernel) (by decide +kernel)
theorem kw_262 : (Cond.static y_L_bytes) ∈ WT := kw_of 262 (by decide +kernel) (by decide +kernel)
theorem kw_263 : (Cond.codeWith y_L_bytes b_L_bytes 4 (some FieldType.int) [(0, 9, 12, 13)]) ∈ WT := kw_of 263 (by decide +kernel) (by decide +kernel)
theorem kw_264 : (Cond.methodLink "WideNumbersLaw" 35 y_C_bytes) ∈ WT := kw_of 264 (by decide +kernel) (by decide +kernel)
theorem kw_265 : (Cond.instanceMethod y_C_bytes) ∈ WT := kw_of 265 (by decide +kernel) (by decide +kernel)
theorem kw_266 : (Cond.selects "WideNumbers" y_C_bytes y_C_bytes) ∈ WT := kw_of 266 (by decide +kernel) (by decide +kernel)
theorem kw_267 : (Cond.code y_C_bytes b_C_bytes 2 (some FieldType.int)) ∈ WT := kw_of 267 (by decide +kernel) (by decide +kernel)
theorem kw_268 : (Cond.classLink "WideNumbersLaw" 40 "WideNumbersModel") ∈ WT := kw_of 268 (by decide +kernel) (by decide +kernel)
theorem kw_269 : (Cond.instantiable "WideNumbersModel" 9) ∈ WT := kw_of 269 (by decide +kernel) (by decide +kernel)
theorem kw_270 : (Cond.methodLink "WideNumbersLaw" 42 y_M_init) ∈ WT := kw_of 270 (by decide +kernel) (by decide +kernel)
theorem kw_271 : (Cond.instanceMethod y_M_init) ∈ WT := kw_of 271 (by decide +kernel) (by decide +kernel)
theorem kw_272 : (Cond.code y_M_init b_M_init 1 none) ∈ WT := kw_of 272 (by decide +kernel) (by decide +kernel)
theorem kw_273 : (Cond.methodLink "WideNumbersModel" 1 y_J_init_Object) ∈ WT := kw_of 273 (by decide +kernel) (by decide +kernel)
theorem kw_274 : (Cond.classLink "WideNumbersModel" 7 "[[I") ∈ WT := kw_of 274 (by decide +kernel) (by decide +kernel)
theorem kw_276 : (Cond.fieldLink "WideNumbersModel" 36 "WideNumbersModel" "failed" "I") ∈ WT := kw_of 276 (by decide +kernel) (by decide +kernel)
theorem kw_277 : (Cond.fieldLink "WideNumbersModel" 9 "WideNumbersModel" "registers" "[[I") ∈ WT := kw_of 277 (by decide +kernel) (by decide +kernel)
theorem kw_278 : (Cond.fieldLink "WideNumbersModel" 14 "WideNumbersModel" "x" "[I") ∈ WT := kw_of 278 (by decide +kernel) (by decide +kernel)
theorem kw_279 : (Cond.fieldLink "WideNumbersModel" 18 "WideNumbersModel" "y" "[I") ∈ WT := kw_of 279 (by decide +kernel) (by decide +kernel)
theorem kw_280 : (Cond.fieldLink "WideNumbersModel" 21 "WideNumbersModel" "z" "[I") ∈ WT := kw_of 280 (by decide +kernel) (by decide +kernel)
theorem kw_281 : (Cond.fieldLink "WideNumbersModel" 24 "WideNumbersModel" "none" "[I") ∈ WT := kw_of 281 (by decide +kernel) (by decide +kernel)
theorem kw_282 : (Cond.fieldLink "WideNumbersModel" 27 "WideNumbersModel" "wide" "[I") ∈ WT := kw_of 282 (by decide +kernel) (by decide +kernel)
theorem kw_283 : (Cond.fieldLink "WideNumbersModel" 30 "WideNumbersModel" "quotient" "[I") ∈ WT := kw_of 283 (by decide +kernel) (by decide +kernel)
theorem kw_284 : (Cond.fieldLink "WideNumbersModel" 33 "WideNumbersModel" "rest" "[I") ∈ WT := kw_of 284 (by decide +kernel) (by decide +kernel)
theorem kw_285 : (Cond.lays "WideNumbersModel" "WideNumbersModel" "failed" "I") ∈ WT := kw_of 285 (by decide +kernel) (by decide +kernel)
theorem kw_286 : (Cond.soleField "WideNumbersModel" "failed") ∈ WT := kw_of 286 (by decide +kernel) (by decide +kernel)
theorem kw_287 : (Cond.laysFinal "WideNumbersModel" "WideNumbersModel" "registers" "[[I") ∈ WT := kw_of 287 (by decide +kernel) (by decide +kernel)
theorem kw_288 : (Cond.soleField "WideNumbersModel" "registers") ∈ WT := kw_of 288 (by decide +kernel) (by decide +kernel)
theorem kw_289 : (Cond.laysFinal "WideNumbersModel" "WideNumbersModel" "x" "[I") ∈ WT := kw_of 289 (by decide +kernel) (by decide +kernel)
theorem kw_290 : (Cond.soleField "WideNumbersModel" "x") ∈ WT := kw_of 290 (by decide +kernel) (by decide +kernel)
theorem kw_291 : (Cond.laysFinal "WideNumbersModel" "WideNumbersModel" "y" "[I") ∈ WT := kw_of 291 (by decide +kernel) (by decide +kernel)
theorem kw_292 : (Cond.soleField "WideNumbersModel" "y") ∈ WT := kw_of 292 (by decide +kernel) (by decide +kernel)
theorem kw_293 : (Cond.laysFinal "WideNumbersModel" "WideNumbersModel" "z" "[I") ∈ WT := kw_of 293 (by decide +kernel) (by decide +kernel)
theorem kw_294 : (Cond.soleField "WideNumbersModel" "z") ∈ WT := kw_of 294 (by decide +kernel) (by decide +kernel)
theorem kw_295 : (Cond.laysFinal "WideNumbersModel" "WideNumbersModel" "none" "[I") ∈ WT := kw_of 295 (by decide +kernel) (by decide +kernel)
theorem kw_296 : (Cond.soleField "WideNumbersModel" "none") ∈ WT := kw_of 296 (by decide +kernel) (by decide +kernel)
theorem kw_297 : (Cond.laysFinal "WideNumbersModel" "WideNumbersModel" "wide" "[I") ∈ WT := kw_of 297 (by decide +kernel) (by decide +kernel)
theorem kw_298 : (Cond.soleField "WideNumbersModel" "wide") ∈ WT := kw_of 298 (by decide +kernel) (by decide +kernel)
theorem kw_299 : (Cond.laysFinal "WideNumbersModel" "WideNumbersModel" "quotient" "[I") ∈ WT := kw_of 299 (by decide +kernel) (by decide +kernel)
theorem kw_300 : (Cond.soleField "WideNumbersModel" "quotient") ∈ WT := kw_of 300 (by decide +kernel) (by decide +kernel)
theorem kw_301 : (Cond.laysFinal "WideNumbersModel" "WideNumbersModel" "rest" "[I") ∈ WT := kw_of 301 (by decide +kernel) (by decide +kernel)
theorem kw_302 : (Cond.soleField "WideNumbersModel" "rest") ∈ WT := kw_of 302 (by decide +kernel) (by decide +kernel)
theorem kw_303 : (Cond.superclass "WideNumbersModel" "java/lang/Object") ∈ WT := kw_of 303 (by decide +kernel) (by decide +kernel)
theorem kw_304 : (Cond.arrayClass FieldType.int) ∈ WT := kw_of 304 (by decide +kernel) (by decide +kernel)
theorem kw_305 : (Cond.methodLink "WideNumbersLaw" 51 y_M_thrown) ∈ WT := kw_of 305 (by decide +kernel) (by decide +kernel)
theorem kw_306 : (Cond.instanceMethod y_M_thrown) ∈ WT := kw_of 306 (by decide +kernel) (by decide +kernel)
theorem kw_307 : (Cond.selects "WideNumbersModel" y_M_thrown y_M_thrown) ∈ WT := kw_of 307 (by decide +kernel) (by decide +kernel)
theorem kw_308 : (Cond.code y_M_thrown b_M_thrown 1 (some FieldType.int)) ∈ WT := kw_of 308 (by decide +kernel) (by decide +kernel)
theorem kw_309 : (Cond.methodLink "WideNumbersLaw" 50 y_M_set_IJJJJV) ∈ WT := kw_of 309 (by decide +kernel) (by decide +kernel)
theorem kw_310 : (Cond.instanceMethod y_M_set_IJJJJV) ∈ WT := kw_of 310 (by decide +kernel) (by decide +kernel)
theorem kw_311 : (Cond.selects "WideNumbersModel" y_M_set_IJJJJV y_M_set_IJJJJV) ∈ WT := kw_of 311 (by decide +kernel) (by decide +kernel)
theorem kw_312 : (Cond.code y_M_set_IJJJJV b_M_set_IJJJJV 13 none) ∈ WT := kw_of 312 (by decide +kernel) (by decide +kernel)
theorem kw_313 : (Cond.methodLink "WideNumbersModel" 90 y_M_out) ∈ WT := kw_of 313 (by decide +kernel) (by decide +kernel)
theorem kw_315 : (Cond.instanceMethod y_M_out) ∈ WT := kw_of 315 (by decide +kernel) (by decide +kernel)
theorem kw_316 : (Cond.code y_M_out b_M_out 2 (some FieldType.boolean)) ∈ WT := kw_of 316 (by decide +kernel) (by decide +kernel)
theorem kw_317 : (Cond.methodLink "WideNumbersLaw" 58 y_M_get) ∈ WT := kw_of 317 (by decide +kernel) (by decide +kernel)
theorem kw_318 : (Cond.instanceMethod y_M_get) ∈ WT := kw_of 318 (by decide +kernel) (by decide +kernel)
theorem kw_319 : (Cond.selects "WideNumbersModel" y_M_get y_M_get) ∈ WT := kw_of 319 (by decide +kernel) (by decide +kernel)
theorem kw_320 : (Cond.code y_M_get b_M_get 3 (some FieldType.long)) ∈ WT := kw_of 320 (by decide +kernel) (by decide +kernel)
theorem kw_321 : (Cond.methodLink "WideNumbersModel" 94 y_M_fail) ∈ WT := kw_of 321 (by decide +kernel) (by decide +kernel)
theorem kw_323 : (Cond.instanceMethod y_M_fail) ∈ WT := kw_of 323 (by decide +kernel) (by decide +kernel)
theorem kw_324 : (Cond.code y_M_fail b_M_fail 2 (some FieldType.int)) ∈ WT := kw_of 324 (by decide +kernel) (by decide +kernel)
theorem kw_325 : (Cond.methodLink "WideNumbersModel" 98 y_M_part) ∈ WT := kw_of 325 (by decide +kernel) (by decide +kernel)
theorem kw_326 : (Cond.static y_M_part) ∈ WT := kw_of 326 (by decide +kernel) (by decide +kernel)
theorem kw_327 : (Cond.code y_M_part b_M_part 3 (some FieldType.long)) ∈ WT := kw_of 327 (by decide +kernel) (by decide +kernel)
theorem kw_328 : (Cond.constantLong "WideNumbersModel" 40 (4294967295 : Int64)) ∈ WT := kw_of 328 (by decide +kernel) (by decide +kernel)
theorem kw_329 : (Cond.methodLink "WideNumbersLaw" 62 y_M_two) ∈ WT := kw_of 329 (by decide +kernel) (by decide +kernel)
theorem kw_330 : (Cond.instanceMethod y_M_two) ∈ WT := kw_of 330 (by decide +kernel) (by decide +kernel)
theorem kw_331 : (Cond.selects "WideNumbersModel" y_M_two y_M_two) ∈ WT := kw_of 331 (by decide +kernel) (by decide +kernel)
theorem kw_332 : (Cond.code y_M_two b_M_two 5 none) ∈ WT := kw_of 332 (by decide +kernel) (by decide +kernel)
theorem kw_333 : (Cond.methodLink "WideNumbersModel" 102 y_M_work) ∈ WT := kw_of 333 (by decide +kernel) (by decide +kernel)
theorem kw_335 : (Cond.instanceMethod y_M_work) ∈ WT := kw_of 335 (by decide +kernel) (by decide +kernel)
theorem kw_336 : (Cond.code y_M_work b_M_work 12 none) ∈ WT := kw_of 336 (by decide +kernel) (by decide +kernel)
theorem kw_337 : (Cond.methodLink "WideNumbersModel" 106 y_M_zero) ∈ WT := kw_of 337 (by decide +kernel) (by decide +kernel)
theorem kw_338 : (Cond.static y_M_zero) ∈ WT := kw_of 338 (by decide +kernel) (by decide +kernel)
theorem kw_339 : (Cond.code y_M_zero b_M_zero 2 (some FieldType.boolean)) ∈ WT := kw_of 339 (by decide +kernel) (by decide +kernel)
theorem kw_340 : (Cond.methodLink "WideNumbersModel" 42 y_M_clear) ∈ WT := kw_of 340 (by decide +kernel) (by decide +kernel)
theorem kw_341 : (Cond.static y_M_clear) ∈ WT := kw_of 341 (by decide +kernel) (by decide +kernel)
theorem kw_342 : (Cond.code y_M_clear b_M_clear 2 none) ∈ WT := kw_of 342 (by decide +kernel) (by decide +kernel)
theorem kw_343 : (Cond.methodLink "WideNumbersModel" 109 y_M_add) ∈ WT := kw_of 343 (by decide +kernel) (by decide +kernel)
theorem kw_344 : (Cond.static y_M_add) ∈ WT := kw_of 344 (by decide +kernel) (by decide +kernel)
theorem kw_345 : (Cond.code y_M_add b_M_add 6 (some FieldType.int)) ∈ WT := kw_of 345 (by decide +kernel) (by decide +kernel)
theorem kw_346 : (Cond.methodLink "WideNumbersModel" 46 y_M_subtract) ∈ WT := kw_of 346 (by decide +kernel) (by decide +kernel)
theorem kw_347 : (Cond.static y_M_subtract) ∈ WT := kw_of 347 (by decide +kernel) (by decide +kernel)
theorem kw_348 : (Cond.code y_M_subtract b_M_subtract 6 none) ∈ WT := kw_of 348 (by decide +kernel) (by decide +kernel)
theorem kw_349 : (Cond.methodLink "WideNumbersModel" 75 y_M_multiply) ∈ WT := kw_of 349 (by decide +kernel) (by decide +kernel)
theorem kw_351 : (Cond.instanceMethod y_M_multiply) ∈ WT := kw_of 351 (by decide +kernel) (by decide +kernel)
theorem kw_352 : (Cond.code y_M_multiply b_M_multiply 7 none) ∈ WT := kw_of 352 (by decide +kernel) (by decide +kernel)
theorem kw_353 : (Cond.methodLink "WideNumbersModel" 68 y_M_take) ∈ WT := kw_of 353 (by decide +kernel) (by decide +kernel)
theorem kw_354 : (Cond.static y_M_take) ∈ WT := kw_of 354 (by decide +kernel) (by decide +kernel)
theorem kw_355 : (Cond.code y_M_take b_M_take 3 none) ∈ WT := kw_of 355 (by decide +kernel) (by decide +kernel)
theorem kw_356 : (Cond.methodLink "WideNumbersModel" 65 y_M_divide) ∈ WT := kw_of 356 (by decide +kernel) (by decide +kernel)
theorem kw_358 : (Cond.instanceMethod y_M_divide) ∈ WT := kw_of 358 (by decide +kernel) (by decide +kernel)
theorem kw_359 : (Cond.code y_M_divide b_M_divide 4 none) ∈ WT := kw_of 359 (by decide +kernel) (by decide +kernel)
theorem kw_360 : (Cond.methodLink "WideNumbersModel" 50 y_M_divideWide) ∈ WT := kw_of 360 (by decide +kernel) (by decide +kernel)
theorem kw_362 : (Cond.instanceMethod y_M_divideWide) ∈ WT := kw_of 362 (by decide +kernel) (by decide +kernel)
theorem kw_363 : (Cond.code y_M_divideWide b_M_divideWide 9 none) ∈ WT := kw_of 363 (by decide +kernel) (by decide +kernel)
theorem kw_364 : (Cond.methodLink "WideNumbersModel" 113 y_M_signed) ∈ WT := kw_of 364 (by decide +kernel) (by decide +kernel)
theorem kw_366 : (Cond.instanceMethod y_M_signed) ∈ WT := kw_of 366 (by decide +kernel) (by decide +kernel)
theorem kw_367 : (Cond.code y_M_signed b_M_signed 7 none) ∈ WT := kw_of 367 (by decide +kernel) (by decide +kernel)
theorem kw_368 : (Cond.methodLink "WideNumbersModel" 54 y_M_below) ∈ WT := kw_of 368 (by decide +kernel) (by decide +kernel)
theorem kw_370 : (Cond.instanceMethod y_M_below) ∈ WT := kw_of 370 (by decide +kernel) (by decide +kernel)
theorem kw_371 : (Cond.code y_M_below b_M_below 2 (some FieldType.boolean)) ∈ WT := kw_of 371 (by decide +kernel) (by decide +kernel)
theorem kw_372 : (Cond.methodLink "WideNumbersModel" 58 y_M_copy) ∈ WT := kw_of 372 (by decide +kernel) (by decide +kernel)
theorem kw_373 : (Cond.static y_M_copy) ∈ WT := kw_of 373 (by decide +kernel) (by decide +kernel)
theorem kw_374 : (Cond.code y_M_copy b_M_copy 3 none) ∈ WT := kw_of 374 (by decide +kernel) (by decide +kernel)
theorem kw_375 : (Cond.methodLink "WideNumbersModel" 62 y_M_negate) ∈ WT := kw_of 375 (by decide +kernel) (by decide +kernel)
theorem kw_377 : (Cond.instanceMethod y_M_negate) ∈ WT := kw_of 377 (by decide +kernel) (by decide +kernel)
theorem kw_378 : (Cond.code y_M_negate b_M_negate 2 none) ∈ WT := kw_of 378 (by decide +kernel) (by decide +kernel)
theorem kw_379 : (Cond.methodLink "WideNumbersModel" 117 y_M_power) ∈ WT := kw_of 379 (by decide +kernel) (by decide +kernel)
theorem kw_381 : (Cond.instanceMethod y_M_power) ∈ WT := kw_of 381 (by decide +kernel) (by decide +kernel)
theorem kw_382 : (Cond.code y_M_power b_M_power 4 none) ∈ WT := kw_of 382 (by decide +kernel) (by decide +kernel)
theorem kw_383 : (Cond.methodLink "WideNumbersModel" 71 y_M_set_IJV) ∈ WT := kw_of 383 (by decide +kernel) (by decide +kernel)
theorem kw_384 : (Cond.static y_M_set_IJV) ∈ WT := kw_of 384 (by decide +kernel) (by decide +kernel)
theorem kw_385 : (Cond.code y_M_set_IJV b_M_set_IJV 3 none) ∈ WT := kw_of 385 (by decide +kernel) (by decide +kernel)
theorem kw_386 : (Cond.methodLink "WideNumbersModel" 78 y_M_bit) ∈ WT := kw_of 386 (by decide +kernel) (by decide +kernel)
theorem kw_387 : (Cond.static y_M_bit) ∈ WT := kw_of 387 (by decide +kernel) (by decide +kernel)
theorem kw_388 : (Cond.code y_M_bit b_M_bit 2 (some FieldType.int)) ∈ WT := kw_of 388 (by decide +kernel) (by decide +kernel)
theorem kw_389 : (Cond.methodLink "WideNumbersModel" 120 y_M_extend) ∈ WT := kw_of 389 (by decide +kernel) (by decide +kernel)
theorem kw_391 : (Cond.instanceMethod y_M_extend) ∈ WT := kw_of 391 (by decide +kernel) (by decide +kernel)
theorem kw_392 : (Cond.code y_M_extend b_M_extend 8 none) ∈ WT := kw_of 392 (by decide +kernel) (by decide +kernel)
theorem kw_393 : (Cond.constantLong "WideNumbersModel" 82 (31 : Int64)) ∈ WT := kw_of 393 (by decide +kernel) (by decide +kernel)
theorem kw_394 : (Cond.methodLink "WideNumbersModel" 84 y_M_small) ∈ WT := kw_of 394 (by decide +kernel) (by decide +kernel)
theorem kw_395 : (Cond.static y_M_small) ∈ WT := kw_of 395 (by decide +kernel) (by decide +kernel)
theorem kw_396 : (Cond.code y_M_small b_M_small 5 (some FieldType.long)) ∈ WT := kw_of 396 (by decide +kernel) (by decide +kernel)
theorem kw_397 : (Cond.constantLong "WideNumbersModel" 88 (30 : Int64)) ∈ WT := kw_of 397 (by decide +kernel) (by decide +kernel)
theorem kw_398 : (Cond.constantLong "WideNumbersModel" 123 (256 : Int64)) ∈ WT := kw_of 398 (by decide +kernel) (by decide +kernel)
theorem kw_399 : (Cond.constantLong "WideNumbersModel" 125 (255 : Int64)) ∈ WT := kw_of 399 (by decide +kernel) (by decide +kernel)
theorem kw_400 : (Cond.constantLong "WideNumbersModel" 127 (32 : Int64)) ∈ WT := kw_of 400 (by decide +kernel) (by decide +kernel)
theorem kw_401 : (Cond.methodLink "WideNumbersLaw" 66 y_M_modular) ∈ WT := kw_of 401 (by decide +kernel) (by decide +kernel)
theorem kw_402 : (Cond.instanceMethod y_M_modular) ∈ WT := kw_of 402 (by decide +kernel) (by decide +kernel)
theorem kw_403 : (Cond.selects "WideNumbersModel" y_M_modular y_M_modular) ∈ WT := kw_of 403 (by decide +kernel) (by decide +kernel)
theorem kw_404 : (Cond.code y_M_modular b_M_modular 8 none) ∈ WT := kw_of 404 (by decide +kernel) (by decide +kernel)
theorem kw_405 : (Cond.methodLink "WideNumbersLaw" 70 y_M_turn) ∈ WT := kw_of 405 (by decide +kernel) (by decide +kernel)
theorem kw_406 : (Cond.instanceMethod y_M_turn) ∈ WT := kw_of 406 (by decide +kernel) (by decide +kernel)
theorem kw_407 : (Cond.selects "WideNumbersModel" y_M_turn y_M_turn) ∈ WT := kw_of 407 (by decide +kernel) (by decide +kernel)
theorem kw_408 : (Cond.code y_M_turn b_M_turn 5 none) ∈ WT := kw_of 408 (by decide +kernel) (by decide +kernel)
theorem kw_409 : (Cond.methodLink "WideNumbersLaw" 74 y_M_compare) ∈ WT := kw_of 409 (by decide +kernel) (by decide +kernel)
theorem kw_410 : (Cond.instanceMethod y_M_compare) ∈ WT := kw_of 410 (by decide +kernel) (by decide +kernel)
theorem kw_411 : (Cond.selects "WideNumbersModel" y_M_compare y_M_compare) ∈ WT := kw_of 411 (by decide +kernel) (by decide +kernel)
theorem kw_412 : (Cond.code y_M_compare b_M_compare 4 (some FieldType.int)) ∈ WT := kw_of 412 (by decide +kernel) (by decide +kernel)
theorem kw_413 : (Cond.constant "WideNumbersModel" 129 (-2147483648 : Int32)) ∈ WT := kw_of 413 (by decide +kernel) (by decide +kernel)
theorem kw_414 : (Cond.methodLink "WideNumbersModel" 130 y_M_less) ∈ WT := kw_of 414 (by decide +kernel) (by decide +kernel)
theorem kw_415 : (Cond.static y_M_less) ∈ WT := kw_of 415 (by decide +kernel) (by decide +kernel)
theorem kw_416 : (Cond.code y_M_less b_M_less 3 (some FieldType.boolean)) ∈ WT := kw_of 416 (by decide +kernel) (by decide +kernel)
theorem kw_417 : (Cond.methodLink "WideNumbersLaw" 78 y_M_bytes) ∈ WT := kw_of 417 (by decide +kernel) (by decide +kernel)
theorem kw_418 : (Cond.instanceMethod y_M_bytes) ∈ WT := kw_of 418 (by decide +kernel) (by decide +kernel)
theorem kw_419 : (Cond.selects "WideNumbersModel" y_M_bytes y_M_bytes) ∈ WT := kw_of 419 (by decide +kernel) (by decide +kernel)
theorem kw_420 : (Cond.code y_M_bytes b_M_bytes 4 (some FieldType.int)) ∈ WT := kw_of 420 (by decide +kernel) (by decide +kernel)
theorem kw_421 : (Cond.constantLong "WideNumbersLaw" 43 (4294967295 : Int64)) ∈ WT := kw_of 421 (by decide +kernel) (by decide +kernel)
theorem kw_422 : (Cond.sameMethod "java/lang/Throwable" "java/lang/Throwable" "fillInStackTrace" "(I)Ljava/lang/Throwable;") ∈ WT := kw_of 422 (by decide +kernel) (by decide +kernel)
theorem ks_C_calculate : Cond.selects "WideNumbers" y_C_calculate y_C_calculate ∈ WT := ks_of 1 (by decide +kernel) (by decide +kernel)
theorem ks_C_divide : Cond.selects "WideNumbers" y_C_divide y_C_divide ∈ WT := ks_of 2 (by decide +kernel) (by decide +kernel)
theorem ks_C_divideSizes : Cond.selects "WideNumbers" y_C_divideSizes y_C_divideSizes ∈ WT := ks_of 3 (by decide +kernel) (by decide +kernel)
theorem ks_C_raise : Cond.selects "WideNumbers" y_C_raise y_C_raise ∈ WT := ks_of 4 (by decide +kernel) (by decide +kernel)
theorem ks_C_arrangeBits : Cond.selects "WideNumbers" y_C_arrangeBits y_C_arrangeBits ∈ WT := ks_of 5 (by decide +kernel) (by decide +kernel)
theorem ks_C_extendSign : Cond.selects "WideNumbers" y_C_extendSign y_C_extendSign ∈ WT := ks_of 6 (by decide +kernel) (by decide +kernel)
theorem ks_C_pickByte : Cond.selects "WideNumbers" y_C_pickByte y_C_pickByte ∈ WT := ks_of 7 (by decide +kernel) (by decide +kernel)
theorem ks_M_out : Cond.selects "WideNumbersModel" y_M_out y_M_out ∈ WT := ks_of 8 (by decide +kernel) (by decide +kernel)
theorem ks_M_fail : Cond.selects "WideNumbersModel" y_M_fail y_M_fail ∈ WT := ks_of 9 (by decide +kernel) (by decide +kernel)
theorem ks_M_work : Cond.selects "WideNumbersModel" y_M_work y_M_work ∈ WT := ks_of 10 (by decide +kernel) (by decide +kernel)
theorem ks_M_multiply : Cond.selects "WideNumbersModel" y_M_multiply y_M_multiply ∈ WT := ks_of 11 (by decide +kernel) (by decide +kernel)
theorem ks_M_divide : Cond.selects "WideNumbersModel" y_M_divide y_M_divide ∈ WT := ks_of 12 (by decide +kernel) (by decide +kernel)
theorem ks_M_divideWide : Cond.selects "WideNumbersModel" y_M_divideWide y_M_divideWide ∈ WT := ks_of 13 (by decide +kernel) (by decide +kernel)
theorem ks_M_signed : Cond.selects "WideNumbersModel" y_M_signed y_M_signed ∈ WT := ks_of 14 (by decide +kernel) (by decide +kernel)
theorem ks_M_below : Cond.selects "WideNumbersModel" y_M_below y_M_below ∈ WT := ks_of 15 (by decide +kernel) (by decide +kernel)
theorem ks_M_negate : Cond.selects "WideNumbersModel" y_M_negate y_M_negate ∈ WT := ks_of 16 (by decide +kernel) (by decide +kernel)
theorem ks_M_power : Cond.selects "WideNumbersModel" y_M_power y_M_power ∈ WT := ks_of 17 (by decide +kernel) (by decide +kernel)
theorem ks_M_extend : Cond.selects "WideNumbersModel" y_M_extend y_M_extend ∈ WT := ks_of 18 (by decide +kernel) (by decide +kernel)
theorem inC : ∀ w ∈ u_ws "WideNumbers" F_C 7, w ∈ WT := by decide +kernel
theorem inM : ∀ w ∈ u_ws "WideNumbersModel" F_M 9, w ∈ WT := by decide +kernel
def w_C_init : List Cond := Cond.code y_C_init b_C_init 1 (none) :: WT
def w_J_init_Object : List Cond := Cond.code y_J_init_Object b_J_init_Object 1 (none) :: WT
def w_L_set : List Cond := Cond.codeWith y_L_set b_L_set 11 (some .int) [(0, 12, 15, 13)] :: WT
def w_C_set : List Cond := Cond.code y_C_set b_C_set 10 (none) :: WT
def w_C_refuseOutside : List Cond := Cond.code y_C_refuseOutside b_C_refuseOutside 2 (none) :: WT
def w_J_init_Throwable_V : List Cond := Cond.code y_J_init_Throwable_V b_J_init_Throwable_V 1 (none) :: WT
def w_J_init_IllegalArgumentException : List Cond := Cond.code y_J_init_IllegalArgumentException b_J_init_IllegalArgumentException 2 (none) :: WT
def w_J_init_RuntimeException : List Cond := Cond.code y_J_init_RuntimeException b_J_init_RuntimeException 2 (none) :: WT
def w_J_init_Exception : List Cond := Cond.code y_J_init_Exception b_J_init_Exception 2 (none) :: WT
def w_J_init_Throwable_LjavalangStringV : List Cond := Cond.code y_J_init_Throwable_LjavalangStringV b_J_init_Throwable_LjavalangStringV 2 (none) :: WT
def w_C_writePart : List Cond := Cond.code y_C_writePart b_C_writePart 5 (none) :: WT
def w_C_lowLimbOfPart : List Cond := Cond.code y_C_lowLimbOfPart b_C_lowLimbOfPart 1 (some .int) :: WT
def w_L_get : List Cond := Cond.codeWith y_L_get b_L_get 5 (some .int) [(0, 9, 12, 13)] :: WT
def w_C_get : List Cond := Cond.code y_C_get b_C_get 4 (some .long) :: WT
def w_L_two : List Cond := Cond.codeWith y_L_two b_L_two 6 (some .int) [(0, 9, 12, 13)] :: WT
def w_C_two : List Cond := Cond.code y_C_two b_C_two 5 (none) :: WT
def w_C_calculate : List Cond := Cond.code y_C_calculate b_C_calculate 4 (none) :: WT
def w_C_add : List Cond := Cond.code y_C_add b_C_add 8 (some .long) :: WT
def w_C_subtract : List Cond := Cond.code y_C_subtract b_C_subtract 8 (none) :: WT
def w_C_multiply : List Cond := Cond.code y_C_multiply b_C_multiply 9 (none) :: WT
def w_J_fill_Arrays : List Cond := Cond.code y_J_fill_Arrays b_J_fill_Arrays 5 (none) :: WT
def w_C_divide : List Cond := Cond.code y_C_divide b_C_divide 6 (none) :: WT
def w_C_usedBits : List Cond := Cond.code y_C_usedBits b_C_usedBits 2 (some .int) :: WT
def w_J_numberOfLeadingZeros_Integer : List Cond := Cond.code y_J_numberOfLeadingZeros_Integer b_J_numberOfLeadingZeros_Integer 2 (some .int) :: WT
def w_C_bitAt : List Cond := Cond.code y_C_bitAt b_C_bitAt 2 (some .long) :: WT
def w_C_doubleAndAdd : List Cond := Cond.code y_C_doubleAndAdd b_C_doubleAndAdd 8 (some .long) :: WT
def w_C_order : List Cond := Cond.code y_C_order b_C_order 3 (some .int) :: WT
def w_C_copyNumber : List Cond := Cond.code y_C_copyNumber b_C_copyNumber 2 (none) :: WT
def w_C_divideSizes : List Cond := Cond.code y_C_divideSizes b_C_divideSizes 3 (none) :: WT
def w_C_isNegative : List Cond := Cond.code y_C_isNegative b_C_isNegative 1 (some .boolean) :: WT
def w_C_copyWithSign : List Cond := Cond.code y_C_copyWithSign b_C_copyWithSign 3 (none) :: WT
def w_C_negate : List Cond := Cond.code y_C_negate b_C_negate 7 (none) :: WT
def w_C_raise : List Cond := Cond.code y_C_raise b_C_raise 4 (none) :: WT
def w_C_arrangeBits : List Cond := Cond.code y_C_arrangeBits b_C_arrangeBits 4 (none) :: WT
def w_C_extendSign : List Cond := Cond.code y_C_extendSign b_C_extendSign 5 (none) :: WT
def w_C_valueUpTo : List Cond := Cond.code y_C_valueUpTo b_C_valueUpTo 2 (some .int) :: WT
def w_C_moveLeft : List Cond := Cond.code y_C_moveLeft b_C_moveLeft 7 (none) :: WT
def w_C_limbOr : List Cond := Cond.code y_C_limbOr b_C_limbOr 4 (some .long) :: WT
def w_C_limbOfSign : List Cond := Cond.code y_C_limbOfSign b_C_limbOfSign 1 (some .long) :: WT
def w_C_moveRight : List Cond := Cond.code y_C_moveRight b_C_moveRight 9 (none) :: WT
def w_C_pickByte : List Cond := Cond.code y_C_pickByte b_C_pickByte 5 (none) :: WT
def w_C_and : List Cond := Cond.code y_C_and b_C_and 4 (none) :: WT
def w_C_or : List Cond := Cond.code y_C_or b_C_or 4 (none) :: WT
def w_C_exclusiveOr : List Cond := Cond.code y_C_exclusiveOr b_C_exclusiveOr 4 (none) :: WT
def w_L_modular : List Cond := Cond.codeWith y_L_modular b_L_modular 7 (some .int) [(0, 11, 14, 13)] :: WT
def w_C_modular : List Cond := Cond.code y_C_modular b_C_modular 6 (none) :: WT
def w_L_turn : List Cond := Cond.codeWith y_L_turn b_L_turn 5 (some .int) [(0, 7, 10, 13)] :: WT
def w_C_turn : List Cond := Cond.code y_C_turn b_C_turn 4 (none) :: WT
def w_C_invert : List Cond := Cond.code y_C_invert b_C_invert 3 (none) :: WT
def w_L_compare : List Cond := Cond.codeWith y_L_compare b_L_compare 6 (some .int) [(0, 12, 15, 13)] :: WT
def w_C_compare : List Cond := Cond.code y_C_compare b_C_compare 5 (some .int) :: WT
def w_L_bytes : List Cond := Cond.codeWith y_L_bytes b_L_bytes 4 (some .int) [(0, 9, 12, 13)] :: WT
def w_C_bytes : List Cond := Cond.code y_C_bytes b_C_bytes 2 (some .int) :: WT
def w_M_init : List Cond := Cond.code y_M_init b_M_init 1 (none) :: WT
def w_M_thrown : List Cond := Cond.code y_M_thrown b_M_thrown 1 (some .int) :: WT
def w_M_set_IJJJJV : List Cond := Cond.code y_M_set_IJJJJV b_M_set_IJJJJV 13 (none) :: WT
def w_M_out : List Cond := Cond.code y_M_out b_M_out 2 (some .boolean) :: WT
def w_M_get : List Cond := Cond.code y_M_get b_M_get 3 (some .long) :: WT
def w_M_fail : List Cond := Cond.code y_M_fail b_M_fail 2 (some .int) :: WT
def w_M_part : List Cond := Cond.code y_M_part b_M_part 3 (some .long) :: WT
def w_M_two : List Cond := Cond.code y_M_two b_M_two 5 (none) :: WT
def w_M_work : List Cond := Cond.code y_M_work b_M_work 12 (none) :: WT
def w_M_zero : List Cond := Cond.code y_M_zero b_M_zero 2 (some .boolean) :: WT
def w_M_clear : List Cond := Cond.code y_M_clear b_M_clear 2 (none) :: WT
def w_M_add : List Cond := Cond.code y_M_add b_M_add 6 (some .int) :: WT
def w_M_subtract : List Cond := Cond.code y_M_subtract b_M_subtract 6 (none) :: WT
def w_M_multiply : List Cond := Cond.code y_M_multiply b_M_multiply 7 (none) :: WT
def w_M_take : List Cond := Cond.code y_M_take b_M_take 3 (none) :: WT
def w_M_divide : List Cond := Cond.code y_M_divide b_M_divide 4 (none) :: WT
def w_M_divideWide : List Cond := Cond.code y_M_divideWide b_M_divideWide 9 (none) :: WT
def w_M_signed : List Cond := Cond.code y_M_signed b_M_signed 7 (none) :: WT
def w_M_below : List Cond := Cond.code y_M_below b_M_below 2 (some .boolean) :: WT
def w_M_copy : List Cond := Cond.code y_M_copy b_M_copy 3 (none) :: WT
def w_M_negate : List Cond := Cond.code y_M_negate b_M_negate 2 (none) :: WT
def w_M_power : List Cond := Cond.code y_M_power b_M_power 4 (none) :: WT
def w_M_set_IJV : List Cond := Cond.code y_M_set_IJV b_M_set_IJV 3 (none) :: WT
def w_M_bit : List Cond := Cond.code y_M_bit b_M_bit 2 (some .int) :: WT
def w_M_extend : List Cond := Cond.code y_M_extend b_M_extend 8 (none) :: WT
def w_M_small : List Cond := Cond.code y_M_small b_M_small 5 (some .long) :: WT
def w_M_modular : List Cond := Cond.code y_M_modular b_M_modular 8 (none) :: WT
def w_M_turn : List Cond := Cond.code y_M_turn b_M_turn 5 (none) :: WT
def w_M_compare : List Cond := Cond.code y_M_compare b_M_compare 4 (some .int) :: WT
def w_M_less : List Cond := Cond.code y_M_less b_M_less 3 (some .boolean) :: WT
def w_M_bytes : List Cond := Cond.code y_M_bytes b_M_bytes 4 (some .int) :: WT
end
section
-- decode rows
theorem d_C_init_0 : decode b_C_init 0 = .ok (.aload_n 0, 1) := by decide +kernel
theorem d_C_init_1 : decode b_C_init 1 = .ok (.invokespecial 1, 3) := by decide +kernel
theorem d_C_init_4 : decode b_C_init 4 = .ok (.aload_n 0, 1) := by decide +kernel
theorem d_C_init_5 : decode b_C_init 5 = .ok (.bipush 16, 2) := by decide +kernel
theorem d_C_init_7 : decode b_C_init 7 = .ok (.bipush 8, 2) := by decide +kernel
theorem d_C_init_9 : decode b_C_init 9 = .ok (.multianewarray 9 2, 4) := by decide +kernel
theorem d_C_init_13 : decode b_C_init 13 = .ok (.putfield 11, 3) := by decide +kernel
theorem d_C_init_16 : decode b_C_init 16 = .ok (.aload_n 0, 1) := by decide +kernel
theorem d_C_init_17 : decode b_C_init 17 = .ok (.bipush 8, 2) := by decide +kernel
theorem d_C_init_19 : decode b_C_init 19 = .ok (.newarray .long, 2) := by decide +kernel
theorem d_C_init_21 : decode b_C_init 21 = .ok (.putfield 14, 3) := by decide +kernel
theorem d_C_init_24 : decode b_C_init 24 = .ok (.aload_n 0, 1) := by decide +kernel
theorem d_C_init_25 : decode b_C_init 25 = .ok (.bipush 8, 2) := by decide +kernel
theorem d_C_init_27 : decode b_C_init 27 = .ok (.newarray .long, 2) := by decide +kernel
theorem d_C_init_29 : decode b_C_init 29 = .ok (.putfield 18, 3) := by decide +kernel
theorem d_C_init_32 : decode b_C_init 32 = .ok (.aload_n 0, 1) := by decide +kernel
theorem d_C_init_33 : decode b_C_init 33 = .ok (.bipush 8, 2) := by decide +kernel
theorem d_C_init_35 : decode b_C_init 35 = .ok (.newarray .long, 2) := by decide +kernel
theorem d_C_init_37 : decode b_C_init 37 = .ok (.putfield 21, 3) := by decide +kernel
theorem d_C_init_40 : decode b_C_init 40 = .ok (.aload_n 0, 1) := by decide +kernel
theorem d_C_init_41 : decode b_C_init 41 = .ok (.bipush 16, 2) := by decide +kernel
theorem d_C_init_43 : decode b_C_init 43 = .ok (.newarray .long, 2) := by decide +kernel
theorem d_C_init_45 : decode b_C_init 45 = .ok (.putfield 24, 3) := by decide +kernel
theorem d_C_init_48 : decode b_C_init 48 = .ok (.aload_n 0, 1) := by decide +kernel
theorem d_C_init_49 : decode b_C_init 49 = .ok (.bipush 16, 2) := by decide +kernel
theorem d_C_init_51 : decode b_C_init 51 = .ok (.newarray .long, 2) := by decide +kernel
theorem d_C_init_53 : decode b_C_init 53 = .ok (.putfield 27, 3) := by decide +kernel
theorem d_C_init_56 : decode b_C_init 56 = .ok (.aload_n 0, 1) := by decide +kernel
theorem d_C_init_57 : decode b_C_init 57 = .ok (.bipush 8, 2) := by decide +kernel
theorem d_C_init_59 : decode b_C_init 59 = .ok (.newarray .long, 2) := by decide +kernel
theorem d_C_init_61 : decode b_C_init 61 = .ok (.putfield 30, 3) := by decide +kernel
theorem d_C_init_64 : decode b_C_init 64 = .ok (.return_, 1) := by decide +kernel
theorem d_C_set_0 : decode b_C_set 0 = .ok (.iload_n 1, 1) := by decide +kernel
theorem d_C_set_1 : decode b_C_set 1 = .ok (.bipush 16, 2) := by decide +kernel
theorem d_C_set_3 : decode b_C_set 3 = .ok (.invokestatic 33, 3) := by decide +kernel
theorem d_C_set_6 : decode b_C_set 6 = .ok (.aload_n 0, 1) := by decide +kernel
theorem d_C_set_7 : decode b_C_set 7 = .ok (.getfield 11, 3) := by decide +kernel
theorem d_C_set_10 : decode b_C_set 10 = .ok (.iload_n 1, 1) := by decide +kernel
theorem d_C_set_11 : decode b_C_set 11 = .ok (.aaload, 1) := by decide +kernel
theorem d_C_set_12 : decode b_C_set 12 = .ok (.iconst 0, 1) := by decide +kernel
theorem d_C_set_13 : decode b_C_set 13 = .ok (.lload_n 2, 1) := by decide +kernel
theorem d_C_set_14 : decode b_C_set 14 = .ok (.invokestatic 37, 3) := by decide +kernel
theorem d_C_set_17 : decode b_C_set 17 = .ok (.aload_n 0, 1) := by decide +kernel
theorem d_C_set_18 : decode b_C_set 18 = .ok (.getfield 11, 3) := by decide +kernel
theorem d_C_set_21 : decode b_C_set 21 = .ok (.iload_n 1, 1) := by decide +kernel
theorem d_C_set_22 : decode b_C_set 22 = .ok (.aaload, 1) := by decide +kernel
theorem d_C_set_23 : decode b_C_set 23 = .ok (.iconst 1, 1) := by decide +kernel
theorem d_C_set_24 : decode b_C_set 24 = .ok (.lload 4, 2) := by decide +kernel
theorem d_C_set_26 : decode b_C_set 26 = .ok (.invokestatic 37, 3) := by decide +kernel
theorem d_C_set_29 : decode b_C_set 29 = .ok (.aload_n 0, 1) := by decide +kernel
theorem d_C_set_30 : decode b_C_set 30 = .ok (.getfield 11, 3) := by decide +kernel
theorem d_C_set_33 : decode b_C_set 33 = .ok (.iload_n 1, 1) := by decide +kernel
theorem d_C_set_34 : decode b_C_set 34 = .ok (.aaload, 1) := by decide +kernel
theorem d_C_set_35 : decode b_C_set 35 = .ok (.iconst 2, 1) := by decide +kernel
theorem d_C_set_36 : decode b_C_set 36 = .ok (.lload 6, 2) := by decide +kernel
theorem d_C_set_38 : decode b_C_set 38 = .ok (.invokestatic 37, 3) := by decide +kernel
theorem d_C_set_41 : decode b_C_set 41 = .ok (.aload_n 0, 1) := by decide +kernel
theorem d_C_set_42 : decode b_C_set 42 = .ok (.getfield 11, 3) := by decide +kernel
theorem d_C_set_45 : decode b_C_set 45 = .ok (.iload_n 1, 1) := by decide +kernel
theorem d_C_set_46 : decode b_C_set 46 = .ok (.aaload, 1) := by decide +kernel
theorem d_C_set_47 : decode b_C_set 47 = .ok (.iconst 3, 1) := by decide +kernel
theorem d_C_set_48 : decode b_C_set 48 = .ok (.lload 8, 2) := by decide +kernel
theorem d_C_set_50 : decode b_C_set 50 = .ok (.invokestatic 37, 3) := by decide +kernel
theorem d_C_set_53 : decode b_C_set 53 = .ok (.return_, 1) := by decide +kernel
theorem d_C_refuseOutside_0 : decode b_C_refuseOutside 0 = .ok (.iload_n 0, 1) := by decide +kernel
theorem d_C_refuseOutside_1 : decode b_C_refuseOutside 1 = .ok (.ifCond .lt 8, 3) := by decide +kernel
theorem d_C_refuseOutside_4 : decode b_C_refuseOutside 4 = .ok (.iload_n 0, 1) := by decide +kernel
theorem d_C_refuseOutside_5 : decode b_C_refuseOutside 5 = .ok (.iload_n 1, 1) := by decide +kernel
theorem d_C_refuseOutside_6 : decode b_C_refuseOutside 6 = .ok (.if_icmp .lt 13, 3) := by decide +kernel
theorem d_C_refuseOutside_9 : decode b_C_refuseOutside 9 = .ok (.new 91, 3) := by decide +kernel
theorem d_C_refuseOutside_12 : decode b_C_refuseOutside 12 = .ok (.dup, 1) := by decide +kernel
theorem d_C_refuseOutside_13 : decode b_C_refuseOutside 13 = .ok (.ldc 93, 2) := by decide +kernel
theorem d_C_refuseOutside_15 : decode b_C_refuseOutside 15 = .ok (.invokespecial 95, 3) := by decide +kernel
theorem d_C_refuseOutside_18 : decode b_C_refuseOutside 18 = .ok (.athrow, 1) := by decide +kernel
theorem d_C_refuseOutside_19 : decode b_C_refuseOutside 19 = .ok (.return_, 1) := by decide +kernel
theorem d_C_writePart_0 : decode b_C_writePart 0 = .ok (.iload_n 1, 1) := by decide +kernel
theorem d_C_writePart_1 : decode b_C_writePart 1 = .ok (.invokestatic 41, 3) := by decide +kernel
theorem d_C_writePart_4 : decode b_C_writePart 4 = .ok (.istore 4, 2) := by decide +kernel
theorem d_C_writePart_6 : decode b_C_writePart 6 = .ok (.aload_n 0, 1) := by decide +kernel
theorem d_C_writePart_7 : decode b_C_writePart 7 = .ok (.iload 4, 2) := by decide +kernel
theorem d_C_writePart_9 : decode b_C_writePart 9 = .ok (.lload_n 2, 1) := by decide +kernel
theorem d_C_writePart_10 : decode b_C_writePart 10 = .ok (.ldc2_w 142, 3) := by decide +kernel
theorem d_C_writePart_13 : decode b_C_writePart 13 = .ok (.land, 1) := by decide +kernel
theorem d_C_writePart_14 : decode b_C_writePart 14 = .ok (.lastore, 1) := by decide +kernel
theorem d_C_writePart_15 : decode b_C_writePart 15 = .ok (.aload_n 0, 1) := by decide +kernel
theorem d_C_writePart_16 : decode b_C_writePart 16 = .ok (.iload 4, 2) := by decide +kernel
theorem d_C_writePart_18 : decode b_C_writePart 18 = .ok (.iconst 1, 1) := by decide +kernel
theorem d_C_writePart_19 : decode b_C_writePart 19 = .ok (.iadd, 1) := by decide +kernel
theorem d_C_writePart_20 : decode b_C_writePart 20 = .ok (.lload_n 2, 1) := by decide +kernel
theorem d_C_writePart_21 : decode b_C_writePart 21 = .ok (.bipush 32, 2) := by decide +kernel
theorem d_C_writePart_23 : decode b_C_writePart 23 = .ok (.lushr, 1) := by decide +kernel
theorem d_C_writePart_24 : decode b_C_writePart 24 = .ok (.lastore, 1) := by decide +kernel
theorem d_C_writePart_25 : decode b_C_writePart 25 = .ok (.return_, 1) := by decide +kernel
theorem d_C_lowLimbOfPart_0 : decode b_C_lowLimbOfPart 0 = .ok (.iconst 2, 1) := by decide +kernel
theorem d_C_lowLimbOfPart_1 : decode b_C_lowLimbOfPart 1 = .ok (.iconst 3, 1) := by decide +kernel
theorem d_C_lowLimbOfPart_2 : decode b_C_lowLimbOfPart 2 = .ok (.iload_n 0, 1) := by decide +kernel
theorem d_C_lowLimbOfPart_3 : decode b_C_lowLimbOfPart 3 = .ok (.isub, 1) := by decide +kernel
theorem d_C_lowLimbOfPart_4 : decode b_C_lowLimbOfPart 4 = .ok (.imul, 1) := by decide +kernel
theorem d_C_lowLimbOfPart_5 : decode b_C_lowLimbOfPart 5 = .ok (.ireturn, 1) := by decide +kernel
theorem d_C_get_0 : decode b_C_get 0 = .ok (.iload_n 1, 1) := by decide +kernel
theorem d_C_get_1 : decode b_C_get 1 = .ok (.bipush 16, 2) := by decide +kernel
theorem d_C_get_3 : decode b_C_get 3 = .ok (.invokestatic 33, 3) := by decide +kernel
theorem d_C_get_6 : decode b_C_get 6 = .ok (.iload_n 2, 1) := by decide +kernel
theorem d_C_get_7 : decode b_C_get 7 = .ok (.iconst 4, 1) := by decide +kernel
theorem d_C_get_8 : decode b_C_get 8 = .ok (.invokestatic 33, 3) := by decide +kernel
theorem d_C_get_11 : decode b_C_get 11 = .ok (.iload_n 2, 1) := by decide +kernel
theorem d_C_get_12 : decode b_C_get 12 = .ok (.invokestatic 41, 3) := by decide +kernel
theorem d_C_get_15 : decode b_C_get 15 = .ok (.istore_n 3, 1) := by decide +kernel
theorem d_C_get_16 : decode b_C_get 16 = .ok (.aload_n 0, 1) := by decide +kernel
theorem d_C_get_17 : decode b_C_get 17 = .ok (.getfield 11, 3) := by decide +kernel
theorem d_C_get_20 : decode b_C_get 20 = .ok (.iload_n 1, 1) := by decide +kernel
theorem d_C_get_21 : decode b_C_get 21 = .ok (.aaload, 1) := by decide +kernel
theorem d_C_get_22 : decode b_C_get 22 = .ok (.iload_n 3, 1) := by decide +kernel
theorem d_C_get_23 : decode b_C_get 23 = .ok (.iconst 1, 1) := by decide +kernel
theorem d_C_get_24 : decode b_C_get 24 = .ok (.iadd, 1) := by decide +kernel
theorem d_C_get_25 : decode b_C_get 25 = .ok (.laload, 1) := by decide +kernel
theorem d_C_get_26 : decode b_C_get 26 = .ok (.bipush 32, 2) := by decide +kernel
theorem d_C_get_28 : decode b_C_get 28 = .ok (.lshl, 1) := by decide +kernel
theorem d_C_get_29 : decode b_C_get 29 = .ok (.aload_n 0, 1) := by decide +kernel
theorem d_C_get_30 : decode b_C_get 30 = .ok (.getfield 11, 3) := by decide +kernel
theorem d_C_get_33 : decode b_C_get 33 = .ok (.iload_n 1, 1) := by decide +kernel
theorem d_C_get_34 : decode b_C_get 34 = .ok (.aaload, 1) := by decide +kernel
theorem d_C_get_35 : decode b_C_get 35 = .ok (.iload_n 3, 1) := by decide +kernel
theorem d_C_get_36 : decode b_C_get 36 = .ok (.laload, 1) := by decide +kernel
theorem d_C_get_37 : decode b_C_get 37 = .ok (.lor, 1) := by decide +kernel
theorem d_C_get_38 : decode b_C_get 38 = .ok (.lreturn, 1) := by decide +kernel
theorem d_C_two_0 : decode b_C_two 0 = .ok (.iload_n 1, 1) := by decide +kernel
theorem d_C_two_1 : decode b_C_two 1 = .ok (.bipush 16, 2) := by decide +kernel
theorem d_C_two_3 : decode b_C_two 3 = .ok (.invokestatic 33, 3) := by decide +kernel
theorem d_C_two_6 : decode b_C_two 6 = .ok (.iload_n 2, 1) := by decide +kernel
theorem d_C_two_7 : decode b_C_two 7 = .ok (.bipush 16, 2) := by decide +kernel
theorem d_C_two_9 : decode b_C_two 9 = .ok (.invokestatic 33, 3) := by decide +kernel
theorem d_C_two_12 : decode b_C_two 12 = .ok (.iload_n 3, 1) := by decide +kernel
theorem d_C_two_13 : decode b_C_two 13 = .ok (.bipush 16, 2) := by decide +kernel
theorem d_C_two_15 : decode b_C_two 15 = .ok (.invokestatic 33, 3) := by decide +kernel
theorem d_C_two_18 : decode b_C_two 18 = .ok (.iload 4, 2) := by decide +kernel
theorem d_C_two_20 : decode b_C_two 20 = .ok (.bipush 16, 2) := by decide +kernel
theorem d_C_two_22 : decode b_C_two 22 = .ok (.invokestatic 33, 3) := by decide +kernel
theorem d_C_two_25 : decode b_C_two 25 = .ok (.iload_n 1, 1) := by decide +kernel
theorem d_C_two_26 : decode b_C_two 26 = .ok (.bipush 7, 2) := by decide +kernel
theorem d_C_two_28 : decode b_C_two 28 = .ok (.if_icmp .gt 24, 3) := by decide +kernel
theorem d_C_two_31 : decode b_C_two 31 = .ok (.aload_n 0, 1) := by decide +kernel
theorem d_C_two_32 : decode b_C_two 32 = .ok (.iload_n 1, 1) := by decide +kernel
theorem d_C_two_33 : decode b_C_two 33 = .ok (.aload_n 0, 1) := by decide +kernel
theorem d_C_two_34 : decode b_C_two 34 = .ok (.getfield 11, 3) := by decide +kernel
theorem d_C_two_37 : decode b_C_two 37 = .ok (.iload_n 3, 1) := by decide +kernel
theorem d_C_two_38 : decode b_C_two 38 = .ok (.aaload, 1) := by decide +kernel
theorem d_C_two_39 : decode b_C_two 39 = .ok (.aload_n 0, 1) := by decide +kernel
theorem d_C_two_40 : decode b_C_two 40 = .ok (.getfield 11, 3) := by decide +kernel
theorem d_C_two_43 : decode b_C_two 43 = .ok (.iload 4, 2) := by decide +kernel
theorem d_C_two_45 : decode b_C_two 45 = .ok (.aaload, 1) := by decide +kernel
theorem d_C_two_46 : decode b_C_two 46 = .ok (.invokevirtual 45, 3) := by decide +kernel
theorem d_C_two_49 : decode b_C_two 49 = .ok (.goto 21, 3) := by decide +kernel
theorem d_C_two_52 : decode b_C_two 52 = .ok (.aload_n 0, 1) := by decide +kernel
theorem d_C_two_53 : decode b_C_two 53 = .ok (.iload_n 1, 1) := by decide +kernel
theorem d_C_two_54 : decode b_C_two 54 = .ok (.aload_n 0, 1) := by decide +kernel
theorem d_C_two_55 : decode b_C_two 55 = .ok (.getfield 11, 3) := by decide +kernel
theorem d_C_two_58 : decode b_C_two 58 = .ok (.iload_n 3, 1) := by decide +kernel
theorem d_C_two_59 : decode b_C_two 59 = .ok (.aaload, 1) := by decide +kernel
theorem d_C_two_60 : decode b_C_two 60 = .ok (.aload_n 0, 1) := by decide +kernel
theorem d_C_two_61 : decode b_C_two 61 = .ok (.getfield 11, 3) := by decide +kernel
theorem d_C_two_64 : decode b_C_two 64 = .ok (.iload 4, 2) := by decide +kernel
theorem d_C_two_66 : decode b_C_two 66 = .ok (.aaload, 1) := by decide +kernel
theorem d_C_two_67 : decode b_C_two 67 = .ok (.invokevirtual 49, 3) := by decide +kernel
theorem d_C_two_70 : decode b_C_two 70 = .ok (.aload_n 0, 1) := by decide +kernel
theorem d_C_two_71 : decode b_C_two 71 = .ok (.getfield 11, 3) := by decide +kernel
theorem d_C_two_74 : decode b_C_two 74 = .ok (.iload_n 2, 1) := by decide +kernel
theorem d_C_two_75 : decode b_C_two 75 = .ok (.aaload, 1) := by decide +kernel
theorem d_C_two_76 : decode b_C_two 76 = .ok (.aload_n 0, 1) := by decide +kernel
theorem d_C_two_77 : decode b_C_two 77 = .ok (.getfield 14, 3) := by decide +kernel
theorem d_C_two_80 : decode b_C_two 80 = .ok (.invokestatic 52, 3) := by decide +kernel
theorem d_C_two_83 : decode b_C_two 83 = .ok (.return_, 1) := by decide +kernel
theorem d_C_calculate_0 : decode b_C_calculate 0 = .ok (.iload_n 1, 1) := by decide +kernel
theorem d_C_calculate_1 : decode b_C_calculate 1 = .ok (.tableswitch 193 0 7 #[47, 60, 72, 84, 104, 124, 160, 184], 47) := by decide +kernel
theorem d_C_calculate_48 : decode b_C_calculate 48 = .ok (.aload_n 0, 1) := by decide +kernel
theorem d_C_calculate_49 : decode b_C_calculate 49 = .ok (.getfield 14, 3) := by decide +kernel
theorem d_C_calculate_52 : decode b_C_calculate 52 = .ok (.aload_n 2, 1) := by decide +kernel
theorem d_C_calculate_53 : decode b_C_calculate 53 = .ok (.aload_n 3, 1) := by decide +kernel
theorem d_C_calculate_54 : decode b_C_calculate 54 = .ok (.invokestatic 66, 3) := by decide +kernel
theorem d_C_calculate_57 : decode b_C_calculate 57 = .ok (.pop2, 1) := by decide +kernel
theorem d_C_calculate_58 : decode b_C_calculate 58 = .ok (.goto 136, 3) := by decide +kernel
theorem d_C_calculate_61 : decode b_C_calculate 61 = .ok (.aload_n 0, 1) := by decide +kernel
theorem d_C_calculate_62 : decode b_C_calculate 62 = .ok (.getfield 14, 3) := by decide +kernel
theorem d_C_calculate_65 : decode b_C_calculate 65 = .ok (.aload_n 2, 1) := by decide +kernel
theorem d_C_calculate_66 : decode b_C_calculate 66 = .ok (.aload_n 3, 1) := by decide +kernel
theorem d_C_calculate_67 : decode b_C_calculate 67 = .ok (.invokestatic 98, 3) := by decide +kernel
theorem d_C_calculate_70 : decode b_C_calculate 70 = .ok (.goto 124, 3) := by decide +kernel
theorem d_C_calculate_73 : decode b_C_calculate 73 = .ok (.aload_n 0, 1) := by decide +kernel
theorem d_C_calculate_74 : decode b_C_calculate 74 = .ok (.getfield 14, 3) := by decide +kernel
theorem d_C_calculate_77 : decode b_C_calculate 77 = .ok (.aload_n 2, 1) := by decide +kernel
theorem d_C_calculate_78 : decode b_C_calculate 78 = .ok (.aload_n 3, 1) := by decide +kernel
theorem d_C_calculate_79 : decode b_C_calculate 79 = .ok (.invokestatic 56, 3) := by decide +kernel
theorem d_C_calculate_82 : decode b_C_calculate 82 = .ok (.goto 112, 3) := by decide +kernel
theorem d_C_calculate_85 : decode b_C_calculate 85 = .ok (.aload_n 0, 1) := by decide +kernel
theorem d_C_calculate_86 : decode b_C_calculate 86 = .ok (.aload_n 2, 1) := by decide +kernel
theorem d_C_calculate_87 : decode b_C_calculate 87 = .ok (.aload_n 3, 1) := by decide +kernel
theorem d_C_calculate_88 : decode b_C_calculate 88 = .ok (.invokevirtual 70, 3) := by decide +kernel
theorem d_C_calculate_91 : decode b_C_calculate 91 = .ok (.aload_n 0, 1) := by decide +kernel
theorem d_C_calculate_92 : decode b_C_calculate 92 = .ok (.getfield 14, 3) := by decide +kernel
theorem d_C_calculate_95 : decode b_C_calculate 95 = .ok (.aload_n 0, 1) := by decide +kernel
theorem d_C_calculate_96 : decode b_C_calculate 96 = .ok (.getfield 27, 3) := by decide +kernel
theorem d_C_calculate_99 : decode b_C_calculate 99 = .ok (.invokestatic 52, 3) := by decide +kernel
theorem d_C_calculate_102 : decode b_C_calculate 102 = .ok (.goto 92, 3) := by decide +kernel
theorem d_C_calculate_105 : decode b_C_calculate 105 = .ok (.aload_n 0, 1) := by decide +kernel
theorem d_C_calculate_106 : decode b_C_calculate 106 = .ok (.aload_n 2, 1) := by decide +kernel
theorem d_C_calculate_107 : decode b_C_calculate 107 = .ok (.aload_n 3, 1) := by decide +kernel
theorem d_C_calculate_108 : decode b_C_calculate 108 = .ok (.invokevirtual 70, 3) := by decide +kernel
theorem d_C_calculate_111 : decode b_C_calculate 111 = .ok (.aload_n 0, 1) := by decide +kernel
theorem d_C_calculate_112 : decode b_C_calculate 112 = .ok (.getfield 14, 3) := by decide +kernel
theorem d_C_calculate_115 : decode b_C_calculate 115 = .ok (.aload_n 0, 1) := by decide +kernel
theorem d_C_calculate_116 : decode b_C_calculate 116 = .ok (.getfield 30, 3) := by decide +kernel
theorem d_C_calculate_119 : decode b_C_calculate 119 = .ok (.invokestatic 52, 3) := by decide +kernel
theorem d_C_calculate_122 : decode b_C_calculate 122 = .ok (.goto 72, 3) := by decide +kernel
theorem d_C_calculate_125 : decode b_C_calculate 125 = .ok (.aload_n 0, 1) := by decide +kernel
theorem d_C_calculate_126 : decode b_C_calculate 126 = .ok (.aload_n 2, 1) := by decide +kernel
theorem d_C_calculate_127 : decode b_C_calculate 127 = .ok (.aload_n 3, 1) := by decide +kernel
theorem d_C_calculate_128 : decode b_C_calculate 128 = .ok (.invokevirtual 101, 3) := by decide +kernel
theorem d_C_calculate_131 : decode b_C_calculate 131 = .ok (.aload_n 0, 1) := by decide +kernel
theorem d_C_calculate_132 : decode b_C_calculate 132 = .ok (.getfield 14, 3) := by decide +kernel
theorem d_C_calculate_135 : decode b_C_calculate 135 = .ok (.aload_n 0, 1) := by decide +kernel
theorem d_C_calculate_136 : decode b_C_calculate 136 = .ok (.getfield 27, 3) := by decide +kernel
theorem d_C_calculate_139 : decode b_C_calculate 139 = .ok (.aload_n 2, 1) := by decide +kernel
theorem d_C_calculate_140 : decode b_C_calculate 140 = .ok (.invokestatic 79, 3) := by decide +kernel
theorem d_C_calculate_143 : decode b_C_calculate 143 = .ok (.aload_n 3, 1) := by decide +kernel
theorem d_C_calculate_144 : decode b_C_calculate 144 = .ok (.invokestatic 79, 3) := by decide +kernel
theorem d_C_calculate_147 : decode b_C_calculate 147 = .ok (.if_icmp .eq 7, 3) := by decide +kernel
theorem d_C_calculate_150 : decode b_C_calculate 150 = .ok (.iconst 1, 1) := by decide +kernel
theorem d_C_calculate_151 : decode b_C_calculate 151 = .ok (.goto 4, 3) := by decide +kernel
theorem d_C_calculate_154 : decode b_C_calculate 154 = .ok (.iconst 0, 1) := by decide +kernel
theorem d_C_calculate_155 : decode b_C_calculate 155 = .ok (.invokestatic 104, 3) := by decide +kernel
theorem d_C_calculate_158 : decode b_C_calculate 158 = .ok (.goto 36, 3) := by decide +kernel
theorem d_C_calculate_161 : decode b_C_calculate 161 = .ok (.aload_n 0, 1) := by decide +kernel
theorem d_C_calculate_162 : decode b_C_calculate 162 = .ok (.aload_n 2, 1) := by decide +kernel
theorem d_C_calculate_163 : decode b_C_calculate 163 = .ok (.aload_n 3, 1) := by decide +kernel
theorem d_C_calculate_164 : decode b_C_calculate 164 = .ok (.invokevirtual 101, 3) := by decide +kernel
theorem d_C_calculate_167 : decode b_C_calculate 167 = .ok (.aload_n 0, 1) := by decide +kernel
theorem d_C_calculate_168 : decode b_C_calculate 168 = .ok (.getfield 14, 3) := by decide +kernel
theorem d_C_calculate_171 : decode b_C_calculate 171 = .ok (.aload_n 0, 1) := by decide +kernel
theorem d_C_calculate_172 : decode b_C_calculate 172 = .ok (.getfield 30, 3) := by decide +kernel
theorem d_C_calculate_175 : decode b_C_calculate 175 = .ok (.aload_n 2, 1) := by decide +kernel
theorem d_C_calculate_176 : decode b_C_calculate 176 = .ok (.invokestatic 79, 3) := by decide +kernel
theorem d_C_calculate_179 : decode b_C_calculate 179 = .ok (.invokestatic 104, 3) := by decide +kernel
theorem d_C_calculate_182 : decode b_C_calculate 182 = .ok (.goto 12, 3) := by decide +kernel
theorem d_C_calculate_185 : decode b_C_calculate 185 = .ok (.aload_n 0, 1) := by decide +kernel
theorem d_C_calculate_186 : decode b_C_calculate 186 = .ok (.aload_n 2, 1) := by decide +kernel
theorem d_C_calculate_187 : decode b_C_calculate 187 = .ok (.aload_n 3, 1) := by decide +kernel
theorem d_C_calculate_188 : decode b_C_calculate 188 = .ok (.invokevirtual 108, 3) := by decide +kernel
theorem d_C_calculate_191 : decode b_C_calculate 191 = .ok (.goto 3, 3) := by decide +kernel
theorem d_C_calculate_194 : decode b_C_calculate 194 = .ok (.return_, 1) := by decide +kernel
theorem d_C_add_0 : decode b_C_add 0 = .ok (.lconst 0, 1) := by decide +kernel
theorem d_C_add_1 : decode b_C_add 1 = .ok (.lstore_n 3, 1) := by decide +kernel
theorem d_C_add_2 : decode b_C_add 2 = .ok (.iconst 0, 1) := by decide +kernel
theorem d_C_add_3 : decode b_C_add 3 = .ok (.istore 5, 2) := by decide +kernel
theorem d_C_add_5 : decode b_C_add 5 = .ok (.iload 5, 2) := by decide +kernel
theorem d_C_add_7 : decode b_C_add 7 = .ok (.bipush 8, 2) := by decide +kernel
theorem d_C_add_9 : decode b_C_add 9 = .ok (.if_icmp .ge 38, 3) := by decide +kernel
theorem d_C_add_12 : decode b_C_add 12 = .ok (.aload_n 1, 1) := by decide +kernel
theorem d_C_add_13 : decode b_C_add 13 = .ok (.iload 5, 2) := by decide +kernel
theorem d_C_add_15 : decode b_C_add 15 = .ok (.laload, 1) := by decide +kernel
theorem d_C_add_16 : decode b_C_add 16 = .ok (.aload_n 2, 1) := by decide +kernel
theorem d_C_add_17 : decode b_C_add 17 = .ok (.iload 5, 2) := by decide +kernel
theorem d_C_add_19 : decode b_C_add 19 = .ok (.laload, 1) := by decide +kernel
theorem d_C_add_20 : decode b_C_add 20 = .ok (.ladd, 1) := by decide +kernel
theorem d_C_add_21 : decode b_C_add 21 = .ok (.lload_n 3, 1) := by decide +kernel
theorem d_C_add_22 : decode b_C_add 22 = .ok (.ladd, 1) := by decide +kernel
theorem d_C_add_23 : decode b_C_add 23 = .ok (.lstore 6, 2) := by decide +kernel
theorem d_C_add_25 : decode b_C_add 25 = .ok (.aload_n 0, 1) := by decide +kernel
theorem d_C_add_26 : decode b_C_add 26 = .ok (.iload 5, 2) := by decide +kernel
theorem d_C_add_28 : decode b_C_add 28 = .ok (.lload 6, 2) := by decide +kernel
theorem d_C_add_30 : decode b_C_add 30 = .ok (.ldc2_w 142, 3) := by decide +kernel
theorem d_C_add_33 : decode b_C_add 33 = .ok (.land, 1) := by decide +kernel
theorem d_C_add_34 : decode b_C_add 34 = .ok (.lastore, 1) := by decide +kernel
theorem d_C_add_35 : decode b_C_add 35 = .ok (.lload 6, 2) := by decide +kernel
theorem d_C_add_37 : decode b_C_add 37 = .ok (.bipush 32, 2) := by decide +kernel
theorem d_C_add_39 : decode b_C_add 39 = .ok (.lushr, 1) := by decide +kernel
theorem d_C_add_40 : decode b_C_add 40 = .ok (.lstore_n 3, 1) := by decide +kernel
theorem d_C_add_41 : decode b_C_add 41 = .ok (.iinc 5 1, 3) := by decide +kernel
theorem d_C_add_44 : decode b_C_add 44 = .ok (.goto (-39), 3) := by decide +kernel
theorem d_C_add_47 : decode b_C_add 47 = .ok (.lload_n 3, 1) := by decide +kernel
theorem d_C_add_48 : decode b_C_add 48 = .ok (.lreturn, 1) := by decide +kernel
theorem d_C_subtract_0 : decode b_C_subtract 0 = .ok (.lconst 0, 1) := by decide +kernel
theorem d_C_subtract_1 : decode b_C_subtract 1 = .ok (.lstore_n 3, 1) := by decide +kernel
theorem d_C_subtract_2 : decode b_C_subtract 2 = .ok (.iconst 0, 1) := by decide +kernel
theorem d_C_subtract_3 : decode b_C_subtract 3 = .ok (.istore 5, 2) := by decide +kernel
theorem d_C_subtract_5 : decode b_C_subtract 5 = .ok (.iload 5, 2) := by decide +kernel
theorem d_C_subtract_7 : decode b_C_subtract 7 = .ok (.bipush 8, 2) := by decide +kernel
theorem d_C_subtract_9 : decode b_C_subtract 9 = .ok (.if_icmp .ge 45, 3) := by decide +kernel
theorem d_C_subtract_12 : decode b_C_subtract 12 = .ok (.aload_n 1, 1) := by decide +kernel
theorem d_C_subtract_13 : decode b_C_subtract 13 = .ok (.iload 5, 2) := by decide +kernel
theorem d_C_subtract_15 : decode b_C_subtract 15 = .ok (.laload, 1) := by decide +kernel
theorem d_C_subtract_16 : decode b_C_subtract 16 = .ok (.aload_n 2, 1) := by decide +kernel
theorem d_C_subtract_17 : decode b_C_subtract 17 = .ok (.iload 5, 2) := by decide +kernel
theorem d_C_subtract_19 : decode b_C_subtract 19 = .ok (.laload, 1) := by decide +kernel
theorem d_C_subtract_20 : decode b_C_subtract 20 = .ok (.lsub, 1) := by decide +kernel
theorem d_C_subtract_21 : decode b_C_subtract 21 = .ok (.lload_n 3, 1) := by decide +kernel
theorem d_C_subtract_22 : decode b_C_subtract 22 = .ok (.lsub, 1) := by decide +kernel
theorem d_C_subtract_23 : decode b_C_subtract 23 = .ok (.lstore 6, 2) := by decide +kernel
theorem d_C_subtract_25 : decode b_C_subtract 25 = .ok (.aload_n 0, 1) := by decide +kernel
theorem d_C_subtract_26 : decode b_C_subtract 26 = .ok (.iload 5, 2) := by decide +kernel
theorem d_C_subtract_28 : decode b_C_subtract 28 = .ok (.lload 6, 2) := by decide +kernel
theorem d_C_subtract_30 : decode b_C_subtract 30 = .ok (.ldc2_w 142, 3) := by decide +kernel
theorem d_C_subtract_33 : decode b_C_subtract 33 = .ok (.land, 1) := by decide +kernel
theorem d_C_subtract_34 : decode b_C_subtract 34 = .ok (.lastore, 1) := by decide +kernel
theorem d_C_subtract_35 : decode b_C_subtract 35 = .ok (.lload 6, 2) := by decide +kernel
theorem d_C_subtract_37 : decode b_C_subtract 37 = .ok (.lconst 0, 1) := by decide +kernel
theorem d_C_subtract_38 : decode b_C_subtract 38 = .ok (.lcmp, 1) := by decide +kernel
theorem d_C_subtract_39 : decode b_C_subtract 39 = .ok (.ifCond .ge 7, 3) := by decide +kernel
theorem d_C_subtract_42 : decode b_C_subtract 42 = .ok (.lconst 1, 1) := by decide +kernel
theorem d_C_subtract_43 : decode b_C_subtract 43 = .ok (.goto 4, 3) := by decide +kernel
theorem d_C_subtract_46 : decode b_C_subtract 46 = .ok (.lconst 0, 1) := by decide +kernel
theorem d_C_subtract_47 : decode b_C_subtract 47 = .ok (.lstore_n 3, 1) := by decide +kernel
theorem d_C_subtract_48 : decode b_C_subtract 48 = .ok (.iinc 5 1, 3) := by decide +kernel
theorem d_C_subtract_51 : decode b_C_subtract 51 = .ok (.goto (-46), 3) := by decide +kernel
theorem d_C_subtract_54 : decode b_C_subtract 54 = .ok (.return_, 1) := by decide +kernel
theorem d_C_multiply_0 : decode b_C_multiply 0 = .ok (.aload_n 0, 1) := by decide +kernel
theorem d_C_multiply_1 : decode b_C_multiply 1 = .ok (.lconst 0, 1) := by decide +kernel
theorem d_C_multiply_2 : decode b_C_multiply 2 = .ok (.invokestatic 60, 3) := by decide +kernel
theorem d_C_multiply_5 : decode b_C_multiply 5 = .ok (.iconst 0, 1) := by decide +kernel
theorem d_C_multiply_6 : decode b_C_multiply 6 = .ok (.istore_n 3, 1) := by decide +kernel
theorem d_C_multiply_7 : decode b_C_multiply 7 = .ok (.iload_n 3, 1) := by decide +kernel
theorem d_C_multiply_8 : decode b_C_multiply 8 = .ok (.bipush 8, 2) := by decide +kernel
theorem d_C_multiply_10 : decode b_C_multiply 10 = .ok (.if_icmp .ge 93, 3) := by decide +kernel
theorem d_C_multiply_13 : decode b_C_multiply 13 = .ok (.lconst 0, 1) := by decide +kernel
theorem d_C_multiply_14 : decode b_C_multiply 14 = .ok (.lstore 4, 2) := by decide +kernel
theorem d_C_multiply_16 : decode b_C_multiply 16 = .ok (.iconst 0, 1) := by decide +kernel
theorem d_C_multiply_17 : decode b_C_multiply 17 = .ok (.istore 6, 2) := by decide +kernel
theorem d_C_multiply_19 : decode b_C_multiply 19 = .ok (.iload 6, 2) := by decide +kernel
theorem d_C_multiply_21 : decode b_C_multiply 21 = .ok (.bipush 8, 2) := by decide +kernel
theorem d_C_multiply_23 : decode b_C_multiply 23 = .ok (.if_icmp .ge 57, 3) := by decide +kernel
theorem d_C_multiply_26 : decode b_C_multiply 26 = .ok (.iload_n 3, 1) := by decide +kernel
theorem d_C_multiply_27 : decode b_C_multiply 27 = .ok (.iload 6, 2) := by decide +kernel
theorem d_C_multiply_29 : decode b_C_multiply 29 = .ok (.iadd, 1) := by decide +kernel
theorem d_C_multiply_30 : decode b_C_multiply 30 = .ok (.aload_n 0, 1) := by decide +kernel
theorem d_C_multiply_31 : decode b_C_multiply 31 = .ok (.arraylength, 1) := by decide +kernel
theorem d_C_multiply_32 : decode b_C_multiply 32 = .ok (.if_icmp .ge 48, 3) := by decide +kernel
theorem d_C_multiply_35 : decode b_C_multiply 35 = .ok (.aload_n 1, 1) := by decide +kernel
theorem d_C_multiply_36 : decode b_C_multiply 36 = .ok (.iload_n 3, 1) := by decide +kernel
theorem d_C_multiply_37 : decode b_C_multiply 37 = .ok (.laload, 1) := by decide +kernel
theorem d_C_multiply_38 : decode b_C_multiply 38 = .ok (.aload_n 2, 1) := by decide +kernel
theorem d_C_multiply_39 : decode b_C_multiply 39 = .ok (.iload 6, 2) := by decide +kernel
theorem d_C_multiply_41 : decode b_C_multiply 41 = .ok (.laload, 1) := by decide +kernel
theorem d_C_multiply_42 : decode b_C_multiply 42 = .ok (.lmul, 1) := by decide +kernel
theorem d_C_multiply_43 : decode b_C_multiply 43 = .ok (.aload_n 0, 1) := by decide +kernel
theorem d_C_multiply_44 : decode b_C_multiply 44 = .ok (.iload_n 3, 1) := by decide +kernel
theorem d_C_multiply_45 : decode b_C_multiply 45 = .ok (.iload 6, 2) := by decide +kernel
theorem d_C_multiply_47 : decode b_C_multiply 47 = .ok (.iadd, 1) := by decide +kernel
theorem d_C_multiply_48 : decode b_C_multiply 48 = .ok (.laload, 1) := by decide +kernel
theorem d_C_multiply_49 : decode b_C_multiply 49 = .ok (.ladd, 1) := by decide +kernel
theorem d_C_multiply_50 : decode b_C_multiply 50 = .ok (.lload 4, 2) := by decide +kernel
theorem d_C_multiply_52 : decode b_C_multiply 52 = .ok (.ladd, 1) := by decide +kernel
theorem d_C_multiply_53 : decode b_C_multiply 53 = .ok (.lstore 7, 2) := by decide +kernel
theorem d_C_multiply_55 : decode b_C_multiply 55 = .ok (.aload_n 0, 1) := by decide +kernel
theorem d_C_multiply_56 : decode b_C_multiply 56 = .ok (.iload_n 3, 1) := by decide +kernel
theorem d_C_multiply_57 : decode b_C_multiply 57 = .ok (.iload 6, 2) := by decide +kernel
theorem d_C_multiply_59 : decode b_C_multiply 59 = .ok (.iadd, 1) := by decide +kernel
theorem d_C_multiply_60 : decode b_C_multiply 60 = .ok (.lload 7, 2) := by decide +kernel
theorem d_C_multiply_62 : decode b_C_multiply 62 = .ok (.ldc2_w 142, 3) := by decide +kernel
theorem d_C_multiply_65 : decode b_C_multiply 65 = .ok (.land, 1) := by decide +kernel
theorem d_C_multiply_66 : decode b_C_multiply 66 = .ok (.lastore, 1) := by decide +kernel
theorem d_C_multiply_67 : decode b_C_multiply 67 = .ok (.lload 7, 2) := by decide +kernel
theorem d_C_multiply_69 : decode b_C_multiply 69 = .ok (.bipush 32, 2) := by decide +kernel
theorem d_C_multiply_71 : decode b_C_multiply 71 = .ok (.lushr, 1) := by decide +kernel
theorem d_C_multiply_72 : decode b_C_multiply 72 = .ok (.lstore 4, 2) := by decide +kernel
theorem d_C_multiply_74 : decode b_C_multiply 74 = .ok (.iinc 6 1, 3) := by decide +kernel
theorem d_C_multiply_77 : decode b_C_multiply 77 = .ok (.goto (-58), 3) := by decide +kernel
theorem d_C_multiply_80 : decode b_C_multiply 80 = .ok (.iload_n 3, 1) := by decide +kernel
theorem d_C_multiply_81 : decode b_C_multiply 81 = .ok (.bipush 8, 2) := by decide +kernel
theorem d_C_multiply_83 : decode b_C_multiply 83 = .ok (.iadd, 1) := by decide +kernel
theorem d_C_multiply_84 : decode b_C_multiply 84 = .ok (.aload_n 0, 1) := by decide +kernel
theorem d_C_multiply_85 : decode b_C_multiply 85 = .ok (.arraylength, 1) := by decide +kernel
theorem d_C_multiply_86 : decode b_C_multiply 86 = .ok (.if_icmp .ge 11, 3) := by decide +kernel
theorem d_C_multiply_89 : decode b_C_multiply 89 = .ok (.aload_n 0, 1) := by decide +kernel
theorem d_C_multiply_90 : decode b_C_multiply 90 = .ok (.iload_n 3, 1) := by decide +kernel
theorem d_C_multiply_91 : decode b_C_multiply 91 = .ok (.bipush 8, 2) := by decide +kernel
theorem d_C_multiply_93 : decode b_C_multiply 93 = .ok (.iadd, 1) := by decide +kernel
theorem d_C_multiply_94 : decode b_C_multiply 94 = .ok (.lload 4, 2) := by decide +kernel
theorem d_C_multiply_96 : decode b_C_multiply 96 = .ok (.lastore, 1) := by decide +kernel
theorem d_C_multiply_97 : decode b_C_multiply 97 = .ok (.iinc 3 1, 3) := by decide +kernel
theorem d_C_multiply_100 : decode b_C_multiply 100 = .ok (.goto (-93), 3) := by decide +kernel
theorem d_C_multiply_103 : decode b_C_multiply 103 = .ok (.return_, 1) := by decide +kernel
theorem d_C_divide_0 : decode b_C_divide 0 = .ok (.aload_n 0, 1) := by decide +kernel
theorem d_C_divide_1 : decode b_C_divide 1 = .ok (.getfield 27, 3) := by decide +kernel
theorem d_C_divide_4 : decode b_C_divide 4 = .ok (.lconst 0, 1) := by decide +kernel
theorem d_C_divide_5 : decode b_C_divide 5 = .ok (.invokestatic 60, 3) := by decide +kernel
theorem d_C_divide_8 : decode b_C_divide 8 = .ok (.aload_n 0, 1) := by decide +kernel
theorem d_C_divide_9 : decode b_C_divide 9 = .ok (.getfield 30, 3) := by decide +kernel
theorem d_C_divide_12 : decode b_C_divide 12 = .ok (.lconst 0, 1) := by decide +kernel
theorem d_C_divide_13 : decode b_C_divide 13 = .ok (.invokestatic 60, 3) := by decide +kernel
theorem d_C_divide_16 : decode b_C_divide 16 = .ok (.aload_n 2, 1) := by decide +kernel
theorem d_C_divide_17 : decode b_C_divide 17 = .ok (.invokestatic 87, 3) := by decide +kernel
theorem d_C_divide_20 : decode b_C_divide 20 = .ok (.ifCond .ne 4, 3) := by decide +kernel
theorem d_C_divide_23 : decode b_C_divide 23 = .ok (.return_, 1) := by decide +kernel
theorem d_C_divide_24 : decode b_C_divide 24 = .ok (.aload_n 1, 1) := by decide +kernel
theorem d_C_divide_25 : decode b_C_divide 25 = .ok (.invokestatic 87, 3) := by decide +kernel
theorem d_C_divide_28 : decode b_C_divide 28 = .ok (.iconst 1, 1) := by decide +kernel
theorem d_C_divide_29 : decode b_C_divide 29 = .ok (.isub, 1) := by decide +kernel
theorem d_C_divide_30 : decode b_C_divide 30 = .ok (.istore_n 3, 1) := by decide +kernel
theorem d_C_divide_31 : decode b_C_divide 31 = .ok (.iload_n 3, 1) := by decide +kernel
theorem d_C_divide_32 : decode b_C_divide 32 = .ok (.ifCond .lt 71, 3) := by decide +kernel
theorem d_C_divide_35 : decode b_C_divide 35 = .ok (.aload_n 0, 1) := by decide +kernel
theorem d_C_divide_36 : decode b_C_divide 36 = .ok (.getfield 30, 3) := by decide +kernel
theorem d_C_divide_39 : decode b_C_divide 39 = .ok (.aload_n 1, 1) := by decide +kernel
theorem d_C_divide_40 : decode b_C_divide 40 = .ok (.iload_n 3, 1) := by decide +kernel
theorem d_C_divide_41 : decode b_C_divide 41 = .ok (.invokestatic 150, 3) := by decide +kernel
theorem d_C_divide_44 : decode b_C_divide 44 = .ok (.invokestatic 154, 3) := by decide +kernel
theorem d_C_divide_47 : decode b_C_divide 47 = .ok (.lstore 4, 2) := by decide +kernel
theorem d_C_divide_49 : decode b_C_divide 49 = .ok (.lload 4, 2) := by decide +kernel
theorem d_C_divide_51 : decode b_C_divide 51 = .ok (.lconst 0, 1) := by decide +kernel
theorem d_C_divide_52 : decode b_C_divide 52 = .ok (.lcmp, 1) := by decide +kernel
theorem d_C_divide_53 : decode b_C_divide 53 = .ok (.ifCond .ne 14, 3) := by decide +kernel
theorem d_C_divide_56 : decode b_C_divide 56 = .ok (.aload_n 0, 1) := by decide +kernel
theorem d_C_divide_57 : decode b_C_divide 57 = .ok (.getfield 30, 3) := by decide +kernel
theorem d_C_divide_60 : decode b_C_divide 60 = .ok (.aload_n 2, 1) := by decide +kernel
theorem d_C_divide_61 : decode b_C_divide 61 = .ok (.invokestatic 83, 3) := by decide +kernel
theorem d_C_divide_64 : decode b_C_divide 64 = .ok (.ifCond .lt 33, 3) := by decide +kernel
theorem d_C_divide_67 : decode b_C_divide 67 = .ok (.aload_n 0, 1) := by decide +kernel
theorem d_C_divide_68 : decode b_C_divide 68 = .ok (.getfield 30, 3) := by decide +kernel
theorem d_C_divide_71 : decode b_C_divide 71 = .ok (.aload_n 0, 1) := by decide +kernel
theorem d_C_divide_72 : decode b_C_divide 72 = .ok (.getfield 30, 3) := by decide +kernel
theorem d_C_divide_75 : decode b_C_divide 75 = .ok (.aload_n 2, 1) := by decide +kernel
theorem d_C_divide_76 : decode b_C_divide 76 = .ok (.invokestatic 98, 3) := by decide +kernel
theorem d_C_divide_79 : decode b_C_divide 79 = .ok (.aload_n 0, 1) := by decide +kernel
theorem d_C_divide_80 : decode b_C_divide 80 = .ok (.getfield 27, 3) := by decide +kernel
theorem d_C_divide_83 : decode b_C_divide 83 = .ok (.iload_n 3, 1) := by decide +kernel
theorem d_C_divide_84 : decode b_C_divide 84 = .ok (.bipush 32, 2) := by decide +kernel
theorem d_C_divide_86 : decode b_C_divide 86 = .ok (.idiv, 1) := by decide +kernel
theorem d_C_divide_87 : decode b_C_divide 87 = .ok (.dup2, 1) := by decide +kernel
theorem d_C_divide_88 : decode b_C_divide 88 = .ok (.laload, 1) := by decide +kernel
theorem d_C_divide_89 : decode b_C_divide 89 = .ok (.lconst 1, 1) := by decide +kernel
theorem d_C_divide_90 : decode b_C_divide 90 = .ok (.iload_n 3, 1) := by decide +kernel
theorem d_C_divide_91 : decode b_C_divide 91 = .ok (.bipush 32, 2) := by decide +kernel
theorem d_C_divide_93 : decode b_C_divide 93 = .ok (.irem, 1) := by decide +kernel
theorem d_C_divide_94 : decode b_C_divide 94 = .ok (.lshl, 1) := by decide +kernel
theorem d_C_divide_95 : decode b_C_divide 95 = .ok (.lor, 1) := by decide +kernel
theorem d_C_divide_96 : decode b_C_divide 96 = .ok (.lastore, 1) := by decide +kernel
theorem d_C_divide_97 : decode b_C_divide 97 = .ok (.iinc 3 (-1), 3) := by decide +kernel
theorem d_C_divide_100 : decode b_C_divide 100 = .ok (.goto (-69), 3) := by decide +kernel
theorem d_C_divide_103 : decode b_C_divide 103 = .ok (.return_, 1) := by decide +kernel
theorem d_C_usedBits_0 : decode b_C_usedBits 0 = .ok (.aload_n 0, 1) := by decide +kernel
theorem d_C_usedBits_1 : decode b_C_usedBits 1 = .ok (.arraylength, 1) := by decide +kernel
theorem d_C_usedBits_2 : decode b_C_usedBits 2 = .ok (.iconst 1, 1) := by decide +kernel
theorem d_C_usedBits_3 : decode b_C_usedBits 3 = .ok (.isub, 1) := by decide +kernel
theorem d_C_usedBits_4 : decode b_C_usedBits 4 = .ok (.istore_n 1, 1) := by decide +kernel
theorem d_C_usedBits_5 : decode b_C_usedBits 5 = .ok (.iload_n 1, 1) := by decide +kernel
theorem d_C_usedBits_6 : decode b_C_usedBits 6 = .ok (.ifCond .lt 32, 3) := by decide +kernel
theorem d_C_usedBits_9 : decode b_C_usedBits 9 = .ok (.aload_n 0, 1) := by decide +kernel
theorem d_C_usedBits_10 : decode b_C_usedBits 10 = .ok (.iload_n 1, 1) := by decide +kernel
theorem d_C_usedBits_11 : decode b_C_usedBits 11 = .ok (.laload, 1) := by decide +kernel
theorem d_C_usedBits_12 : decode b_C_usedBits 12 = .ok (.lconst 0, 1) := by decide +kernel
theorem d_C_usedBits_13 : decode b_C_usedBits 13 = .ok (.lcmp, 1) := by decide +kernel
theorem d_C_usedBits_14 : decode b_C_usedBits 14 = .ok (.ifCond .eq 18, 3) := by decide +kernel
theorem d_C_usedBits_17 : decode b_C_usedBits 17 = .ok (.bipush 32, 2) := by decide +kernel
theorem d_C_usedBits_19 : decode b_C_usedBits 19 = .ok (.iload_n 1, 1) := by decide +kernel
theorem d_C_usedBits_20 : decode b_C_usedBits 20 = .ok (.iconst 1, 1) := by decide +kernel
theorem d_C_usedBits_21 : decode b_C_usedBits 21 = .ok (.iadd, 1) := by decide +kernel
theorem d_C_usedBits_22 : decode b_C_usedBits 22 = .ok (.imul, 1) := by decide +kernel
theorem d_C_usedBits_23 : decode b_C_usedBits 23 = .ok (.aload_n 0, 1) := by decide +kernel
theorem d_C_usedBits_24 : decode b_C_usedBits 24 = .ok (.iload_n 1, 1) := by decide +kernel
theorem d_C_usedBits_25 : decode b_C_usedBits 25 = .ok (.laload, 1) := by decide +kernel
theorem d_C_usedBits_26 : decode b_C_usedBits 26 = .ok (.l2i, 1) := by decide +kernel
theorem d_C_usedBits_27 : decode b_C_usedBits 27 = .ok (.invokestatic 164, 3) := by decide +kernel
theorem d_C_usedBits_30 : decode b_C_usedBits 30 = .ok (.isub, 1) := by decide +kernel
theorem d_C_usedBits_31 : decode b_C_usedBits 31 = .ok (.ireturn, 1) := by decide +kernel
theorem d_C_usedBits_32 : decode b_C_usedBits 32 = .ok (.iinc 1 (-1), 3) := by decide +kernel
theorem d_C_usedBits_35 : decode b_C_usedBits 35 = .ok (.goto (-30), 3) := by decide +kernel
theorem d_C_usedBits_38 : decode b_C_usedBits 38 = .ok (.iconst 0, 1) := by decide +kernel
theorem d_C_usedBits_39 : decode b_C_usedBits 39 = .ok (.ireturn, 1) := by decide +kernel
theorem d_C_bitAt_0 : decode b_C_bitAt 0 = .ok (.aload_n 0, 1) := by decide +kernel
theorem d_C_bitAt_1 : decode b_C_bitAt 1 = .ok (.iload_n 1, 1) := by decide +kernel
theorem d_C_bitAt_2 : decode b_C_bitAt 2 = .ok (.bipush 32, 2) := by decide +kernel
theorem d_C_bitAt_4 : decode b_C_bitAt 4 = .ok (.idiv, 1) := by decide +kernel
theorem d_C_bitAt_5 : decode b_C_bitAt 5 = .ok (.laload, 1) := by decide +kernel
theorem d_C_bitAt_6 : decode b_C_bitAt 6 = .ok (.iload_n 1, 1) := by decide +kernel
theorem d_C_bitAt_7 : decode b_C_bitAt 7 = .ok (.bipush 32, 2) := by decide +kernel
theorem d_C_bitAt_9 : decode b_C_bitAt 9 = .ok (.irem, 1) := by decide +kernel
theorem d_C_bitAt_10 : decode b_C_bitAt 10 = .ok (.lushr, 1) := by decide +kernel
theorem d_C_bitAt_11 : decode b_C_bitAt 11 = .ok (.lconst 1, 1) := by decide +kernel
theorem d_C_bitAt_12 : decode b_C_bitAt 12 = .ok (.land, 1) := by decide +kernel
theorem d_C_bitAt_13 : decode b_C_bitAt 13 = .ok (.lreturn, 1) := by decide +kernel
theorem d_C_doubleAndAdd_0 : decode b_C_doubleAndAdd 0 = .ok (.lload_n 1, 1) := by decide +kernel
theorem d_C_doubleAndAdd_1 : decode b_C_doubleAndAdd 1 = .ok (.lstore_n 3, 1) := by decide +kernel
theorem d_C_doubleAndAdd_2 : decode b_C_doubleAndAdd 2 = .ok (.iconst 0, 1) := by decide +kernel
theorem d_C_doubleAndAdd_3 : decode b_C_doubleAndAdd 3 = .ok (.istore 5, 2) := by decide +kernel
theorem d_C_doubleAndAdd_5 : decode b_C_doubleAndAdd 5 = .ok (.iload 5, 2) := by decide +kernel
theorem d_C_doubleAndAdd_7 : decode b_C_doubleAndAdd 7 = .ok (.bipush 8, 2) := by decide +kernel
theorem d_C_doubleAndAdd_9 : decode b_C_doubleAndAdd 9 = .ok (.if_icmp .ge 35, 3) := by decide +kernel
theorem d_C_doubleAndAdd_12 : decode b_C_doubleAndAdd 12 = .ok (.aload_n 0, 1) := by decide +kernel
theorem d_C_doubleAndAdd_13 : decode b_C_doubleAndAdd 13 = .ok (.iload 5, 2) := by decide +kernel
theorem d_C_doubleAndAdd_15 : decode b_C_doubleAndAdd 15 = .ok (.laload, 1) := by decide +kernel
theorem d_C_doubleAndAdd_16 : decode b_C_doubleAndAdd 16 = .ok (.iconst 1, 1) := by decide +kernel
theorem d_C_doubleAndAdd_17 : decode b_C_doubleAndAdd 17 = .ok (.lshl, 1) := by decide +kernel
theorem d_C_doubleAndAdd_18 : decode b_C_doubleAndAdd 18 = .ok (.lload_n 3, 1) := by decide +kernel
theorem d_C_doubleAndAdd_19 : decode b_C_doubleAndAdd 19 = .ok (.lor, 1) := by decide +kernel
theorem d_C_doubleAndAdd_20 : decode b_C_doubleAndAdd 20 = .ok (.lstore 6, 2) := by decide +kernel
theorem d_C_doubleAndAdd_22 : decode b_C_doubleAndAdd 22 = .ok (.aload_n 0, 1) := by decide +kernel
theorem d_C_doubleAndAdd_23 : decode b_C_doubleAndAdd 23 = .ok (.iload 5, 2) := by decide +kernel
theorem d_C_doubleAndAdd_25 : decode b_C_doubleAndAdd 25 = .ok (.lload 6, 2) := by decide +kernel
theorem d_C_doubleAndAdd_27 : decode b_C_doubleAndAdd 27 = .ok (.ldc2_w 142, 3) := by decide +kernel
theorem d_C_doubleAndAdd_30 : decode b_C_doubleAndAdd 30 = .ok (.land, 1) := by decide +kernel
theorem d_C_doubleAndAdd_31 : decode b_C_doubleAndAdd 31 = .ok (.lastore, 1) := by decide +kernel
theorem d_C_doubleAndAdd_32 : decode b_C_doubleAndAdd 32 = .ok (.lload 6, 2) := by decide +kernel
theorem d_C_doubleAndAdd_34 : decode b_C_doubleAndAdd 34 = .ok (.bipush 32, 2) := by decide +kernel
theorem d_C_doubleAndAdd_36 : decode b_C_doubleAndAdd 36 = .ok (.lushr, 1) := by decide +kernel
theorem d_C_doubleAndAdd_37 : decode b_C_doubleAndAdd 37 = .ok (.lstore_n 3, 1) := by decide +kernel
theorem d_C_doubleAndAdd_38 : decode b_C_doubleAndAdd 38 = .ok (.iinc 5 1, 3) := by decide +kernel
theorem d_C_doubleAndAdd_41 : decode b_C_doubleAndAdd 41 = .ok (.goto (-36), 3) := by decide +kernel
theorem d_C_doubleAndAdd_44 : decode b_C_doubleAndAdd 44 = .ok (.lload_n 3, 1) := by decide +kernel
theorem d_C_doubleAndAdd_45 : decode b_C_doubleAndAdd 45 = .ok (.lreturn, 1) := by decide +kernel
theorem d_C_order_0 : decode b_C_order 0 = .ok (.bipush 7, 2) := by decide +kernel
theorem d_C_order_2 : decode b_C_order 2 = .ok (.istore_n 2, 1) := by decide +kernel
theorem d_C_order_3 : decode b_C_order 3 = .ok (.iload_n 2, 1) := by decide +kernel
theorem d_C_order_4 : decode b_C_order 4 = .ok (.ifCond .lt 35, 3) := by decide +kernel
theorem d_C_order_7 : decode b_C_order 7 = .ok (.aload_n 0, 1) := by decide +kernel
theorem d_C_order_8 : decode b_C_order 8 = .ok (.iload_n 2, 1) := by decide +kernel
theorem d_C_order_9 : decode b_C_order 9 = .ok (.laload, 1) := by decide +kernel
theorem d_C_order_10 : decode b_C_order 10 = .ok (.aload_n 1, 1) := by decide +kernel
theorem d_C_order_11 : decode b_C_order 11 = .ok (.iload_n 2, 1) := by decide +kernel
theorem d_C_order_12 : decode b_C_order 12 = .ok (.laload, 1) := by decide +kernel
theorem d_C_order_13 : decode b_C_order 13 = .ok (.lcmp, 1) := by decide +kernel
theorem d_C_order_14 : decode b_C_order 14 = .ok (.ifCond .eq 19, 3) := by decide +kernel
theorem d_C_order_17 : decode b_C_order 17 = .ok (.aload_n 0, 1) := by decide +kernel
theorem d_C_order_18 : decode b_C_order 18 = .ok (.iload_n 2, 1) := by decide +kernel
theorem d_C_order_19 : decode b_C_order 19 = .ok (.laload, 1) := by decide +kernel
theorem d_C_order_20 : decode b_C_order 20 = .ok (.aload_n 1, 1) := by decide +kernel
theorem d_C_order_21 : decode b_C_order 21 = .ok (.iload_n 2, 1) := by decide +kernel
theorem d_C_order_22 : decode b_C_order 22 = .ok (.laload, 1) := by decide +kernel
theorem d_C_order_23 : decode b_C_order 23 = .ok (.lcmp, 1) := by decide +kernel
theorem d_C_order_24 : decode b_C_order 24 = .ok (.ifCond .ge 7, 3) := by decide +kernel
theorem d_C_order_27 : decode b_C_order 27 = .ok (.iconst (-1), 1) := by decide +kernel
theorem d_C_order_28 : decode b_C_order 28 = .ok (.goto 4, 3) := by decide +kernel
theorem d_C_order_31 : decode b_C_order 31 = .ok (.iconst 1, 1) := by decide +kernel
theorem d_C_order_32 : decode b_C_order 32 = .ok (.ireturn, 1) := by decide +kernel
theorem d_C_order_33 : decode b_C_order 33 = .ok (.iinc 2 (-1), 3) := by decide +kernel
theorem d_C_order_36 : decode b_C_order 36 = .ok (.goto (-33), 3) := by decide +kernel
theorem d_C_order_39 : decode b_C_order 39 = .ok (.iconst 0, 1) := by decide +kernel
theorem d_C_order_40 : decode b_C_order 40 = .ok (.ireturn, 1) := by decide +kernel
theorem d_C_copyNumber_0 : decode b_C_copyNumber 0 = .ok (.aload_n 1, 1) := by decide +kernel
theorem d_C_copyNumber_1 : decode b_C_copyNumber 1 = .ok (.iconst 0, 1) := by decide +kernel
theorem d_C_copyNumber_2 : decode b_C_copyNumber 2 = .ok (.aload_n 0, 1) := by decide +kernel
theorem d_C_copyNumber_3 : decode b_C_copyNumber 3 = .ok (.iconst 0, 1) := by decide +kernel
theorem d_C_copyNumber_4 : decode b_C_copyNumber 4 = .ok (.bipush 8, 2) := by decide +kernel
theorem d_C_copyNumber_6 : decode b_C_copyNumber 6 = .ok (.invokestatic 144, 3) := by decide +kernel
theorem d_C_copyNumber_9 : decode b_C_copyNumber 9 = .ok (.return_, 1) := by decide +kernel
theorem d_C_divideSizes_0 : decode b_C_divideSizes 0 = .ok (.aload_n 0, 1) := by decide +kernel
theorem d_C_divideSizes_1 : decode b_C_divideSizes 1 = .ok (.getfield 18, 3) := by decide +kernel
theorem d_C_divideSizes_4 : decode b_C_divideSizes 4 = .ok (.aload_n 1, 1) := by decide +kernel
theorem d_C_divideSizes_5 : decode b_C_divideSizes 5 = .ok (.aload_n 1, 1) := by decide +kernel
theorem d_C_divideSizes_6 : decode b_C_divideSizes 6 = .ok (.invokestatic 79, 3) := by decide +kernel
theorem d_C_divideSizes_9 : decode b_C_divideSizes 9 = .ok (.invokestatic 104, 3) := by decide +kernel
theorem d_C_divideSizes_12 : decode b_C_divideSizes 12 = .ok (.aload_n 0, 1) := by decide +kernel
theorem d_C_divideSizes_13 : decode b_C_divideSizes 13 = .ok (.getfield 21, 3) := by decide +kernel
theorem d_C_divideSizes_16 : decode b_C_divideSizes 16 = .ok (.aload_n 2, 1) := by decide +kernel
theorem d_C_divideSizes_17 : decode b_C_divideSizes 17 = .ok (.aload_n 2, 1) := by decide +kernel
theorem d_C_divideSizes_18 : decode b_C_divideSizes 18 = .ok (.invokestatic 79, 3) := by decide +kernel
theorem d_C_divideSizes_21 : decode b_C_divideSizes 21 = .ok (.invokestatic 104, 3) := by decide +kernel
theorem d_C_divideSizes_24 : decode b_C_divideSizes 24 = .ok (.aload_n 0, 1) := by decide +kernel
theorem d_C_divideSizes_25 : decode b_C_divideSizes 25 = .ok (.aload_n 0, 1) := by decide +kernel
theorem d_C_divideSizes_26 : decode b_C_divideSizes 26 = .ok (.getfield 18, 3) := by decide +kernel
theorem d_C_divideSizes_29 : decode b_C_divideSizes 29 = .ok (.aload_n 0, 1) := by decide +kernel
theorem d_C_divideSizes_30 : decode b_C_divideSizes 30 = .ok (.getfield 21, 3) := by decide +kernel
theorem d_C_divideSizes_33 : decode b_C_divideSizes 33 = .ok (.invokevirtual 70, 3) := by decide +kernel
theorem d_C_divideSizes_36 : decode b_C_divideSizes 36 = .ok (.return_, 1) := by decide +kernel
theorem d_C_isNegative_0 : decode b_C_isNegative 0 = .ok (.aload_n 0, 1) := by decide +kernel
theorem d_C_isNegative_1 : decode b_C_isNegative 1 = .ok (.sipush 255, 3) := by decide +kernel
theorem d_C_isNegative_4 : decode b_C_isNegative 4 = .ok (.invokestatic 150, 3) := by decide +kernel
theorem d_C_isNegative_7 : decode b_C_isNegative 7 = .ok (.lconst 0, 1) := by decide +kernel
theorem d_C_isNegative_8 : decode b_C_isNegative 8 = .ok (.lcmp, 1) := by decide +kernel
theorem d_C_isNegative_9 : decode b_C_isNegative 9 = .ok (.ifCond .eq 7, 3) := by decide +kernel
theorem d_C_isNegative_12 : decode b_C_isNegative 12 = .ok (.iconst 1, 1) := by decide +kernel
theorem d_C_isNegative_13 : decode b_C_isNegative 13 = .ok (.goto 4, 3) := by decide +kernel
theorem d_C_isNegative_16 : decode b_C_isNegative 16 = .ok (.iconst 0, 1) := by decide +kernel
theorem d_C_isNegative_17 : decode b_C_isNegative 17 = .ok (.ireturn, 1) := by decide +kernel
theorem d_C_copyWithSign_0 : decode b_C_copyWithSign 0 = .ok (.iload_n 2, 1) := by decide +kernel
theorem d_C_copyWithSign_1 : decode b_C_copyWithSign 1 = .ok (.ifCond .eq 11, 3) := by decide +kernel
theorem d_C_copyWithSign_4 : decode b_C_copyWithSign 4 = .ok (.aload_n 0, 1) := by decide +kernel
theorem d_C_copyWithSign_5 : decode b_C_copyWithSign 5 = .ok (.aload_n 1, 1) := by decide +kernel
theorem d_C_copyWithSign_6 : decode b_C_copyWithSign 6 = .ok (.invokestatic 76, 3) := by decide +kernel
theorem d_C_copyWithSign_9 : decode b_C_copyWithSign 9 = .ok (.goto 8, 3) := by decide +kernel
theorem d_C_copyWithSign_12 : decode b_C_copyWithSign 12 = .ok (.aload_n 0, 1) := by decide +kernel
theorem d_C_copyWithSign_13 : decode b_C_copyWithSign 13 = .ok (.aload_n 1, 1) := by decide +kernel
theorem d_C_copyWithSign_14 : decode b_C_copyWithSign 14 = .ok (.invokestatic 52, 3) := by decide +kernel
theorem d_C_copyWithSign_17 : decode b_C_copyWithSign 17 = .ok (.return_, 1) := by decide +kernel
theorem d_C_negate_0 : decode b_C_negate 0 = .ok (.lconst 1, 1) := by decide +kernel
theorem d_C_negate_1 : decode b_C_negate 1 = .ok (.lstore_n 2, 1) := by decide +kernel
theorem d_C_negate_2 : decode b_C_negate 2 = .ok (.iconst 0, 1) := by decide +kernel
theorem d_C_negate_3 : decode b_C_negate 3 = .ok (.istore 4, 2) := by decide +kernel
theorem d_C_negate_5 : decode b_C_negate 5 = .ok (.iload 4, 2) := by decide +kernel
theorem d_C_negate_7 : decode b_C_negate 7 = .ok (.bipush 8, 2) := by decide +kernel
theorem d_C_negate_9 : decode b_C_negate 9 = .ok (.if_icmp .ge 37, 3) := by decide +kernel
theorem d_C_negate_12 : decode b_C_negate 12 = .ok (.aload_n 1, 1) := by decide +kernel
theorem d_C_negate_13 : decode b_C_negate 13 = .ok (.iload 4, 2) := by decide +kernel
theorem d_C_negate_15 : decode b_C_negate 15 = .ok (.laload, 1) := by decide +kernel
theorem d_C_negate_16 : decode b_C_negate 16 = .ok (.ldc2_w 142, 3) := by decide +kernel
theorem d_C_negate_19 : decode b_C_negate 19 = .ok (.lxor, 1) := by decide +kernel
theorem d_C_negate_20 : decode b_C_negate 20 = .ok (.lload_n 2, 1) := by decide +kernel
theorem d_C_negate_21 : decode b_C_negate 21 = .ok (.ladd, 1) := by decide +kernel
theorem d_C_negate_22 : decode b_C_negate 22 = .ok (.lstore 5, 2) := by decide +kernel
theorem d_C_negate_24 : decode b_C_negate 24 = .ok (.aload_n 0, 1) := by decide +kernel
theorem d_C_negate_25 : decode b_C_negate 25 = .ok (.iload 4, 2) := by decide +kernel
theorem d_C_negate_27 : decode b_C_negate 27 = .ok (.lload 5, 2) := by decide +kernel
theorem d_C_negate_29 : decode b_C_negate 29 = .ok (.ldc2_w 142, 3) := by decide +kernel
theorem d_C_negate_32 : decode b_C_negate 32 = .ok (.land, 1) := by decide +kernel
theorem d_C_negate_33 : decode b_C_negate 33 = .ok (.lastore, 1) := by decide +kernel
theorem d_C_negate_34 : decode b_C_negate 34 = .ok (.lload 5, 2) := by decide +kernel
theorem d_C_negate_36 : decode b_C_negate 36 = .ok (.bipush 32, 2) := by decide +kernel
theorem d_C_negate_38 : decode b_C_negate 38 = .ok (.lushr, 1) := by decide +kernel
theorem d_C_negate_39 : decode b_C_negate 39 = .ok (.lstore_n 2, 1) := by decide +kernel
theorem d_C_negate_40 : decode b_C_negate 40 = .ok (.iinc 4 1, 3) := by decide +kernel
theorem d_C_negate_43 : decode b_C_negate 43 = .ok (.goto (-38), 3) := by decide +kernel
theorem d_C_negate_46 : decode b_C_negate 46 = .ok (.return_, 1) := by decide +kernel
theorem d_C_raise_0 : decode b_C_raise 0 = .ok (.aload_n 0, 1) := by decide +kernel
theorem d_C_raise_1 : decode b_C_raise 1 = .ok (.getfield 14, 3) := by decide +kernel
theorem d_C_raise_4 : decode b_C_raise 4 = .ok (.lconst 0, 1) := by decide +kernel
theorem d_C_raise_5 : decode b_C_raise 5 = .ok (.invokestatic 60, 3) := by decide +kernel
theorem d_C_raise_8 : decode b_C_raise 8 = .ok (.aload_n 0, 1) := by decide +kernel
theorem d_C_raise_9 : decode b_C_raise 9 = .ok (.getfield 14, 3) := by decide +kernel
theorem d_C_raise_12 : decode b_C_raise 12 = .ok (.iconst 0, 1) := by decide +kernel
theorem d_C_raise_13 : decode b_C_raise 13 = .ok (.lconst 1, 1) := by decide +kernel
theorem d_C_raise_14 : decode b_C_raise 14 = .ok (.lastore, 1) := by decide +kernel
theorem d_C_raise_15 : decode b_C_raise 15 = .ok (.aload_n 2, 1) := by decide +kernel
theorem d_C_raise_16 : decode b_C_raise 16 = .ok (.invokestatic 87, 3) := by decide +kernel
theorem d_C_raise_19 : decode b_C_raise 19 = .ok (.iconst 1, 1) := by decide +kernel
theorem d_C_raise_20 : decode b_C_raise 20 = .ok (.isub, 1) := by decide +kernel
theorem d_C_raise_21 : decode b_C_raise 21 = .ok (.istore_n 3, 1) := by decide +kernel
theorem d_C_raise_22 : decode b_C_raise 22 = .ok (.iload_n 3, 1) := by decide +kernel
theorem d_C_raise_23 : decode b_C_raise 23 = .ok (.ifCond .lt 60, 3) := by decide +kernel
theorem d_C_raise_26 : decode b_C_raise 26 = .ok (.aload_n 0, 1) := by decide +kernel
theorem d_C_raise_27 : decode b_C_raise 27 = .ok (.getfield 18, 3) := by decide +kernel
theorem d_C_raise_30 : decode b_C_raise 30 = .ok (.aload_n 0, 1) := by decide +kernel
theorem d_C_raise_31 : decode b_C_raise 31 = .ok (.getfield 14, 3) := by decide +kernel
theorem d_C_raise_34 : decode b_C_raise 34 = .ok (.aload_n 0, 1) := by decide +kernel
theorem d_C_raise_35 : decode b_C_raise 35 = .ok (.getfield 14, 3) := by decide +kernel
theorem d_C_raise_38 : decode b_C_raise 38 = .ok (.invokestatic 56, 3) := by decide +kernel
theorem d_C_raise_41 : decode b_C_raise 41 = .ok (.aload_n 2, 1) := by decide +kernel
theorem d_C_raise_42 : decode b_C_raise 42 = .ok (.iload_n 3, 1) := by decide +kernel
theorem d_C_raise_43 : decode b_C_raise 43 = .ok (.invokestatic 150, 3) := by decide +kernel
theorem d_C_raise_46 : decode b_C_raise 46 = .ok (.lconst 0, 1) := by decide +kernel
theorem d_C_raise_47 : decode b_C_raise 47 = .ok (.lcmp, 1) := by decide +kernel
theorem d_C_raise_48 : decode b_C_raise 48 = .ok (.ifCond .ne 17, 3) := by decide +kernel
theorem d_C_raise_51 : decode b_C_raise 51 = .ok (.aload_n 0, 1) := by decide +kernel
theorem d_C_raise_52 : decode b_C_raise 52 = .ok (.getfield 14, 3) := by decide +kernel
theorem d_C_raise_55 : decode b_C_raise 55 = .ok (.aload_n 0, 1) := by decide +kernel
theorem d_C_raise_56 : decode b_C_raise 56 = .ok (.getfield 18, 3) := by decide +kernel
theorem d_C_raise_59 : decode b_C_raise 59 = .ok (.invokestatic 52, 3) := by decide +kernel
theorem d_C_raise_62 : decode b_C_raise 62 = .ok (.goto 15, 3) := by decide +kernel
theorem d_C_raise_65 : decode b_C_raise 65 = .ok (.aload_n 0, 1) := by decide +kernel
theorem d_C_raise_66 : decode b_C_raise 66 = .ok (.getfield 14, 3) := by decide +kernel
theorem d_C_raise_69 : decode b_C_raise 69 = .ok (.aload_n 0, 1) := by decide +kernel
theorem d_C_raise_70 : decode b_C_raise 70 = .ok (.getfield 18, 3) := by decide +kernel
theorem d_C_raise_73 : decode b_C_raise 73 = .ok (.aload_n 1, 1) := by decide +kernel
theorem d_C_raise_74 : decode b_C_raise 74 = .ok (.invokestatic 56, 3) := by decide +kernel
theorem d_C_raise_77 : decode b_C_raise 77 = .ok (.iinc 3 (-1), 3) := by decide +kernel
theorem d_C_raise_80 : decode b_C_raise 80 = .ok (.goto (-58), 3) := by decide +kernel
theorem d_C_raise_83 : decode b_C_raise 83 = .ok (.return_, 1) := by decide +kernel
theorem d_C_arrangeBits_0 : decode b_C_arrangeBits 0 = .ok (.iload_n 1, 1) := by decide +kernel
theorem d_C_arrangeBits_1 : decode b_C_arrangeBits 1 = .ok (.tableswitch 160 8 15 #[47, 56, 74, 93, 115, 124, 136, 148], 47) := by decide +kernel
theorem d_C_arrangeBits_48 : decode b_C_arrangeBits 48 = .ok (.aload_n 0, 1) := by decide +kernel
theorem d_C_arrangeBits_49 : decode b_C_arrangeBits 49 = .ok (.aload_n 2, 1) := by decide +kernel
theorem d_C_arrangeBits_50 : decode b_C_arrangeBits 50 = .ok (.aload_n 3, 1) := by decide +kernel
theorem d_C_arrangeBits_51 : decode b_C_arrangeBits 51 = .ok (.invokevirtual 111, 3) := by decide +kernel
theorem d_C_arrangeBits_54 : decode b_C_arrangeBits 54 = .ok (.goto 107, 3) := by decide +kernel
theorem d_C_arrangeBits_57 : decode b_C_arrangeBits 57 = .ok (.aload_n 0, 1) := by decide +kernel
theorem d_C_arrangeBits_58 : decode b_C_arrangeBits 58 = .ok (.getfield 14, 3) := by decide +kernel
theorem d_C_arrangeBits_61 : decode b_C_arrangeBits 61 = .ok (.aload_n 3, 1) := by decide +kernel
theorem d_C_arrangeBits_62 : decode b_C_arrangeBits 62 = .ok (.aload_n 2, 1) := by decide +kernel
theorem d_C_arrangeBits_63 : decode b_C_arrangeBits 63 = .ok (.sipush 256, 3) := by decide +kernel
theorem d_C_arrangeBits_66 : decode b_C_arrangeBits 66 = .ok (.invokestatic 114, 3) := by decide +kernel
theorem d_C_arrangeBits_69 : decode b_C_arrangeBits 69 = .ok (.invokestatic 118, 3) := by decide +kernel
theorem d_C_arrangeBits_72 : decode b_C_arrangeBits 72 = .ok (.goto 89, 3) := by decide +kernel
theorem d_C_arrangeBits_75 : decode b_C_arrangeBits 75 = .ok (.aload_n 0, 1) := by decide +kernel
theorem d_C_arrangeBits_76 : decode b_C_arrangeBits 76 = .ok (.getfield 14, 3) := by decide +kernel
theorem d_C_arrangeBits_79 : decode b_C_arrangeBits 79 = .ok (.aload_n 3, 1) := by decide +kernel
theorem d_C_arrangeBits_80 : decode b_C_arrangeBits 80 = .ok (.aload_n 2, 1) := by decide +kernel
theorem d_C_arrangeBits_81 : decode b_C_arrangeBits 81 = .ok (.sipush 256, 3) := by decide +kernel
theorem d_C_arrangeBits_84 : decode b_C_arrangeBits 84 = .ok (.invokestatic 114, 3) := by decide +kernel
theorem d_C_arrangeBits_87 : decode b_C_arrangeBits 87 = .ok (.lconst 0, 1) := by decide +kernel
theorem d_C_arrangeBits_88 : decode b_C_arrangeBits 88 = .ok (.invokestatic 122, 3) := by decide +kernel
theorem d_C_arrangeBits_91 : decode b_C_arrangeBits 91 = .ok (.goto 70, 3) := by decide +kernel
theorem d_C_arrangeBits_94 : decode b_C_arrangeBits 94 = .ok (.aload_n 0, 1) := by decide +kernel
theorem d_C_arrangeBits_95 : decode b_C_arrangeBits 95 = .ok (.getfield 14, 3) := by decide +kernel
theorem d_C_arrangeBits_98 : decode b_C_arrangeBits 98 = .ok (.aload_n 3, 1) := by decide +kernel
theorem d_C_arrangeBits_99 : decode b_C_arrangeBits 99 = .ok (.aload_n 2, 1) := by decide +kernel
theorem d_C_arrangeBits_100 : decode b_C_arrangeBits 100 = .ok (.sipush 256, 3) := by decide +kernel
theorem d_C_arrangeBits_103 : decode b_C_arrangeBits 103 = .ok (.invokestatic 114, 3) := by decide +kernel
theorem d_C_arrangeBits_106 : decode b_C_arrangeBits 106 = .ok (.aload_n 3, 1) := by decide +kernel
theorem d_C_arrangeBits_107 : decode b_C_arrangeBits 107 = .ok (.invokestatic 126, 3) := by decide +kernel
theorem d_C_arrangeBits_110 : decode b_C_arrangeBits 110 = .ok (.invokestatic 122, 3) := by decide +kernel
theorem d_C_arrangeBits_113 : decode b_C_arrangeBits 113 = .ok (.goto 48, 3) := by decide +kernel
theorem d_C_arrangeBits_116 : decode b_C_arrangeBits 116 = .ok (.aload_n 0, 1) := by decide +kernel
theorem d_C_arrangeBits_117 : decode b_C_arrangeBits 117 = .ok (.aload_n 2, 1) := by decide +kernel
theorem d_C_arrangeBits_118 : decode b_C_arrangeBits 118 = .ok (.aload_n 3, 1) := by decide +kernel
theorem d_C_arrangeBits_119 : decode b_C_arrangeBits 119 = .ok (.invokevirtual 130, 3) := by decide +kernel
theorem d_C_arrangeBits_122 : decode b_C_arrangeBits 122 = .ok (.goto 39, 3) := by decide +kernel
theorem d_C_arrangeBits_125 : decode b_C_arrangeBits 125 = .ok (.aload_n 0, 1) := by decide +kernel
theorem d_C_arrangeBits_126 : decode b_C_arrangeBits 126 = .ok (.getfield 14, 3) := by decide +kernel
theorem d_C_arrangeBits_129 : decode b_C_arrangeBits 129 = .ok (.aload_n 2, 1) := by decide +kernel
theorem d_C_arrangeBits_130 : decode b_C_arrangeBits 130 = .ok (.aload_n 3, 1) := by decide +kernel
theorem d_C_arrangeBits_131 : decode b_C_arrangeBits 131 = .ok (.invokestatic 133, 3) := by decide +kernel
theorem d_C_arrangeBits_134 : decode b_C_arrangeBits 134 = .ok (.goto 27, 3) := by decide +kernel
theorem d_C_arrangeBits_137 : decode b_C_arrangeBits 137 = .ok (.aload_n 0, 1) := by decide +kernel
theorem d_C_arrangeBits_138 : decode b_C_arrangeBits 138 = .ok (.getfield 14, 3) := by decide +kernel
theorem d_C_arrangeBits_141 : decode b_C_arrangeBits 141 = .ok (.aload_n 2, 1) := by decide +kernel
theorem d_C_arrangeBits_142 : decode b_C_arrangeBits 142 = .ok (.aload_n 3, 1) := by decide +kernel
theorem d_C_arrangeBits_143 : decode b_C_arrangeBits 143 = .ok (.invokestatic 136, 3) := by decide +kernel
theorem d_C_arrangeBits_146 : decode b_C_arrangeBits 146 = .ok (.goto 15, 3) := by decide +kernel
theorem d_C_arrangeBits_149 : decode b_C_arrangeBits 149 = .ok (.aload_n 0, 1) := by decide +kernel
theorem d_C_arrangeBits_150 : decode b_C_arrangeBits 150 = .ok (.getfield 14, 3) := by decide +kernel
theorem d_C_arrangeBits_153 : decode b_C_arrangeBits 153 = .ok (.aload_n 2, 1) := by decide +kernel
theorem d_C_arrangeBits_154 : decode b_C_arrangeBits 154 = .ok (.aload_n 3, 1) := by decide +kernel
theorem d_C_arrangeBits_155 : decode b_C_arrangeBits 155 = .ok (.invokestatic 139, 3) := by decide +kernel
theorem d_C_arrangeBits_158 : decode b_C_arrangeBits 158 = .ok (.goto 3, 3) := by decide +kernel
theorem d_C_arrangeBits_161 : decode b_C_arrangeBits 161 = .ok (.return_, 1) := by decide +kernel
theorem d_C_extendSign_0 : decode b_C_extendSign 0 = .ok (.bipush 31, 2) := by decide +kernel
theorem d_C_extendSign_2 : decode b_C_extendSign 2 = .ok (.istore_n 3, 1) := by decide +kernel
theorem d_C_extendSign_3 : decode b_C_extendSign 3 = .ok (.bipush 8, 2) := by decide +kernel
theorem d_C_extendSign_5 : decode b_C_extendSign 5 = .ok (.iload_n 3, 1) := by decide +kernel
theorem d_C_extendSign_6 : decode b_C_extendSign 6 = .ok (.aload_n 1, 1) := by decide +kernel
theorem d_C_extendSign_7 : decode b_C_extendSign 7 = .ok (.iload_n 3, 1) := by decide +kernel
theorem d_C_extendSign_8 : decode b_C_extendSign 8 = .ok (.invokestatic 114, 3) := by decide +kernel
theorem d_C_extendSign_11 : decode b_C_extendSign 11 = .ok (.isub, 1) := by decide +kernel
theorem d_C_extendSign_12 : decode b_C_extendSign 12 = .ok (.imul, 1) := by decide +kernel
theorem d_C_extendSign_13 : decode b_C_extendSign 13 = .ok (.istore 4, 2) := by decide +kernel
theorem d_C_extendSign_15 : decode b_C_extendSign 15 = .ok (.aload_n 0, 1) := by decide +kernel
theorem d_C_extendSign_16 : decode b_C_extendSign 16 = .ok (.getfield 18, 3) := by decide +kernel
theorem d_C_extendSign_19 : decode b_C_extendSign 19 = .ok (.aload_n 2, 1) := by decide +kernel
theorem d_C_extendSign_20 : decode b_C_extendSign 20 = .ok (.iload 4, 2) := by decide +kernel
theorem d_C_extendSign_22 : decode b_C_extendSign 22 = .ok (.invokestatic 118, 3) := by decide +kernel
theorem d_C_extendSign_25 : decode b_C_extendSign 25 = .ok (.aload_n 0, 1) := by decide +kernel
theorem d_C_extendSign_26 : decode b_C_extendSign 26 = .ok (.getfield 14, 3) := by decide +kernel
theorem d_C_extendSign_29 : decode b_C_extendSign 29 = .ok (.aload_n 0, 1) := by decide +kernel
theorem d_C_extendSign_30 : decode b_C_extendSign 30 = .ok (.getfield 18, 3) := by decide +kernel
theorem d_C_extendSign_33 : decode b_C_extendSign 33 = .ok (.iload 4, 2) := by decide +kernel
theorem d_C_extendSign_35 : decode b_C_extendSign 35 = .ok (.aload_n 0, 1) := by decide +kernel
theorem d_C_extendSign_36 : decode b_C_extendSign 36 = .ok (.getfield 18, 3) := by decide +kernel
theorem d_C_extendSign_39 : decode b_C_extendSign 39 = .ok (.invokestatic 126, 3) := by decide +kernel
theorem d_C_extendSign_42 : decode b_C_extendSign 42 = .ok (.invokestatic 122, 3) := by decide +kernel
theorem d_C_extendSign_45 : decode b_C_extendSign 45 = .ok (.return_, 1) := by decide +kernel
theorem d_C_valueUpTo_0 : decode b_C_valueUpTo 0 = .ok (.aload_n 0, 1) := by decide +kernel
theorem d_C_valueUpTo_1 : decode b_C_valueUpTo 1 = .ok (.invokestatic 87, 3) := by decide +kernel
theorem d_C_valueUpTo_4 : decode b_C_valueUpTo 4 = .ok (.bipush 32, 2) := by decide +kernel
theorem d_C_valueUpTo_6 : decode b_C_valueUpTo 6 = .ok (.if_icmp .gt 12, 3) := by decide +kernel
theorem d_C_valueUpTo_9 : decode b_C_valueUpTo 9 = .ok (.aload_n 0, 1) := by decide +kernel
theorem d_C_valueUpTo_10 : decode b_C_valueUpTo 10 = .ok (.iconst 0, 1) := by decide +kernel
theorem d_C_valueUpTo_11 : decode b_C_valueUpTo 11 = .ok (.laload, 1) := by decide +kernel
theorem d_C_valueUpTo_12 : decode b_C_valueUpTo 12 = .ok (.iload_n 1, 1) := by decide +kernel
theorem d_C_valueUpTo_13 : decode b_C_valueUpTo 13 = .ok (.i2l, 1) := by decide +kernel
theorem d_C_valueUpTo_14 : decode b_C_valueUpTo 14 = .ok (.lcmp, 1) := by decide +kernel
theorem d_C_valueUpTo_15 : decode b_C_valueUpTo 15 = .ok (.ifCond .le 7, 3) := by decide +kernel
theorem d_C_valueUpTo_18 : decode b_C_valueUpTo 18 = .ok (.iload_n 1, 1) := by decide +kernel
theorem d_C_valueUpTo_19 : decode b_C_valueUpTo 19 = .ok (.goto 7, 3) := by decide +kernel
theorem d_C_valueUpTo_22 : decode b_C_valueUpTo 22 = .ok (.aload_n 0, 1) := by decide +kernel
theorem d_C_valueUpTo_23 : decode b_C_valueUpTo 23 = .ok (.iconst 0, 1) := by decide +kernel
theorem d_C_valueUpTo_24 : decode b_C_valueUpTo 24 = .ok (.laload, 1) := by decide +kernel
theorem d_C_valueUpTo_25 : decode b_C_valueUpTo 25 = .ok (.l2i, 1) := by decide +kernel
theorem d_C_valueUpTo_26 : decode b_C_valueUpTo 26 = .ok (.ireturn, 1) := by decide +kernel
theorem d_C_moveLeft_0 : decode b_C_moveLeft 0 = .ok (.iload_n 2, 1) := by decide +kernel
theorem d_C_moveLeft_1 : decode b_C_moveLeft 1 = .ok (.bipush 32, 2) := by decide +kernel
theorem d_C_moveLeft_3 : decode b_C_moveLeft 3 = .ok (.idiv, 1) := by decide +kernel
theorem d_C_moveLeft_4 : decode b_C_moveLeft 4 = .ok (.istore_n 3, 1) := by decide +kernel
theorem d_C_moveLeft_5 : decode b_C_moveLeft 5 = .ok (.iconst 0, 1) := by decide +kernel
theorem d_C_moveLeft_6 : decode b_C_moveLeft 6 = .ok (.istore 4, 2) := by decide +kernel
theorem d_C_moveLeft_8 : decode b_C_moveLeft 8 = .ok (.iload 4, 2) := by decide +kernel
theorem d_C_moveLeft_10 : decode b_C_moveLeft 10 = .ok (.bipush 8, 2) := by decide +kernel
theorem d_C_moveLeft_12 : decode b_C_moveLeft 12 = .ok (.if_icmp .ge 49, 3) := by decide +kernel
theorem d_C_moveLeft_15 : decode b_C_moveLeft 15 = .ok (.aload_n 1, 1) := by decide +kernel
theorem d_C_moveLeft_16 : decode b_C_moveLeft 16 = .ok (.iload 4, 2) := by decide +kernel
theorem d_C_moveLeft_18 : decode b_C_moveLeft 18 = .ok (.iload_n 3, 1) := by decide +kernel
theorem d_C_moveLeft_19 : decode b_C_moveLeft 19 = .ok (.isub, 1) := by decide +kernel
theorem d_C_moveLeft_20 : decode b_C_moveLeft 20 = .ok (.lconst 0, 1) := by decide +kernel
theorem d_C_moveLeft_21 : decode b_C_moveLeft 21 = .ok (.invokestatic 158, 3) := by decide +kernel
theorem d_C_moveLeft_24 : decode b_C_moveLeft 24 = .ok (.bipush 32, 2) := by decide +kernel
theorem d_C_moveLeft_26 : decode b_C_moveLeft 26 = .ok (.lshl, 1) := by decide +kernel
theorem d_C_moveLeft_27 : decode b_C_moveLeft 27 = .ok (.aload_n 1, 1) := by decide +kernel
theorem d_C_moveLeft_28 : decode b_C_moveLeft 28 = .ok (.iload 4, 2) := by decide +kernel
theorem d_C_moveLeft_30 : decode b_C_moveLeft 30 = .ok (.iload_n 3, 1) := by decide +kernel
theorem d_C_moveLeft_31 : decode b_C_moveLeft 31 = .ok (.isub, 1) := by decide +kernel
theorem d_C_moveLeft_32 : decode b_C_moveLeft 32 = .ok (.iconst 1, 1) := by decide +kernel
theorem d_C_moveLeft_33 : decode b_C_moveLeft 33 = .ok (.isub, 1) := by decide +kernel
theorem d_C_moveLeft_34 : decode b_C_moveLeft 34 = .ok (.lconst 0, 1) := by decide +kernel
theorem d_C_moveLeft_35 : decode b_C_moveLeft 35 = .ok (.invokestatic 158, 3) := by decide +kernel
theorem d_C_moveLeft_38 : decode b_C_moveLeft 38 = .ok (.lor, 1) := by decide +kernel
theorem d_C_moveLeft_39 : decode b_C_moveLeft 39 = .ok (.lstore 5, 2) := by decide +kernel
theorem d_C_moveLeft_41 : decode b_C_moveLeft 41 = .ok (.aload_n 0, 1) := by decide +kernel
theorem d_C_moveLeft_42 : decode b_C_moveLeft 42 = .ok (.iload 4, 2) := by decide +kernel
theorem d_C_moveLeft_44 : decode b_C_moveLeft 44 = .ok (.lload 5, 2) := by decide +kernel
theorem d_C_moveLeft_46 : decode b_C_moveLeft 46 = .ok (.iload_n 2, 1) := by decide +kernel
theorem d_C_moveLeft_47 : decode b_C_moveLeft 47 = .ok (.bipush 32, 2) := by decide +kernel
theorem d_C_moveLeft_49 : decode b_C_moveLeft 49 = .ok (.irem, 1) := by decide +kernel
theorem d_C_moveLeft_50 : decode b_C_moveLeft 50 = .ok (.lshl, 1) := by decide +kernel
theorem d_C_moveLeft_51 : decode b_C_moveLeft 51 = .ok (.bipush 32, 2) := by decide +kernel
theorem d_C_moveLeft_53 : decode b_C_moveLeft 53 = .ok (.lushr, 1) := by decide +kernel
theorem d_C_moveLeft_54 : decode b_C_moveLeft 54 = .ok (.lastore, 1) := by decide +kernel
theorem d_C_moveLeft_55 : decode b_C_moveLeft 55 = .ok (.iinc 4 1, 3) := by decide +kernel
theorem d_C_moveLeft_58 : decode b_C_moveLeft 58 = .ok (.goto (-50), 3) := by decide +kernel
theorem d_C_moveLeft_61 : decode b_C_moveLeft 61 = .ok (.return_, 1) := by decide +kernel
theorem d_C_limbOr_0 : decode b_C_limbOr 0 = .ok (.iload_n 1, 1) := by decide +kernel
theorem d_C_limbOr_1 : decode b_C_limbOr 1 = .ok (.ifCond .lt 15, 3) := by decide +kernel
theorem d_C_limbOr_4 : decode b_C_limbOr 4 = .ok (.iload_n 1, 1) := by decide +kernel
theorem d_C_limbOr_5 : decode b_C_limbOr 5 = .ok (.bipush 8, 2) := by decide +kernel
theorem d_C_limbOr_7 : decode b_C_limbOr 7 = .ok (.if_icmp .ge 9, 3) := by decide +kernel
theorem d_C_limbOr_10 : decode b_C_limbOr 10 = .ok (.aload_n 0, 1) := by decide +kernel
theorem d_C_limbOr_11 : decode b_C_limbOr 11 = .ok (.iload_n 1, 1) := by decide +kernel
theorem d_C_limbOr_12 : decode b_C_limbOr 12 = .ok (.laload, 1) := by decide +kernel
theorem d_C_limbOr_13 : decode b_C_limbOr 13 = .ok (.goto 4, 3) := by decide +kernel
theorem d_C_limbOr_16 : decode b_C_limbOr 16 = .ok (.lload_n 2, 1) := by decide +kernel
theorem d_C_limbOr_17 : decode b_C_limbOr 17 = .ok (.lreturn, 1) := by decide +kernel
theorem d_C_limbOfSign_0 : decode b_C_limbOfSign 0 = .ok (.aload_n 0, 1) := by decide +kernel
theorem d_C_limbOfSign_1 : decode b_C_limbOfSign 1 = .ok (.invokestatic 79, 3) := by decide +kernel
theorem d_C_limbOfSign_4 : decode b_C_limbOfSign 4 = .ok (.ifCond .eq 9, 3) := by decide +kernel
theorem d_C_limbOfSign_7 : decode b_C_limbOfSign 7 = .ok (.ldc2_w 142, 3) := by decide +kernel
theorem d_C_limbOfSign_10 : decode b_C_limbOfSign 10 = .ok (.goto 4, 3) := by decide +kernel
theorem d_C_limbOfSign_13 : decode b_C_limbOfSign 13 = .ok (.lconst 0, 1) := by decide +kernel
theorem d_C_limbOfSign_14 : decode b_C_limbOfSign 14 = .ok (.lreturn, 1) := by decide +kernel
theorem d_C_moveRight_0 : decode b_C_moveRight 0 = .ok (.iload_n 2, 1) := by decide +kernel
theorem d_C_moveRight_1 : decode b_C_moveRight 1 = .ok (.bipush 32, 2) := by decide +kernel
theorem d_C_moveRight_3 : decode b_C_moveRight 3 = .ok (.idiv, 1) := by decide +kernel
theorem d_C_moveRight_4 : decode b_C_moveRight 4 = .ok (.istore 5, 2) := by decide +kernel
theorem d_C_moveRight_6 : decode b_C_moveRight 6 = .ok (.iconst 0, 1) := by decide +kernel
theorem d_C_moveRight_7 : decode b_C_moveRight 7 = .ok (.istore 6, 2) := by decide +kernel
theorem d_C_moveRight_9 : decode b_C_moveRight 9 = .ok (.iload 6, 2) := by decide +kernel
theorem d_C_moveRight_11 : decode b_C_moveRight 11 = .ok (.bipush 8, 2) := by decide +kernel
theorem d_C_moveRight_13 : decode b_C_moveRight 13 = .ok (.if_icmp .ge 52, 3) := by decide +kernel
theorem d_C_moveRight_16 : decode b_C_moveRight 16 = .ok (.aload_n 1, 1) := by decide +kernel
theorem d_C_moveRight_17 : decode b_C_moveRight 17 = .ok (.iload 6, 2) := by decide +kernel
theorem d_C_moveRight_19 : decode b_C_moveRight 19 = .ok (.iload 5, 2) := by decide +kernel
theorem d_C_moveRight_21 : decode b_C_moveRight 21 = .ok (.iadd, 1) := by decide +kernel
theorem d_C_moveRight_22 : decode b_C_moveRight 22 = .ok (.iconst 1, 1) := by decide +kernel
theorem d_C_moveRight_23 : decode b_C_moveRight 23 = .ok (.iadd, 1) := by decide +kernel
theorem d_C_moveRight_24 : decode b_C_moveRight 24 = .ok (.lload_n 3, 1) := by decide +kernel
theorem d_C_moveRight_25 : decode b_C_moveRight 25 = .ok (.invokestatic 158, 3) := by decide +kernel
theorem d_C_moveRight_28 : decode b_C_moveRight 28 = .ok (.bipush 32, 2) := by decide +kernel
theorem d_C_moveRight_30 : decode b_C_moveRight 30 = .ok (.lshl, 1) := by decide +kernel
theorem d_C_moveRight_31 : decode b_C_moveRight 31 = .ok (.aload_n 1, 1) := by decide +kernel
theorem d_C_moveRight_32 : decode b_C_moveRight 32 = .ok (.iload 6, 2) := by decide +kernel
theorem d_C_moveRight_34 : decode b_C_moveRight 34 = .ok (.iload 5, 2) := by decide +kernel
theorem d_C_moveRight_36 : decode b_C_moveRight 36 = .ok (.iadd, 1) := by decide +kernel
theorem d_C_moveRight_37 : decode b_C_moveRight 37 = .ok (.lload_n 3, 1) := by decide +kernel
theorem d_C_moveRight_38 : decode b_C_moveRight 38 = .ok (.invokestatic 158, 3) := by decide +kernel
theorem d_C_moveRight_41 : decode b_C_moveRight 41 = .ok (.lor, 1) := by decide +kernel
theorem d_C_moveRight_42 : decode b_C_moveRight 42 = .ok (.lstore 7, 2) := by decide +kernel
theorem d_C_moveRight_44 : decode b_C_moveRight 44 = .ok (.aload_n 0, 1) := by decide +kernel
theorem d_C_moveRight_45 : decode b_C_moveRight 45 = .ok (.iload 6, 2) := by decide +kernel
theorem d_C_moveRight_47 : decode b_C_moveRight 47 = .ok (.lload 7, 2) := by decide +kernel
theorem d_C_moveRight_49 : decode b_C_moveRight 49 = .ok (.iload_n 2, 1) := by decide +kernel
theorem d_C_moveRight_50 : decode b_C_moveRight 50 = .ok (.bipush 32, 2) := by decide +kernel
theorem d_C_moveRight_52 : decode b_C_moveRight 52 = .ok (.irem, 1) := by decide +kernel
theorem d_C_moveRight_53 : decode b_C_moveRight 53 = .ok (.lushr, 1) := by decide +kernel
theorem d_C_moveRight_54 : decode b_C_moveRight 54 = .ok (.ldc2_w 142, 3) := by decide +kernel
theorem d_C_moveRight_57 : decode b_C_moveRight 57 = .ok (.land, 1) := by decide +kernel
theorem d_C_moveRight_58 : decode b_C_moveRight 58 = .ok (.lastore, 1) := by decide +kernel
theorem d_C_moveRight_59 : decode b_C_moveRight 59 = .ok (.iinc 6 1, 3) := by decide +kernel
theorem d_C_moveRight_62 : decode b_C_moveRight 62 = .ok (.goto (-53), 3) := by decide +kernel
theorem d_C_moveRight_65 : decode b_C_moveRight 65 = .ok (.return_, 1) := by decide +kernel
theorem d_C_pickByte_0 : decode b_C_pickByte 0 = .ok (.aload_n 0, 1) := by decide +kernel
theorem d_C_pickByte_1 : decode b_C_pickByte 1 = .ok (.getfield 14, 3) := by decide +kernel
theorem d_C_pickByte_4 : decode b_C_pickByte 4 = .ok (.lconst 0, 1) := by decide +kernel
theorem d_C_pickByte_5 : decode b_C_pickByte 5 = .ok (.invokestatic 60, 3) := by decide +kernel
theorem d_C_pickByte_8 : decode b_C_pickByte 8 = .ok (.aload_n 1, 1) := by decide +kernel
theorem d_C_pickByte_9 : decode b_C_pickByte 9 = .ok (.bipush 32, 2) := by decide +kernel
theorem d_C_pickByte_11 : decode b_C_pickByte 11 = .ok (.invokestatic 114, 3) := by decide +kernel
theorem d_C_pickByte_14 : decode b_C_pickByte 14 = .ok (.istore_n 3, 1) := by decide +kernel
theorem d_C_pickByte_15 : decode b_C_pickByte 15 = .ok (.iload_n 3, 1) := by decide +kernel
theorem d_C_pickByte_16 : decode b_C_pickByte 16 = .ok (.bipush 32, 2) := by decide +kernel
theorem d_C_pickByte_18 : decode b_C_pickByte 18 = .ok (.if_icmp .ge 35, 3) := by decide +kernel
theorem d_C_pickByte_21 : decode b_C_pickByte 21 = .ok (.bipush 8, 2) := by decide +kernel
theorem d_C_pickByte_23 : decode b_C_pickByte 23 = .ok (.bipush 31, 2) := by decide +kernel
theorem d_C_pickByte_25 : decode b_C_pickByte 25 = .ok (.iload_n 3, 1) := by decide +kernel
theorem d_C_pickByte_26 : decode b_C_pickByte 26 = .ok (.isub, 1) := by decide +kernel
theorem d_C_pickByte_27 : decode b_C_pickByte 27 = .ok (.imul, 1) := by decide +kernel
theorem d_C_pickByte_28 : decode b_C_pickByte 28 = .ok (.istore 4, 2) := by decide +kernel
theorem d_C_pickByte_30 : decode b_C_pickByte 30 = .ok (.aload_n 0, 1) := by decide +kernel
theorem d_C_pickByte_31 : decode b_C_pickByte 31 = .ok (.getfield 14, 3) := by decide +kernel
theorem d_C_pickByte_34 : decode b_C_pickByte 34 = .ok (.iconst 0, 1) := by decide +kernel
theorem d_C_pickByte_35 : decode b_C_pickByte 35 = .ok (.aload_n 2, 1) := by decide +kernel
theorem d_C_pickByte_36 : decode b_C_pickByte 36 = .ok (.iload 4, 2) := by decide +kernel
theorem d_C_pickByte_38 : decode b_C_pickByte 38 = .ok (.bipush 32, 2) := by decide +kernel
theorem d_C_pickByte_40 : decode b_C_pickByte 40 = .ok (.idiv, 1) := by decide +kernel
theorem d_C_pickByte_41 : decode b_C_pickByte 41 = .ok (.laload, 1) := by decide +kernel
theorem d_C_pickByte_42 : decode b_C_pickByte 42 = .ok (.iload 4, 2) := by decide +kernel
theorem d_C_pickByte_44 : decode b_C_pickByte 44 = .ok (.bipush 32, 2) := by decide +kernel
theorem d_C_pickByte_46 : decode b_C_pickByte 46 = .ok (.irem, 1) := by decide +kernel
theorem d_C_pickByte_47 : decode b_C_pickByte 47 = .ok (.lushr, 1) := by decide +kernel
theorem d_C_pickByte_48 : decode b_C_pickByte 48 = .ok (.ldc2_w 162, 3) := by decide +kernel
theorem d_C_pickByte_51 : decode b_C_pickByte 51 = .ok (.land, 1) := by decide +kernel
theorem d_C_pickByte_52 : decode b_C_pickByte 52 = .ok (.lastore, 1) := by decide +kernel
theorem d_C_pickByte_53 : decode b_C_pickByte 53 = .ok (.return_, 1) := by decide +kernel
theorem d_C_and_0 : decode b_C_and 0 = .ok (.iconst 0, 1) := by decide +kernel
theorem d_C_and_1 : decode b_C_and 1 = .ok (.istore_n 3, 1) := by decide +kernel
theorem d_C_and_2 : decode b_C_and 2 = .ok (.iload_n 3, 1) := by decide +kernel
theorem d_C_and_3 : decode b_C_and 3 = .ok (.bipush 8, 2) := by decide +kernel
theorem d_C_and_5 : decode b_C_and 5 = .ok (.if_icmp .ge 19, 3) := by decide +kernel
theorem d_C_and_8 : decode b_C_and 8 = .ok (.aload_n 0, 1) := by decide +kernel
theorem d_C_and_9 : decode b_C_and 9 = .ok (.iload_n 3, 1) := by decide +kernel
theorem d_C_and_10 : decode b_C_and 10 = .ok (.aload_n 1, 1) := by decide +kernel
theorem d_C_and_11 : decode b_C_and 11 = .ok (.iload_n 3, 1) := by decide +kernel
theorem d_C_and_12 : decode b_C_and 12 = .ok (.laload, 1) := by decide +kernel
theorem d_C_and_13 : decode b_C_and 13 = .ok (.aload_n 2, 1) := by decide +kernel
theorem d_C_and_14 : decode b_C_and 14 = .ok (.iload_n 3, 1) := by decide +kernel
theorem d_C_and_15 : decode b_C_and 15 = .ok (.laload, 1) := by decide +kernel
theorem d_C_and_16 : decode b_C_and 16 = .ok (.land, 1) := by decide +kernel
theorem d_C_and_17 : decode b_C_and 17 = .ok (.lastore, 1) := by decide +kernel
theorem d_C_and_18 : decode b_C_and 18 = .ok (.iinc 3 1, 3) := by decide +kernel
theorem d_C_and_21 : decode b_C_and 21 = .ok (.goto (-19), 3) := by decide +kernel
theorem d_C_and_24 : decode b_C_and 24 = .ok (.return_, 1) := by decide +kernel
theorem d_C_or_0 : decode b_C_or 0 = .ok (.iconst 0, 1) := by decide +kernel
theorem d_C_or_1 : decode b_C_or 1 = .ok (.istore_n 3, 1) := by decide +kernel
theorem d_C_or_2 : decode b_C_or 2 = .ok (.iload_n 3, 1) := by decide +kernel
theorem d_C_or_3 : decode b_C_or 3 = .ok (.bipush 8, 2) := by decide +kernel
theorem d_C_or_5 : decode b_C_or 5 = .ok (.if_icmp .ge 19, 3) := by decide +kernel
theorem d_C_or_8 : decode b_C_or 8 = .ok (.aload_n 0, 1) := by decide +kernel
theorem d_C_or_9 : decode b_C_or 9 = .ok (.iload_n 3, 1) := by decide +kernel
theorem d_C_or_10 : decode b_C_or 10 = .ok (.aload_n 1, 1) := by decide +kernel
theorem d_C_or_11 : decode b_C_or 11 = .ok (.iload_n 3, 1) := by decide +kernel
theorem d_C_or_12 : decode b_C_or 12 = .ok (.laload, 1) := by decide +kernel
theorem d_C_or_13 : decode b_C_or 13 = .ok (.aload_n 2, 1) := by decide +kernel
theorem d_C_or_14 : decode b_C_or 14 = .ok (.iload_n 3, 1) := by decide +kernel
theorem d_C_or_15 : decode b_C_or 15 = .ok (.laload, 1) := by decide +kernel
theorem d_C_or_16 : decode b_C_or 16 = .ok (.lor, 1) := by decide +kernel
theorem d_C_or_17 : decode b_C_or 17 = .ok (.lastore, 1) := by decide +kernel
theorem d_C_or_18 : decode b_C_or 18 = .ok (.iinc 3 1, 3) := by decide +kernel
theorem d_C_or_21 : decode b_C_or 21 = .ok (.goto (-19), 3) := by decide +kernel
theorem d_C_or_24 : decode b_C_or 24 = .ok (.return_, 1) := by decide +kernel
theorem d_C_exclusiveOr_0 : decode b_C_exclusiveOr 0 = .ok (.iconst 0, 1) := by decide +kernel
theorem d_C_exclusiveOr_1 : decode b_C_exclusiveOr 1 = .ok (.istore_n 3, 1) := by decide +kernel
theorem d_C_exclusiveOr_2 : decode b_C_exclusiveOr 2 = .ok (.iload_n 3, 1) := by decide +kernel
theorem d_C_exclusiveOr_3 : decode b_C_exclusiveOr 3 = .ok (.bipush 8, 2) := by decide +kernel
theorem d_C_exclusiveOr_5 : decode b_C_exclusiveOr 5 = .ok (.if_icmp .ge 19, 3) := by decide +kernel
theorem d_C_exclusiveOr_8 : decode b_C_exclusiveOr 8 = .ok (.aload_n 0, 1) := by decide +kernel
theorem d_C_exclusiveOr_9 : decode b_C_exclusiveOr 9 = .ok (.iload_n 3, 1) := by decide +kernel
theorem d_C_exclusiveOr_10 : decode b_C_exclusiveOr 10 = .ok (.aload_n 1, 1) := by decide +kernel
theorem d_C_exclusiveOr_11 : decode b_C_exclusiveOr 11 = .ok (.iload_n 3, 1) := by decide +kernel
theorem d_C_exclusiveOr_12 : decode b_C_exclusiveOr 12 = .ok (.laload, 1) := by decide +kernel
theorem d_C_exclusiveOr_13 : decode b_C_exclusiveOr 13 = .ok (.aload_n 2, 1) := by decide +kernel
theorem d_C_exclusiveOr_14 : decode b_C_exclusiveOr 14 = .ok (.iload_n 3, 1) := by decide +kernel
theorem d_C_exclusiveOr_15 : decode b_C_exclusiveOr 15 = .ok (.laload, 1) := by decide +kernel
theorem d_C_exclusiveOr_16 : decode b_C_exclusiveOr 16 = .ok (.lxor, 1) := by decide +kernel
theorem d_C_exclusiveOr_17 : decode b_C_exclusiveOr 17 = .ok (.lastore, 1) := by decide +kernel
theorem d_C_exclusiveOr_18 : decode b_C_exclusiveOr 18 = .ok (.iinc 3 1, 3) := by decide +kernel
theorem d_C_exclusiveOr_21 : decode b_C_exclusiveOr 21 = .ok (.goto (-19), 3) := by decide +kernel
theorem d_C_exclusiveOr_24 : decode b_C_exclusiveOr 24 = .ok (.return_, 1) := by decide +kernel
theorem d_C_modular_0 : decode b_C_modular 0 = .ok (.iload_n 1, 1) := by decide +kernel
theorem d_C_modular_1 : decode b_C_modular 1 = .ok (.bipush 16, 2) := by decide +kernel
theorem d_C_modular_3 : decode b_C_modular 3 = .ok (.invokestatic 33, 3) := by decide +kernel
theorem d_C_modular_6 : decode b_C_modular 6 = .ok (.iload_n 2, 1) := by decide +kernel
theorem d_C_modular_7 : decode b_C_modular 7 = .ok (.bipush 16, 2) := by decide +kernel
theorem d_C_modular_9 : decode b_C_modular 9 = .ok (.invokestatic 33, 3) := by decide +kernel
theorem d_C_modular_12 : decode b_C_modular 12 = .ok (.iload_n 3, 1) := by decide +kernel
theorem d_C_modular_13 : decode b_C_modular 13 = .ok (.bipush 16, 2) := by decide +kernel
theorem d_C_modular_15 : decode b_C_modular 15 = .ok (.invokestatic 33, 3) := by decide +kernel
theorem d_C_modular_18 : decode b_C_modular 18 = .ok (.iload 4, 2) := by decide +kernel
theorem d_C_modular_20 : decode b_C_modular 20 = .ok (.bipush 16, 2) := by decide +kernel
theorem d_C_modular_22 : decode b_C_modular 22 = .ok (.invokestatic 33, 3) := by decide +kernel
theorem d_C_modular_25 : decode b_C_modular 25 = .ok (.iload 5, 2) := by decide +kernel
theorem d_C_modular_27 : decode b_C_modular 27 = .ok (.ifCond .eq 25, 3) := by decide +kernel
theorem d_C_modular_30 : decode b_C_modular 30 = .ok (.aload_n 0, 1) := by decide +kernel
theorem d_C_modular_31 : decode b_C_modular 31 = .ok (.getfield 24, 3) := by decide +kernel
theorem d_C_modular_34 : decode b_C_modular 34 = .ok (.aload_n 0, 1) := by decide +kernel
theorem d_C_modular_35 : decode b_C_modular 35 = .ok (.getfield 11, 3) := by decide +kernel
theorem d_C_modular_38 : decode b_C_modular 38 = .ok (.iload_n 2, 1) := by decide +kernel
theorem d_C_modular_39 : decode b_C_modular 39 = .ok (.aaload, 1) := by decide +kernel
theorem d_C_modular_40 : decode b_C_modular 40 = .ok (.aload_n 0, 1) := by decide +kernel
theorem d_C_modular_41 : decode b_C_modular 41 = .ok (.getfield 11, 3) := by decide +kernel
theorem d_C_modular_44 : decode b_C_modular 44 = .ok (.iload_n 3, 1) := by decide +kernel
theorem d_C_modular_45 : decode b_C_modular 45 = .ok (.aaload, 1) := by decide +kernel
theorem d_C_modular_46 : decode b_C_modular 46 = .ok (.invokestatic 56, 3) := by decide +kernel
theorem d_C_modular_49 : decode b_C_modular 49 = .ok (.goto 37, 3) := by decide +kernel
theorem d_C_modular_52 : decode b_C_modular 52 = .ok (.aload_n 0, 1) := by decide +kernel
theorem d_C_modular_53 : decode b_C_modular 53 = .ok (.getfield 24, 3) := by decide +kernel
theorem d_C_modular_56 : decode b_C_modular 56 = .ok (.lconst 0, 1) := by decide +kernel
theorem d_C_modular_57 : decode b_C_modular 57 = .ok (.invokestatic 60, 3) := by decide +kernel
theorem d_C_modular_60 : decode b_C_modular 60 = .ok (.aload_n 0, 1) := by decide +kernel
theorem d_C_modular_61 : decode b_C_modular 61 = .ok (.getfield 24, 3) := by decide +kernel
theorem d_C_modular_64 : decode b_C_modular 64 = .ok (.bipush 8, 2) := by decide +kernel
theorem d_C_modular_66 : decode b_C_modular 66 = .ok (.aload_n 0, 1) := by decide +kernel
theorem d_C_modular_67 : decode b_C_modular 67 = .ok (.getfield 24, 3) := by decide +kernel
theorem d_C_modular_70 : decode b_C_modular 70 = .ok (.aload_n 0, 1) := by decide +kernel
theorem d_C_modular_71 : decode b_C_modular 71 = .ok (.getfield 11, 3) := by decide +kernel
theorem d_C_modular_74 : decode b_C_modular 74 = .ok (.iload_n 2, 1) := by decide +kernel
theorem d_C_modular_75 : decode b_C_modular 75 = .ok (.aaload, 1) := by decide +kernel
theorem d_C_modular_76 : decode b_C_modular 76 = .ok (.aload_n 0, 1) := by decide +kernel
theorem d_C_modular_77 : decode b_C_modular 77 = .ok (.getfield 11, 3) := by decide +kernel
theorem d_C_modular_80 : decode b_C_modular 80 = .ok (.iload_n 3, 1) := by decide +kernel
theorem d_C_modular_81 : decode b_C_modular 81 = .ok (.aaload, 1) := by decide +kernel
theorem d_C_modular_82 : decode b_C_modular 82 = .ok (.invokestatic 66, 3) := by decide +kernel
theorem d_C_modular_85 : decode b_C_modular 85 = .ok (.lastore, 1) := by decide +kernel
theorem d_C_modular_86 : decode b_C_modular 86 = .ok (.aload_n 0, 1) := by decide +kernel
theorem d_C_modular_87 : decode b_C_modular 87 = .ok (.aload_n 0, 1) := by decide +kernel
theorem d_C_modular_88 : decode b_C_modular 88 = .ok (.getfield 24, 3) := by decide +kernel
theorem d_C_modular_91 : decode b_C_modular 91 = .ok (.aload_n 0, 1) := by decide +kernel
theorem d_C_modular_92 : decode b_C_modular 92 = .ok (.getfield 11, 3) := by decide +kernel
theorem d_C_modular_95 : decode b_C_modular 95 = .ok (.iload 4, 2) := by decide +kernel
theorem d_C_modular_97 : decode b_C_modular 97 = .ok (.aaload, 1) := by decide +kernel
theorem d_C_modular_98 : decode b_C_modular 98 = .ok (.invokevirtual 70, 3) := by decide +kernel
theorem d_C_modular_101 : decode b_C_modular 101 = .ok (.aload_n 0, 1) := by decide +kernel
theorem d_C_modular_102 : decode b_C_modular 102 = .ok (.getfield 11, 3) := by decide +kernel
theorem d_C_modular_105 : decode b_C_modular 105 = .ok (.iload_n 1, 1) := by decide +kernel
theorem d_C_modular_106 : decode b_C_modular 106 = .ok (.aaload, 1) := by decide +kernel
theorem d_C_modular_107 : decode b_C_modular 107 = .ok (.aload_n 0, 1) := by decide +kernel
theorem d_C_modular_108 : decode b_C_modular 108 = .ok (.getfield 30, 3) := by decide +kernel
theorem d_C_modular_111 : decode b_C_modular 111 = .ok (.invokestatic 52, 3) := by decide +kernel
theorem d_C_modular_114 : decode b_C_modular 114 = .ok (.return_, 1) := by decide +kernel
theorem d_C_turn_0 : decode b_C_turn 0 = .ok (.iload_n 1, 1) := by decide +kernel
theorem d_C_turn_1 : decode b_C_turn 1 = .ok (.bipush 16, 2) := by decide +kernel
theorem d_C_turn_3 : decode b_C_turn 3 = .ok (.invokestatic 33, 3) := by decide +kernel
theorem d_C_turn_6 : decode b_C_turn 6 = .ok (.iload_n 2, 1) := by decide +kernel
theorem d_C_turn_7 : decode b_C_turn 7 = .ok (.bipush 16, 2) := by decide +kernel
theorem d_C_turn_9 : decode b_C_turn 9 = .ok (.invokestatic 33, 3) := by decide +kernel
theorem d_C_turn_12 : decode b_C_turn 12 = .ok (.iload_n 3, 1) := by decide +kernel
theorem d_C_turn_13 : decode b_C_turn 13 = .ok (.ifCond .eq 19, 3) := by decide +kernel
theorem d_C_turn_16 : decode b_C_turn 16 = .ok (.aload_n 0, 1) := by decide +kernel
theorem d_C_turn_17 : decode b_C_turn 17 = .ok (.getfield 14, 3) := by decide +kernel
theorem d_C_turn_20 : decode b_C_turn 20 = .ok (.aload_n 0, 1) := by decide +kernel
theorem d_C_turn_21 : decode b_C_turn 21 = .ok (.getfield 11, 3) := by decide +kernel
theorem d_C_turn_24 : decode b_C_turn 24 = .ok (.iload_n 2, 1) := by decide +kernel
theorem d_C_turn_25 : decode b_C_turn 25 = .ok (.aaload, 1) := by decide +kernel
theorem d_C_turn_26 : decode b_C_turn 26 = .ok (.invokestatic 73, 3) := by decide +kernel
theorem d_C_turn_29 : decode b_C_turn 29 = .ok (.goto 16, 3) := by decide +kernel
theorem d_C_turn_32 : decode b_C_turn 32 = .ok (.aload_n 0, 1) := by decide +kernel
theorem d_C_turn_33 : decode b_C_turn 33 = .ok (.getfield 14, 3) := by decide +kernel
theorem d_C_turn_36 : decode b_C_turn 36 = .ok (.aload_n 0, 1) := by decide +kernel
theorem d_C_turn_37 : decode b_C_turn 37 = .ok (.getfield 11, 3) := by decide +kernel
theorem d_C_turn_40 : decode b_C_turn 40 = .ok (.iload_n 2, 1) := by decide +kernel
theorem d_C_turn_41 : decode b_C_turn 41 = .ok (.aaload, 1) := by decide +kernel
theorem d_C_turn_42 : decode b_C_turn 42 = .ok (.invokestatic 76, 3) := by decide +kernel
theorem d_C_turn_45 : decode b_C_turn 45 = .ok (.aload_n 0, 1) := by decide +kernel
theorem d_C_turn_46 : decode b_C_turn 46 = .ok (.getfield 11, 3) := by decide +kernel
theorem d_C_turn_49 : decode b_C_turn 49 = .ok (.iload_n 1, 1) := by decide +kernel
theorem d_C_turn_50 : decode b_C_turn 50 = .ok (.aaload, 1) := by decide +kernel
theorem d_C_turn_51 : decode b_C_turn 51 = .ok (.aload_n 0, 1) := by decide +kernel
theorem d_C_turn_52 : decode b_C_turn 52 = .ok (.getfield 14, 3) := by decide +kernel
theorem d_C_turn_55 : decode b_C_turn 55 = .ok (.invokestatic 52, 3) := by decide +kernel
theorem d_C_turn_58 : decode b_C_turn 58 = .ok (.return_, 1) := by decide +kernel
theorem d_C_invert_0 : decode b_C_invert 0 = .ok (.iconst 0, 1) := by decide +kernel
theorem d_C_invert_1 : decode b_C_invert 1 = .ok (.istore_n 2, 1) := by decide +kernel
theorem d_C_invert_2 : decode b_C_invert 2 = .ok (.iload_n 2, 1) := by decide +kernel
theorem d_C_invert_3 : decode b_C_invert 3 = .ok (.bipush 8, 2) := by decide +kernel
theorem d_C_invert_5 : decode b_C_invert 5 = .ok (.if_icmp .ge 19, 3) := by decide +kernel
theorem d_C_invert_8 : decode b_C_invert 8 = .ok (.aload_n 0, 1) := by decide +kernel
theorem d_C_invert_9 : decode b_C_invert 9 = .ok (.iload_n 2, 1) := by decide +kernel
theorem d_C_invert_10 : decode b_C_invert 10 = .ok (.aload_n 1, 1) := by decide +kernel
theorem d_C_invert_11 : decode b_C_invert 11 = .ok (.iload_n 2, 1) := by decide +kernel
theorem d_C_invert_12 : decode b_C_invert 12 = .ok (.laload, 1) := by decide +kernel
theorem d_C_invert_13 : decode b_C_invert 13 = .ok (.ldc2_w 142, 3) := by decide +kernel
theorem d_C_invert_16 : decode b_C_invert 16 = .ok (.lxor, 1) := by decide +kernel
theorem d_C_invert_17 : decode b_C_invert 17 = .ok (.lastore, 1) := by decide +kernel
theorem d_C_invert_18 : decode b_C_invert 18 = .ok (.iinc 2 1, 3) := by decide +kernel
theorem d_C_invert_21 : decode b_C_invert 21 = .ok (.goto (-19), 3) := by decide +kernel
theorem d_C_invert_24 : decode b_C_invert 24 = .ok (.return_, 1) := by decide +kernel
theorem d_C_compare_0 : decode b_C_compare 0 = .ok (.iload_n 1, 1) := by decide +kernel
theorem d_C_compare_1 : decode b_C_compare 1 = .ok (.bipush 16, 2) := by decide +kernel
theorem d_C_compare_3 : decode b_C_compare 3 = .ok (.invokestatic 33, 3) := by decide +kernel
theorem d_C_compare_6 : decode b_C_compare 6 = .ok (.iload_n 2, 1) := by decide +kernel
theorem d_C_compare_7 : decode b_C_compare 7 = .ok (.bipush 16, 2) := by decide +kernel
theorem d_C_compare_9 : decode b_C_compare 9 = .ok (.invokestatic 33, 3) := by decide +kernel
theorem d_C_compare_12 : decode b_C_compare 12 = .ok (.aload_n 0, 1) := by decide +kernel
theorem d_C_compare_13 : decode b_C_compare 13 = .ok (.getfield 11, 3) := by decide +kernel
theorem d_C_compare_16 : decode b_C_compare 16 = .ok (.iload_n 1, 1) := by decide +kernel
theorem d_C_compare_17 : decode b_C_compare 17 = .ok (.aaload, 1) := by decide +kernel
theorem d_C_compare_18 : decode b_C_compare 18 = .ok (.invokestatic 79, 3) := by decide +kernel
theorem d_C_compare_21 : decode b_C_compare 21 = .ok (.istore 4, 2) := by decide +kernel
theorem d_C_compare_23 : decode b_C_compare 23 = .ok (.iload_n 3, 1) := by decide +kernel
theorem d_C_compare_24 : decode b_C_compare 24 = .ok (.ifCond .eq 28, 3) := by decide +kernel
theorem d_C_compare_27 : decode b_C_compare 27 = .ok (.iload 4, 2) := by decide +kernel
theorem d_C_compare_29 : decode b_C_compare 29 = .ok (.aload_n 0, 1) := by decide +kernel
theorem d_C_compare_30 : decode b_C_compare 30 = .ok (.getfield 11, 3) := by decide +kernel
theorem d_C_compare_33 : decode b_C_compare 33 = .ok (.iload_n 2, 1) := by decide +kernel
theorem d_C_compare_34 : decode b_C_compare 34 = .ok (.aaload, 1) := by decide +kernel
theorem d_C_compare_35 : decode b_C_compare 35 = .ok (.invokestatic 79, 3) := by decide +kernel
theorem d_C_compare_38 : decode b_C_compare 38 = .ok (.if_icmp .eq 14, 3) := by decide +kernel
theorem d_C_compare_41 : decode b_C_compare 41 = .ok (.iload 4, 2) := by decide +kernel
theorem d_C_compare_43 : decode b_C_compare 43 = .ok (.ifCond .eq 7, 3) := by decide +kernel
theorem d_C_compare_46 : decode b_C_compare 46 = .ok (.iconst (-1), 1) := by decide +kernel
theorem d_C_compare_47 : decode b_C_compare 47 = .ok (.goto 4, 3) := by decide +kernel
theorem d_C_compare_50 : decode b_C_compare 50 = .ok (.iconst 1, 1) := by decide +kernel
theorem d_C_compare_51 : decode b_C_compare 51 = .ok (.ireturn, 1) := by decide +kernel
theorem d_C_compare_52 : decode b_C_compare 52 = .ok (.aload_n 0, 1) := by decide +kernel
theorem d_C_compare_53 : decode b_C_compare 53 = .ok (.getfield 11, 3) := by decide +kernel
theorem d_C_compare_56 : decode b_C_compare 56 = .ok (.iload_n 1, 1) := by decide +kernel
theorem d_C_compare_57 : decode b_C_compare 57 = .ok (.aaload, 1) := by decide +kernel
theorem d_C_compare_58 : decode b_C_compare 58 = .ok (.aload_n 0, 1) := by decide +kernel
theorem d_C_compare_59 : decode b_C_compare 59 = .ok (.getfield 11, 3) := by decide +kernel
theorem d_C_compare_62 : decode b_C_compare 62 = .ok (.iload_n 2, 1) := by decide +kernel
theorem d_C_compare_63 : decode b_C_compare 63 = .ok (.aaload, 1) := by decide +kernel
theorem d_C_compare_64 : decode b_C_compare 64 = .ok (.invokestatic 83, 3) := by decide +kernel
theorem d_C_compare_67 : decode b_C_compare 67 = .ok (.ireturn, 1) := by decide +kernel
theorem d_C_bytes_0 : decode b_C_bytes 0 = .ok (.iload_n 1, 1) := by decide +kernel
theorem d_C_bytes_1 : decode b_C_bytes 1 = .ok (.bipush 16, 2) := by decide +kernel
theorem d_C_bytes_3 : decode b_C_bytes 3 = .ok (.invokestatic 33, 3) := by decide +kernel
theorem d_C_bytes_6 : decode b_C_bytes 6 = .ok (.aload_n 0, 1) := by decide +kernel
theorem d_C_bytes_7 : decode b_C_bytes 7 = .ok (.getfield 11, 3) := by decide +kernel
theorem d_C_bytes_10 : decode b_C_bytes 10 = .ok (.iload_n 1, 1) := by decide +kernel
theorem d_C_bytes_11 : decode b_C_bytes 11 = .ok (.aaload, 1) := by decide +kernel
theorem d_C_bytes_12 : decode b_C_bytes 12 = .ok (.invokestatic 87, 3) := by decide +kernel
theorem d_C_bytes_15 : decode b_C_bytes 15 = .ok (.bipush 8, 2) := by decide +kernel
theorem d_C_bytes_17 : decode b_C_bytes 17 = .ok (.iadd, 1) := by decide +kernel
theorem d_C_bytes_18 : decode b_C_bytes 18 = .ok (.iconst 1, 1) := by decide +kernel
theorem d_C_bytes_19 : decode b_C_bytes 19 = .ok (.isub, 1) := by decide +kernel
theorem d_C_bytes_20 : decode b_C_bytes 20 = .ok (.bipush 8, 2) := by decide +kernel
theorem d_C_bytes_22 : decode b_C_bytes 22 = .ok (.idiv, 1) := by decide +kernel
theorem d_C_bytes_23 : decode b_C_bytes 23 = .ok (.ireturn, 1) := by decide +kernel
end
section
-- decode rows
theorem d_M_init_0 : decode b_M_init 0 = .ok (.aload_n 0, 1) := by decide +kernel
theorem d_M_init_1 : decode b_M_init 1 = .ok (.invokespecial 1, 3) := by decide +kernel
theorem d_M_init_4 : decode b_M_init 4 = .ok (.aload_n 0, 1) := by decide +kernel
theorem d_M_init_5 : decode b_M_init 5 = .ok (.bipush 16, 2) := by decide +kernel
theorem d_M_init_7 : decode b_M_init 7 = .ok (.bipush 8, 2) := by decide +kernel
theorem d_M_init_9 : decode b_M_init 9 = .ok (.multianewarray 7 2, 4) := by decide +kernel
theorem d_M_init_13 : decode b_M_init 13 = .ok (.putfield 9, 3) := by decide +kernel
theorem d_M_init_16 : decode b_M_init 16 = .ok (.aload_n 0, 1) := by decide +kernel
theorem d_M_init_17 : decode b_M_init 17 = .ok (.bipush 8, 2) := by decide +kernel
theorem d_M_init_19 : decode b_M_init 19 = .ok (.newarray .int, 2) := by decide +kernel
theorem d_M_init_21 : decode b_M_init 21 = .ok (.putfield 14, 3) := by decide +kernel
theorem d_M_init_24 : decode b_M_init 24 = .ok (.aload_n 0, 1) := by decide +kernel
theorem d_M_init_25 : decode b_M_init 25 = .ok (.bipush 8, 2) := by decide +kernel
theorem d_M_init_27 : decode b_M_init 27 = .ok (.newarray .int, 2) := by decide +kernel
theorem d_M_init_29 : decode b_M_init 29 = .ok (.putfield 18, 3) := by decide +kernel
theorem d_M_init_32 : decode b_M_init 32 = .ok (.aload_n 0, 1) := by decide +kernel
theorem d_M_init_33 : decode b_M_init 33 = .ok (.bipush 8, 2) := by decide +kernel
theorem d_M_init_35 : decode b_M_init 35 = .ok (.newarray .int, 2) := by decide +kernel
theorem d_M_init_37 : decode b_M_init 37 = .ok (.putfield 21, 3) := by decide +kernel
theorem d_M_init_40 : decode b_M_init 40 = .ok (.aload_n 0, 1) := by decide +kernel
theorem d_M_init_41 : decode b_M_init 41 = .ok (.bipush 8, 2) := by decide +kernel
theorem d_M_init_43 : decode b_M_init 43 = .ok (.newarray .int, 2) := by decide +kernel
theorem d_M_init_45 : decode b_M_init 45 = .ok (.putfield 24, 3) := by decide +kernel
theorem d_M_init_48 : decode b_M_init 48 = .ok (.aload_n 0, 1) := by decide +kernel
theorem d_M_init_49 : decode b_M_init 49 = .ok (.bipush 17, 2) := by decide +kernel
theorem d_M_init_51 : decode b_M_init 51 = .ok (.newarray .int, 2) := by decide +kernel
theorem d_M_init_53 : decode b_M_init 53 = .ok (.putfield 27, 3) := by decide +kernel
theorem d_M_init_56 : decode b_M_init 56 = .ok (.aload_n 0, 1) := by decide +kernel
theorem d_M_init_57 : decode b_M_init 57 = .ok (.bipush 16, 2) := by decide +kernel
theorem d_M_init_59 : decode b_M_init 59 = .ok (.newarray .int, 2) := by decide +kernel
theorem d_M_init_61 : decode b_M_init 61 = .ok (.putfield 30, 3) := by decide +kernel
theorem d_M_init_64 : decode b_M_init 64 = .ok (.aload_n 0, 1) := by decide +kernel
theorem d_M_init_65 : decode b_M_init 65 = .ok (.bipush 9, 2) := by decide +kernel
theorem d_M_init_67 : decode b_M_init 67 = .ok (.newarray .int, 2) := by decide +kernel
theorem d_M_init_69 : decode b_M_init 69 = .ok (.putfield 33, 3) := by decide +kernel
theorem d_M_init_72 : decode b_M_init 72 = .ok (.return_, 1) := by decide +kernel
theorem d_M_thrown_0 : decode b_M_thrown 0 = .ok (.aload_n 0, 1) := by decide +kernel
theorem d_M_thrown_1 : decode b_M_thrown 1 = .ok (.getfield 36, 3) := by decide +kernel
theorem d_M_thrown_4 : decode b_M_thrown 4 = .ok (.ireturn, 1) := by decide +kernel
theorem d_M_set_IJJJJV_0 : decode b_M_set_IJJJJV 0 = .ok (.aload_n 0, 1) := by decide +kernel
theorem d_M_set_IJJJJV_1 : decode b_M_set_IJJJJV 1 = .ok (.iconst 0, 1) := by decide +kernel
theorem d_M_set_IJJJJV_2 : decode b_M_set_IJJJJV 2 = .ok (.putfield 36, 3) := by decide +kernel
theorem d_M_set_IJJJJV_5 : decode b_M_set_IJJJJV 5 = .ok (.aload_n 0, 1) := by decide +kernel
theorem d_M_set_IJJJJV_6 : decode b_M_set_IJJJJV 6 = .ok (.iload_n 1, 1) := by decide +kernel
theorem d_M_set_IJJJJV_7 : decode b_M_set_IJJJJV 7 = .ok (.invokevirtual 90, 3) := by decide +kernel
theorem d_M_set_IJJJJV_10 : decode b_M_set_IJJJJV 10 = .ok (.ifCond .eq 11, 3) := by decide +kernel
theorem d_M_set_IJJJJV_13 : decode b_M_set_IJJJJV 13 = .ok (.aload_n 0, 1) := by decide +kernel
theorem d_M_set_IJJJJV_14 : decode b_M_set_IJJJJV 14 = .ok (.iconst 1, 1) := by decide +kernel
theorem d_M_set_IJJJJV_15 : decode b_M_set_IJJJJV 15 = .ok (.putfield 36, 3) := by decide +kernel
theorem d_M_set_IJJJJV_18 : decode b_M_set_IJJJJV 18 = .ok (.goto 86, 3) := by decide +kernel
theorem d_M_set_IJJJJV_21 : decode b_M_set_IJJJJV 21 = .ok (.iconst 0, 1) := by decide +kernel
theorem d_M_set_IJJJJV_22 : decode b_M_set_IJJJJV 22 = .ok (.istore 10, 2) := by decide +kernel
theorem d_M_set_IJJJJV_24 : decode b_M_set_IJJJJV 24 = .ok (.iload 10, 2) := by decide +kernel
theorem d_M_set_IJJJJV_26 : decode b_M_set_IJJJJV 26 = .ok (.iconst 4, 1) := by decide +kernel
theorem d_M_set_IJJJJV_27 : decode b_M_set_IJJJJV 27 = .ok (.if_icmp .ge 77, 3) := by decide +kernel
theorem d_M_set_IJJJJV_30 : decode b_M_set_IJJJJV 30 = .ok (.iload 10, 2) := by decide +kernel
theorem d_M_set_IJJJJV_32 : decode b_M_set_IJJJJV 32 = .ok (.ifCond .ne 8, 3) := by decide +kernel
theorem d_M_set_IJJJJV_35 : decode b_M_set_IJJJJV 35 = .ok (.lload 8, 2) := by decide +kernel
theorem d_M_set_IJJJJV_37 : decode b_M_set_IJJJJV 37 = .ok (.goto 26, 3) := by decide +kernel
theorem d_M_set_IJJJJV_40 : decode b_M_set_IJJJJV 40 = .ok (.iload 10, 2) := by decide +kernel
theorem d_M_set_IJJJJV_42 : decode b_M_set_IJJJJV 42 = .ok (.iconst 1, 1) := by decide +kernel
theorem d_M_set_IJJJJV_43 : decode b_M_set_IJJJJV 43 = .ok (.if_icmp .ne 8, 3) := by decide +kernel
theorem d_M_set_IJJJJV_46 : decode b_M_set_IJJJJV 46 = .ok (.lload 6, 2) := by decide +kernel
theorem d_M_set_IJJJJV_48 : decode b_M_set_IJJJJV 48 = .ok (.goto 15, 3) := by decide +kernel
theorem d_M_set_IJJJJV_51 : decode b_M_set_IJJJJV 51 = .ok (.iload 10, 2) := by decide +kernel
theorem d_M_set_IJJJJV_53 : decode b_M_set_IJJJJV 53 = .ok (.iconst 2, 1) := by decide +kernel
theorem d_M_set_IJJJJV_54 : decode b_M_set_IJJJJV 54 = .ok (.if_icmp .ne 8, 3) := by decide +kernel
theorem d_M_set_IJJJJV_57 : decode b_M_set_IJJJJV 57 = .ok (.lload 4, 2) := by decide +kernel
theorem d_M_set_IJJJJV_59 : decode b_M_set_IJJJJV 59 = .ok (.goto 4, 3) := by decide +kernel
theorem d_M_set_IJJJJV_62 : decode b_M_set_IJJJJV 62 = .ok (.lload_n 2, 1) := by decide +kernel
theorem d_M_set_IJJJJV_63 : decode b_M_set_IJJJJV 63 = .ok (.lstore 11, 2) := by decide +kernel
theorem d_M_set_IJJJJV_65 : decode b_M_set_IJJJJV 65 = .ok (.aload_n 0, 1) := by decide +kernel
theorem d_M_set_IJJJJV_66 : decode b_M_set_IJJJJV 66 = .ok (.getfield 9, 3) := by decide +kernel
theorem d_M_set_IJJJJV_69 : decode b_M_set_IJJJJV 69 = .ok (.iload_n 1, 1) := by decide +kernel
theorem d_M_set_IJJJJV_70 : decode b_M_set_IJJJJV 70 = .ok (.aaload, 1) := by decide +kernel
theorem d_M_set_IJJJJV_71 : decode b_M_set_IJJJJV 71 = .ok (.iconst 2, 1) := by decide +kernel
theorem d_M_set_IJJJJV_72 : decode b_M_set_IJJJJV 72 = .ok (.iload 10, 2) := by decide +kernel
theorem d_M_set_IJJJJV_74 : decode b_M_set_IJJJJV 74 = .ok (.imul, 1) := by decide +kernel
theorem d_M_set_IJJJJV_75 : decode b_M_set_IJJJJV 75 = .ok (.lload 11, 2) := by decide +kernel
theorem d_M_set_IJJJJV_77 : decode b_M_set_IJJJJV 77 = .ok (.l2i, 1) := by decide +kernel
theorem d_M_set_IJJJJV_78 : decode b_M_set_IJJJJV 78 = .ok (.iastore, 1) := by decide +kernel
theorem d_M_set_IJJJJV_79 : decode b_M_set_IJJJJV 79 = .ok (.aload_n 0, 1) := by decide +kernel
theorem d_M_set_IJJJJV_80 : decode b_M_set_IJJJJV 80 = .ok (.getfield 9, 3) := by decide +kernel
theorem d_M_set_IJJJJV_83 : decode b_M_set_IJJJJV 83 = .ok (.iload_n 1, 1) := by decide +kernel
theorem d_M_set_IJJJJV_84 : decode b_M_set_IJJJJV 84 = .ok (.aaload, 1) := by decide +kernel
theorem d_M_set_IJJJJV_85 : decode b_M_set_IJJJJV 85 = .ok (.iconst 2, 1) := by decide +kernel
theorem d_M_set_IJJJJV_86 : decode b_M_set_IJJJJV 86 = .ok (.iload 10, 2) := by decide +kernel
theorem d_M_set_IJJJJV_88 : decode b_M_set_IJJJJV 88 = .ok (.imul, 1) := by decide +kernel
theorem d_M_set_IJJJJV_89 : decode b_M_set_IJJJJV 89 = .ok (.iconst 1, 1) := by decide +kernel
theorem d_M_set_IJJJJV_90 : decode b_M_set_IJJJJV 90 = .ok (.iadd, 1) := by decide +kernel
theorem d_M_set_IJJJJV_91 : decode b_M_set_IJJJJV 91 = .ok (.lload 11, 2) := by decide +kernel
theorem d_M_set_IJJJJV_93 : decode b_M_set_IJJJJV 93 = .ok (.bipush 32, 2) := by decide +kernel
theorem d_M_set_IJJJJV_95 : decode b_M_set_IJJJJV 95 = .ok (.lushr, 1) := by decide +kernel
theorem d_M_set_IJJJJV_96 : decode b_M_set_IJJJJV 96 = .ok (.l2i, 1) := by decide +kernel
theorem d_M_set_IJJJJV_97 : decode b_M_set_IJJJJV 97 = .ok (.iastore, 1) := by decide +kernel
theorem d_M_set_IJJJJV_98 : decode b_M_set_IJJJJV 98 = .ok (.iinc 10 1, 3) := by decide +kernel
theorem d_M_set_IJJJJV_101 : decode b_M_set_IJJJJV 101 = .ok (.goto (-77), 3) := by decide +kernel
theorem d_M_set_IJJJJV_104 : decode b_M_set_IJJJJV 104 = .ok (.return_, 1) := by decide +kernel
theorem d_M_out_0 : decode b_M_out 0 = .ok (.iload_n 1, 1) := by decide +kernel
theorem d_M_out_1 : decode b_M_out 1 = .ok (.ifCond .lt 9, 3) := by decide +kernel
theorem d_M_out_4 : decode b_M_out 4 = .ok (.iload_n 1, 1) := by decide +kernel
theorem d_M_out_5 : decode b_M_out 5 = .ok (.bipush 15, 2) := by decide +kernel
theorem d_M_out_7 : decode b_M_out 7 = .ok (.if_icmp .le 7, 3) := by decide +kernel
theorem d_M_out_10 : decode b_M_out 10 = .ok (.iconst 1, 1) := by decide +kernel
theorem d_M_out_11 : decode b_M_out 11 = .ok (.goto 4, 3) := by decide +kernel
theorem d_M_out_14 : decode b_M_out 14 = .ok (.iconst 0, 1) := by decide +kernel
theorem d_M_out_15 : decode b_M_out 15 = .ok (.ireturn, 1) := by decide +kernel
theorem d_M_get_0 : decode b_M_get 0 = .ok (.aload_n 0, 1) := by decide +kernel
theorem d_M_get_1 : decode b_M_get 1 = .ok (.iconst 0, 1) := by decide +kernel
theorem d_M_get_2 : decode b_M_get 2 = .ok (.putfield 36, 3) := by decide +kernel
theorem d_M_get_5 : decode b_M_get 5 = .ok (.aload_n 0, 1) := by decide +kernel
theorem d_M_get_6 : decode b_M_get 6 = .ok (.iload_n 1, 1) := by decide +kernel
theorem d_M_get_7 : decode b_M_get 7 = .ok (.invokevirtual 90, 3) := by decide +kernel
theorem d_M_get_10 : decode b_M_get 10 = .ok (.ifCond .ne 12, 3) := by decide +kernel
theorem d_M_get_13 : decode b_M_get 13 = .ok (.iload_n 2, 1) := by decide +kernel
theorem d_M_get_14 : decode b_M_get 14 = .ok (.ifCond .lt 8, 3) := by decide +kernel
theorem d_M_get_17 : decode b_M_get 17 = .ok (.iload_n 2, 1) := by decide +kernel
theorem d_M_get_18 : decode b_M_get 18 = .ok (.iconst 3, 1) := by decide +kernel
theorem d_M_get_19 : decode b_M_get 19 = .ok (.if_icmp .le 12, 3) := by decide +kernel
theorem d_M_get_22 : decode b_M_get 22 = .ok (.aload_n 0, 1) := by decide +kernel
theorem d_M_get_23 : decode b_M_get 23 = .ok (.iconst 1, 1) := by decide +kernel
theorem d_M_get_24 : decode b_M_get 24 = .ok (.invokevirtual 94, 3) := by decide +kernel
theorem d_M_get_27 : decode b_M_get 27 = .ok (.i2l, 1) := by decide +kernel
theorem d_M_get_28 : decode b_M_get 28 = .ok (.goto 13, 3) := by decide +kernel
theorem d_M_get_31 : decode b_M_get 31 = .ok (.aload_n 0, 1) := by decide +kernel
theorem d_M_get_32 : decode b_M_get 32 = .ok (.getfield 9, 3) := by decide +kernel
theorem d_M_get_35 : decode b_M_get 35 = .ok (.iload_n 1, 1) := by decide +kernel
theorem d_M_get_36 : decode b_M_get 36 = .ok (.aaload, 1) := by decide +kernel
theorem d_M_get_37 : decode b_M_get 37 = .ok (.iload_n 2, 1) := by decide +kernel
theorem d_M_get_38 : decode b_M_get 38 = .ok (.invokestatic 98, 3) := by decide +kernel
theorem d_M_get_41 : decode b_M_get 41 = .ok (.lreturn, 1) := by decide +kernel
theorem d_M_fail_0 : decode b_M_fail 0 = .ok (.aload_n 0, 1) := by decide +kernel
theorem d_M_fail_1 : decode b_M_fail 1 = .ok (.iload_n 1, 1) := by decide +kernel
theorem d_M_fail_2 : decode b_M_fail 2 = .ok (.putfield 36, 3) := by decide +kernel
theorem d_M_fail_5 : decode b_M_fail 5 = .ok (.iconst 0, 1) := by decide +kernel
theorem d_M_fail_6 : decode b_M_fail 6 = .ok (.ireturn, 1) := by decide +kernel
theorem d_M_part_0 : decode b_M_part 0 = .ok (.iconst 2, 1) := by decide +kernel
theorem d_M_part_1 : decode b_M_part 1 = .ok (.iconst 3, 1) := by decide +kernel
theorem d_M_part_2 : decode b_M_part 2 = .ok (.iload_n 1, 1) := by decide +kernel
theorem d_M_part_3 : decode b_M_part 3 = .ok (.isub, 1) := by decide +kernel
theorem d_M_part_4 : decode b_M_part 4 = .ok (.imul, 1) := by decide +kernel
theorem d_M_part_5 : decode b_M_part 5 = .ok (.istore_n 2, 1) := by decide +kernel
theorem d_M_part_6 : decode b_M_part 6 = .ok (.aload_n 0, 1) := by decide +kernel
theorem d_M_part_7 : decode b_M_part 7 = .ok (.iload_n 2, 1) := by decide +kernel
theorem d_M_part_8 : decode b_M_part 8 = .ok (.iconst 1, 1) := by decide +kernel
theorem d_M_part_9 : decode b_M_part 9 = .ok (.iadd, 1) := by decide +kernel
theorem d_M_part_10 : decode b_M_part 10 = .ok (.iaload, 1) := by decide +kernel
theorem d_M_part_11 : decode b_M_part 11 = .ok (.i2l, 1) := by decide +kernel
theorem d_M_part_12 : decode b_M_part 12 = .ok (.ldc2_w 40, 3) := by decide +kernel
theorem d_M_part_15 : decode b_M_part 15 = .ok (.land, 1) := by decide +kernel
theorem d_M_part_16 : decode b_M_part 16 = .ok (.bipush 32, 2) := by decide +kernel
theorem d_M_part_18 : decode b_M_part 18 = .ok (.lshl, 1) := by decide +kernel
theorem d_M_part_19 : decode b_M_part 19 = .ok (.aload_n 0, 1) := by decide +kernel
theorem d_M_part_20 : decode b_M_part 20 = .ok (.iload_n 2, 1) := by decide +kernel
theorem d_M_part_21 : decode b_M_part 21 = .ok (.iaload, 1) := by decide +kernel
theorem d_M_part_22 : decode b_M_part 22 = .ok (.i2l, 1) := by decide +kernel
theorem d_M_part_23 : decode b_M_part 23 = .ok (.ldc2_w 40, 3) := by decide +kernel
theorem d_M_part_26 : decode b_M_part 26 = .ok (.land, 1) := by decide +kernel
theorem d_M_part_27 : decode b_M_part 27 = .ok (.lor, 1) := by decide +kernel
theorem d_M_part_28 : decode b_M_part 28 = .ok (.lreturn, 1) := by decide +kernel
theorem d_M_two_0 : decode b_M_two 0 = .ok (.aload_n 0, 1) := by decide +kernel
theorem d_M_two_1 : decode b_M_two 1 = .ok (.iconst 0, 1) := by decide +kernel
theorem d_M_two_2 : decode b_M_two 2 = .ok (.putfield 36, 3) := by decide +kernel
theorem d_M_two_5 : decode b_M_two 5 = .ok (.iload_n 1, 1) := by decide +kernel
theorem d_M_two_6 : decode b_M_two 6 = .ok (.ifCond .lt 34, 3) := by decide +kernel
theorem d_M_two_9 : decode b_M_two 9 = .ok (.iload_n 1, 1) := by decide +kernel
theorem d_M_two_10 : decode b_M_two 10 = .ok (.bipush 15, 2) := by decide +kernel
theorem d_M_two_12 : decode b_M_two 12 = .ok (.if_icmp .gt 28, 3) := by decide +kernel
theorem d_M_two_15 : decode b_M_two 15 = .ok (.aload_n 0, 1) := by decide +kernel
theorem d_M_two_16 : decode b_M_two 16 = .ok (.iload_n 2, 1) := by decide +kernel
theorem d_M_two_17 : decode b_M_two 17 = .ok (.invokevirtual 90, 3) := by decide +kernel
theorem d_M_two_20 : decode b_M_two 20 = .ok (.ifCond .ne 20, 3) := by decide +kernel
theorem d_M_two_23 : decode b_M_two 23 = .ok (.aload_n 0, 1) := by decide +kernel
theorem d_M_two_24 : decode b_M_two 24 = .ok (.iload_n 3, 1) := by decide +kernel
theorem d_M_two_25 : decode b_M_two 25 = .ok (.invokevirtual 90, 3) := by decide +kernel
theorem d_M_two_28 : decode b_M_two 28 = .ok (.ifCond .ne 12, 3) := by decide +kernel
theorem d_M_two_31 : decode b_M_two 31 = .ok (.aload_n 0, 1) := by decide +kernel
theorem d_M_two_32 : decode b_M_two 32 = .ok (.iload 4, 2) := by decide +kernel
theorem d_M_two_34 : decode b_M_two 34 = .ok (.invokevirtual 90, 3) := by decide +kernel
theorem d_M_two_37 : decode b_M_two 37 = .ok (.ifCond .eq 11, 3) := by decide +kernel
theorem d_M_two_40 : decode b_M_two 40 = .ok (.aload_n 0, 1) := by decide +kernel
theorem d_M_two_41 : decode b_M_two 41 = .ok (.iconst 1, 1) := by decide +kernel
theorem d_M_two_42 : decode b_M_two 42 = .ok (.putfield 36, 3) := by decide +kernel
theorem d_M_two_45 : decode b_M_two 45 = .ok (.goto 34, 3) := by decide +kernel
theorem d_M_two_48 : decode b_M_two 48 = .ok (.aload_n 0, 1) := by decide +kernel
theorem d_M_two_49 : decode b_M_two 49 = .ok (.iload_n 1, 1) := by decide +kernel
theorem d_M_two_50 : decode b_M_two 50 = .ok (.aload_n 0, 1) := by decide +kernel
theorem d_M_two_51 : decode b_M_two 51 = .ok (.getfield 9, 3) := by decide +kernel
theorem d_M_two_54 : decode b_M_two 54 = .ok (.iload_n 3, 1) := by decide +kernel
theorem d_M_two_55 : decode b_M_two 55 = .ok (.aaload, 1) := by decide +kernel
theorem d_M_two_56 : decode b_M_two 56 = .ok (.aload_n 0, 1) := by decide +kernel
theorem d_M_two_57 : decode b_M_two 57 = .ok (.getfield 9, 3) := by decide +kernel
theorem d_M_two_60 : decode b_M_two 60 = .ok (.iload 4, 2) := by decide +kernel
theorem d_M_two_62 : decode b_M_two 62 = .ok (.aaload, 1) := by decide +kernel
theorem d_M_two_63 : decode b_M_two 63 = .ok (.invokevirtual 102, 3) := by decide +kernel
theorem d_M_two_66 : decode b_M_two 66 = .ok (.aload_n 0, 1) := by decide +kernel
theorem d_M_two_67 : decode b_M_two 67 = .ok (.getfield 9, 3) := by decide +kernel
theorem d_M_two_70 : decode b_M_two 70 = .ok (.iload_n 2, 1) := by decide +kernel
theorem d_M_two_71 : decode b_M_two 71 = .ok (.aaload, 1) := by decide +kernel
theorem d_M_two_72 : decode b_M_two 72 = .ok (.aload_n 0, 1) := by decide +kernel
theorem d_M_two_73 : decode b_M_two 73 = .ok (.getfield 21, 3) := by decide +kernel
theorem d_M_two_76 : decode b_M_two 76 = .ok (.invokestatic 58, 3) := by decide +kernel
theorem d_M_two_79 : decode b_M_two 79 = .ok (.return_, 1) := by decide +kernel
theorem d_M_work_0 : decode b_M_work 0 = .ok (.iload_n 1, 1) := by decide +kernel
theorem d_M_work_1 : decode b_M_work 1 = .ok (.iconst 2, 1) := by decide +kernel
theorem d_M_work_2 : decode b_M_work 2 = .ok (.if_icmp .le 20, 3) := by decide +kernel
theorem d_M_work_5 : decode b_M_work 5 = .ok (.iload_n 1, 1) := by decide +kernel
theorem d_M_work_6 : decode b_M_work 6 = .ok (.bipush 7, 2) := by decide +kernel
theorem d_M_work_8 : decode b_M_work 8 = .ok (.if_icmp .ge 14, 3) := by decide +kernel
theorem d_M_work_11 : decode b_M_work 11 = .ok (.aload_n 3, 1) := by decide +kernel
theorem d_M_work_12 : decode b_M_work 12 = .ok (.invokestatic 106, 3) := by decide +kernel
theorem d_M_work_15 : decode b_M_work 15 = .ok (.ifCond .eq 7, 3) := by decide +kernel
theorem d_M_work_18 : decode b_M_work 18 = .ok (.iconst 1, 1) := by decide +kernel
theorem d_M_work_19 : decode b_M_work 19 = .ok (.goto 4, 3) := by decide +kernel
theorem d_M_work_22 : decode b_M_work 22 = .ok (.iconst 0, 1) := by decide +kernel
theorem d_M_work_23 : decode b_M_work 23 = .ok (.istore 4, 2) := by decide +kernel
theorem d_M_work_25 : decode b_M_work 25 = .ok (.iload 4, 2) := by decide +kernel
theorem d_M_work_27 : decode b_M_work 27 = .ok (.ifCond .eq 13, 3) := by decide +kernel
theorem d_M_work_30 : decode b_M_work 30 = .ok (.aload_n 0, 1) := by decide +kernel
theorem d_M_work_31 : decode b_M_work 31 = .ok (.getfield 21, 3) := by decide +kernel
theorem d_M_work_34 : decode b_M_work 34 = .ok (.invokestatic 42, 3) := by decide +kernel
theorem d_M_work_37 : decode b_M_work 37 = .ok (.goto 431, 3) := by decide +kernel
theorem d_M_work_40 : decode b_M_work 40 = .ok (.iload_n 1, 1) := by decide +kernel
theorem d_M_work_41 : decode b_M_work 41 = .ok (.ifCond .ne 17, 3) := by decide +kernel
theorem d_M_work_44 : decode b_M_work 44 = .ok (.aload_n 0, 1) := by decide +kernel
theorem d_M_work_45 : decode b_M_work 45 = .ok (.getfield 21, 3) := by decide +kernel
theorem d_M_work_48 : decode b_M_work 48 = .ok (.aload_n 2, 1) := by decide +kernel
theorem d_M_work_49 : decode b_M_work 49 = .ok (.aload_n 3, 1) := by decide +kernel
theorem d_M_work_50 : decode b_M_work 50 = .ok (.invokestatic 109, 3) := by decide +kernel
theorem d_M_work_53 : decode b_M_work 53 = .ok (.istore 5, 2) := by decide +kernel
theorem d_M_work_55 : decode b_M_work 55 = .ok (.goto 413, 3) := by decide +kernel
theorem d_M_work_58 : decode b_M_work 58 = .ok (.iload_n 1, 1) := by decide +kernel
theorem d_M_work_59 : decode b_M_work 59 = .ok (.iconst 1, 1) := by decide +kernel
theorem d_M_work_60 : decode b_M_work 60 = .ok (.if_icmp .ne 15, 3) := by decide +kernel
theorem d_M_work_63 : decode b_M_work 63 = .ok (.aload_n 0, 1) := by decide +kernel
theorem d_M_work_64 : decode b_M_work 64 = .ok (.getfield 21, 3) := by decide +kernel
theorem d_M_work_67 : decode b_M_work 67 = .ok (.aload_n 2, 1) := by decide +kernel
theorem d_M_work_68 : decode b_M_work 68 = .ok (.aload_n 3, 1) := by decide +kernel
theorem d_M_work_69 : decode b_M_work 69 = .ok (.invokestatic 46, 3) := by decide +kernel
theorem d_M_work_72 : decode b_M_work 72 = .ok (.goto 396, 3) := by decide +kernel
theorem d_M_work_75 : decode b_M_work 75 = .ok (.iload_n 1, 1) := by decide +kernel
theorem d_M_work_76 : decode b_M_work 76 = .ok (.iconst 2, 1) := by decide +kernel
theorem d_M_work_77 : decode b_M_work 77 = .ok (.if_icmp .ne 23, 3) := by decide +kernel
theorem d_M_work_80 : decode b_M_work 80 = .ok (.aload_n 0, 1) := by decide +kernel
theorem d_M_work_81 : decode b_M_work 81 = .ok (.aload_n 2, 1) := by decide +kernel
theorem d_M_work_82 : decode b_M_work 82 = .ok (.aload_n 3, 1) := by decide +kernel
theorem d_M_work_83 : decode b_M_work 83 = .ok (.invokevirtual 75, 3) := by decide +kernel
theorem d_M_work_86 : decode b_M_work 86 = .ok (.aload_n 0, 1) := by decide +kernel
theorem d_M_work_87 : decode b_M_work 87 = .ok (.getfield 21, 3) := by decide +kernel
theorem d_M_work_90 : decode b_M_work 90 = .ok (.aload_n 0, 1) := by decide +kernel
theorem d_M_work_91 : decode b_M_work 91 = .ok (.getfield 27, 3) := by decide +kernel
theorem d_M_work_94 : decode b_M_work 94 = .ok (.invokestatic 68, 3) := by decide +kernel
theorem d_M_work_97 : decode b_M_work 97 = .ok (.goto 371, 3) := by decide +kernel
theorem d_M_work_100 : decode b_M_work 100 = .ok (.iload_n 1, 1) := by decide +kernel
theorem d_M_work_101 : decode b_M_work 101 = .ok (.iconst 5, 1) := by decide +kernel
theorem d_M_work_102 : decode b_M_work 102 = .ok (.if_icmp .ge 35, 3) := by decide +kernel
theorem d_M_work_105 : decode b_M_work 105 = .ok (.aload_n 0, 1) := by decide +kernel
theorem d_M_work_106 : decode b_M_work 106 = .ok (.aload_n 2, 1) := by decide +kernel
theorem d_M_work_107 : decode b_M_work 107 = .ok (.aload_n 3, 1) := by decide +kernel
theorem d_M_work_108 : decode b_M_work 108 = .ok (.invokevirtual 65, 3) := by decide +kernel
theorem d_M_work_111 : decode b_M_work 111 = .ok (.aload_n 0, 1) := by decide +kernel
theorem d_M_work_112 : decode b_M_work 112 = .ok (.getfield 21, 3) := by decide +kernel
theorem d_M_work_115 : decode b_M_work 115 = .ok (.iload_n 1, 1) := by decide +kernel
theorem d_M_work_116 : decode b_M_work 116 = .ok (.iconst 3, 1) := by decide +kernel
theorem d_M_work_117 : decode b_M_work 117 = .ok (.if_icmp .ne 10, 3) := by decide +kernel
theorem d_M_work_120 : decode b_M_work 120 = .ok (.aload_n 0, 1) := by decide +kernel
theorem d_M_work_121 : decode b_M_work 121 = .ok (.getfield 30, 3) := by decide +kernel
theorem d_M_work_124 : decode b_M_work 124 = .ok (.goto 7, 3) := by decide +kernel
theorem d_M_work_127 : decode b_M_work 127 = .ok (.aload_n 0, 1) := by decide +kernel
theorem d_M_work_128 : decode b_M_work 128 = .ok (.getfield 33, 3) := by decide +kernel
theorem d_M_work_131 : decode b_M_work 131 = .ok (.invokestatic 68, 3) := by decide +kernel
theorem d_M_work_134 : decode b_M_work 134 = .ok (.goto 334, 3) := by decide +kernel
theorem d_M_work_137 : decode b_M_work 137 = .ok (.iload_n 1, 1) := by decide +kernel
theorem d_M_work_138 : decode b_M_work 138 = .ok (.bipush 7, 2) := by decide +kernel
theorem d_M_work_140 : decode b_M_work 140 = .ok (.if_icmp .ge 27, 3) := by decide +kernel
theorem d_M_work_143 : decode b_M_work 143 = .ok (.aload_n 0, 1) := by decide +kernel
theorem d_M_work_144 : decode b_M_work 144 = .ok (.aload_n 0, 1) := by decide +kernel
theorem d_M_work_145 : decode b_M_work 145 = .ok (.getfield 21, 3) := by decide +kernel
theorem d_M_work_148 : decode b_M_work 148 = .ok (.aload_n 2, 1) := by decide +kernel
theorem d_M_work_149 : decode b_M_work 149 = .ok (.aload_n 3, 1) := by decide +kernel
theorem d_M_work_150 : decode b_M_work 150 = .ok (.iload_n 1, 1) := by decide +kernel
theorem d_M_work_151 : decode b_M_work 151 = .ok (.bipush 6, 2) := by decide +kernel
theorem d_M_work_153 : decode b_M_work 153 = .ok (.if_icmp .ne 7, 3) := by decide +kernel
theorem d_M_work_156 : decode b_M_work 156 = .ok (.iconst 1, 1) := by decide +kernel
theorem d_M_work_157 : decode b_M_work 157 = .ok (.goto 4, 3) := by decide +kernel
theorem d_M_work_160 : decode b_M_work 160 = .ok (.iconst 0, 1) := by decide +kernel
theorem d_M_work_161 : decode b_M_work 161 = .ok (.invokevirtual 113, 3) := by decide +kernel
theorem d_M_work_164 : decode b_M_work 164 = .ok (.goto 304, 3) := by decide +kernel
theorem d_M_work_167 : decode b_M_work 167 = .ok (.iload_n 1, 1) := by decide +kernel
theorem d_M_work_168 : decode b_M_work 168 = .ok (.bipush 7, 2) := by decide +kernel
theorem d_M_work_170 : decode b_M_work 170 = .ok (.if_icmp .ne 12, 3) := by decide +kernel
theorem d_M_work_173 : decode b_M_work 173 = .ok (.aload_n 0, 1) := by decide +kernel
theorem d_M_work_174 : decode b_M_work 174 = .ok (.aload_n 2, 1) := by decide +kernel
theorem d_M_work_175 : decode b_M_work 175 = .ok (.aload_n 3, 1) := by decide +kernel
theorem d_M_work_176 : decode b_M_work 176 = .ok (.invokevirtual 117, 3) := by decide +kernel
theorem d_M_work_179 : decode b_M_work 179 = .ok (.goto 289, 3) := by decide +kernel
theorem d_M_work_182 : decode b_M_work 182 = .ok (.iload_n 1, 1) := by decide +kernel
theorem d_M_work_183 : decode b_M_work 183 = .ok (.bipush 8, 2) := by decide +kernel
theorem d_M_work_185 : decode b_M_work 185 = .ok (.if_icmp .ne 12, 3) := by decide +kernel
theorem d_M_work_188 : decode b_M_work 188 = .ok (.aload_n 0, 1) := by decide +kernel
theorem d_M_work_189 : decode b_M_work 189 = .ok (.aload_n 2, 1) := by decide +kernel
theorem d_M_work_190 : decode b_M_work 190 = .ok (.aload_n 3, 1) := by decide +kernel
theorem d_M_work_191 : decode b_M_work 191 = .ok (.invokevirtual 120, 3) := by decide +kernel
theorem d_M_work_194 : decode b_M_work 194 = .ok (.goto 274, 3) := by decide +kernel
theorem d_M_work_197 : decode b_M_work 197 = .ok (.iload_n 1, 1) := by decide +kernel
theorem d_M_work_198 : decode b_M_work 198 = .ok (.bipush 12, 2) := by decide +kernel
theorem d_M_work_200 : decode b_M_work 200 = .ok (.if_icmp .ge 135, 3) := by decide +kernel
theorem d_M_work_203 : decode b_M_work 203 = .ok (.aload_n 2, 1) := by decide +kernel
theorem d_M_work_204 : decode b_M_work 204 = .ok (.ldc2_w 123, 3) := by decide +kernel
theorem d_M_work_207 : decode b_M_work 207 = .ok (.invokestatic 84, 3) := by decide +kernel
theorem d_M_work_210 : decode b_M_work 210 = .ok (.lstore 5, 2) := by decide +kernel
theorem d_M_work_212 : decode b_M_work 212 = .ok (.iload_n 1, 1) := by decide +kernel
theorem d_M_work_213 : decode b_M_work 213 = .ok (.bipush 11, 2) := by decide +kernel
theorem d_M_work_215 : decode b_M_work 215 = .ok (.if_icmp .ne 13, 3) := by decide +kernel
theorem d_M_work_218 : decode b_M_work 218 = .ok (.aload_n 3, 1) := by decide +kernel
theorem d_M_work_219 : decode b_M_work 219 = .ok (.sipush 255, 3) := by decide +kernel
theorem d_M_work_222 : decode b_M_work 222 = .ok (.invokestatic 78, 3) := by decide +kernel
theorem d_M_work_225 : decode b_M_work 225 = .ok (.goto 4, 3) := by decide +kernel
theorem d_M_work_228 : decode b_M_work 228 = .ok (.iconst 0, 1) := by decide +kernel
theorem d_M_work_229 : decode b_M_work 229 = .ok (.istore 7, 2) := by decide +kernel
theorem d_M_work_231 : decode b_M_work 231 = .ok (.aload_n 0, 1) := by decide +kernel
theorem d_M_work_232 : decode b_M_work 232 = .ok (.getfield 21, 3) := by decide +kernel
theorem d_M_work_235 : decode b_M_work 235 = .ok (.invokestatic 42, 3) := by decide +kernel
theorem d_M_work_238 : decode b_M_work 238 = .ok (.iconst 0, 1) := by decide +kernel
theorem d_M_work_239 : decode b_M_work 239 = .ok (.istore 8, 2) := by decide +kernel
theorem d_M_work_241 : decode b_M_work 241 = .ok (.iload 8, 2) := by decide +kernel
theorem d_M_work_243 : decode b_M_work 243 = .ok (.sipush 256, 3) := by decide +kernel
theorem d_M_work_246 : decode b_M_work 246 = .ok (.if_icmp .ge 86, 3) := by decide +kernel
theorem d_M_work_249 : decode b_M_work 249 = .ok (.iload_n 1, 1) := by decide +kernel
theorem d_M_work_250 : decode b_M_work 250 = .ok (.bipush 9, 2) := by decide +kernel
theorem d_M_work_252 : decode b_M_work 252 = .ok (.if_icmp .ne 12, 3) := by decide +kernel
theorem d_M_work_255 : decode b_M_work 255 = .ok (.iload 8, 2) := by decide +kernel
theorem d_M_work_257 : decode b_M_work 257 = .ok (.i2l, 1) := by decide +kernel
theorem d_M_work_258 : decode b_M_work 258 = .ok (.lload 5, 2) := by decide +kernel
theorem d_M_work_260 : decode b_M_work 260 = .ok (.lsub, 1) := by decide +kernel
theorem d_M_work_261 : decode b_M_work 261 = .ok (.goto 9, 3) := by decide +kernel
theorem d_M_work_264 : decode b_M_work 264 = .ok (.iload 8, 2) := by decide +kernel
theorem d_M_work_266 : decode b_M_work 266 = .ok (.i2l, 1) := by decide +kernel
theorem d_M_work_267 : decode b_M_work 267 = .ok (.lload 5, 2) := by decide +kernel
theorem d_M_work_269 : decode b_M_work 269 = .ok (.ladd, 1) := by decide +kernel
theorem d_M_work_270 : decode b_M_work 270 = .ok (.lstore 9, 2) := by decide +kernel
theorem d_M_work_272 : decode b_M_work 272 = .ok (.lload 9, 2) := by decide +kernel
theorem d_M_work_274 : decode b_M_work 274 = .ok (.lconst 0, 1) := by decide +kernel
theorem d_M_work_275 : decode b_M_work 275 = .ok (.lcmp, 1) := by decide +kernel
theorem d_M_work_276 : decode b_M_work 276 = .ok (.ifCond .ge 7, 3) := by decide +kernel
theorem d_M_work_279 : decode b_M_work 279 = .ok (.iconst 0, 1) := by decide +kernel
theorem d_M_work_280 : decode b_M_work 280 = .ok (.goto 24, 3) := by decide +kernel
theorem d_M_work_283 : decode b_M_work 283 = .ok (.lload 9, 2) := by decide +kernel
theorem d_M_work_285 : decode b_M_work 285 = .ok (.ldc2_w 125, 3) := by decide +kernel
theorem d_M_work_288 : decode b_M_work 288 = .ok (.lcmp, 1) := by decide +kernel
theorem d_M_work_289 : decode b_M_work 289 = .ok (.ifCond .le 8, 3) := by decide +kernel
theorem d_M_work_292 : decode b_M_work 292 = .ok (.iload 7, 2) := by decide +kernel
theorem d_M_work_294 : decode b_M_work 294 = .ok (.goto 10, 3) := by decide +kernel
theorem d_M_work_297 : decode b_M_work 297 = .ok (.aload_n 3, 1) := by decide +kernel
theorem d_M_work_298 : decode b_M_work 298 = .ok (.lload 9, 2) := by decide +kernel
theorem d_M_work_300 : decode b_M_work 300 = .ok (.l2i, 1) := by decide +kernel
theorem d_M_work_301 : decode b_M_work 301 = .ok (.invokestatic 78, 3) := by decide +kernel
theorem d_M_work_304 : decode b_M_work 304 = .ok (.istore 11, 2) := by decide +kernel
theorem d_M_work_306 : decode b_M_work 306 = .ok (.aload_n 0, 1) := by decide +kernel
theorem d_M_work_307 : decode b_M_work 307 = .ok (.getfield 21, 3) := by decide +kernel
theorem d_M_work_310 : decode b_M_work 310 = .ok (.iload 8, 2) := by decide +kernel
theorem d_M_work_312 : decode b_M_work 312 = .ok (.iconst 5, 1) := by decide +kernel
theorem d_M_work_313 : decode b_M_work 313 = .ok (.ishr, 1) := by decide +kernel
theorem d_M_work_314 : decode b_M_work 314 = .ok (.dup2, 1) := by decide +kernel
theorem d_M_work_315 : decode b_M_work 315 = .ok (.iaload, 1) := by decide +kernel
theorem d_M_work_316 : decode b_M_work 316 = .ok (.iload 11, 2) := by decide +kernel
theorem d_M_work_318 : decode b_M_work 318 = .ok (.iload 8, 2) := by decide +kernel
theorem d_M_work_320 : decode b_M_work 320 = .ok (.bipush 31, 2) := by decide +kernel
theorem d_M_work_322 : decode b_M_work 322 = .ok (.iand, 1) := by decide +kernel
theorem d_M_work_323 : decode b_M_work 323 = .ok (.ishl, 1) := by decide +kernel
theorem d_M_work_324 : decode b_M_work 324 = .ok (.ior, 1) := by decide +kernel
theorem d_M_work_325 : decode b_M_work 325 = .ok (.iastore, 1) := by decide +kernel
theorem d_M_work_326 : decode b_M_work 326 = .ok (.iinc 8 1, 3) := by decide +kernel
theorem d_M_work_329 : decode b_M_work 329 = .ok (.goto (-88), 3) := by decide +kernel
theorem d_M_work_332 : decode b_M_work 332 = .ok (.goto 136, 3) := by decide +kernel
theorem d_M_work_335 : decode b_M_work 335 = .ok (.iload_n 1, 1) := by decide +kernel
theorem d_M_work_336 : decode b_M_work 336 = .ok (.bipush 12, 2) := by decide +kernel
theorem d_M_work_338 : decode b_M_work 338 = .ok (.if_icmp .ne 62, 3) := by decide +kernel
theorem d_M_work_341 : decode b_M_work 341 = .ok (.aload_n 2, 1) := by decide +kernel
theorem d_M_work_342 : decode b_M_work 342 = .ok (.ldc2_w 127, 3) := by decide +kernel
theorem d_M_work_345 : decode b_M_work 345 = .ok (.invokestatic 84, 3) := by decide +kernel
theorem d_M_work_348 : decode b_M_work 348 = .ok (.lstore 5, 2) := by decide +kernel
theorem d_M_work_350 : decode b_M_work 350 = .ok (.bipush 31, 2) := by decide +kernel
theorem d_M_work_352 : decode b_M_work 352 = .ok (.lload 5, 2) := by decide +kernel
theorem d_M_work_354 : decode b_M_work 354 = .ok (.l2i, 1) := by decide +kernel
theorem d_M_work_355 : decode b_M_work 355 = .ok (.isub, 1) := by decide +kernel
theorem d_M_work_356 : decode b_M_work 356 = .ok (.istore 7, 2) := by decide +kernel
theorem d_M_work_358 : decode b_M_work 358 = .ok (.aload_n 0, 1) := by decide +kernel
theorem d_M_work_359 : decode b_M_work 359 = .ok (.getfield 21, 3) := by decide +kernel
theorem d_M_work_362 : decode b_M_work 362 = .ok (.lload 5, 2) := by decide +kernel
theorem d_M_work_364 : decode b_M_work 364 = .ok (.ldc2_w 82, 3) := by decide +kernel
theorem d_M_work_367 : decode b_M_work 367 = .ok (.lcmp, 1) := by decide +kernel
theorem d_M_work_368 : decode b_M_work 368 = .ok (.ifCond .le 7, 3) := by decide +kernel
theorem d_M_work_371 : decode b_M_work 371 = .ok (.lconst 0, 1) := by decide +kernel
theorem d_M_work_372 : decode b_M_work 372 = .ok (.goto 22, 3) := by decide +kernel
theorem d_M_work_375 : decode b_M_work 375 = .ok (.aload_n 3, 1) := by decide +kernel
theorem d_M_work_376 : decode b_M_work 376 = .ok (.iload 7, 2) := by decide +kernel
theorem d_M_work_378 : decode b_M_work 378 = .ok (.iconst 4, 1) := by decide +kernel
theorem d_M_work_379 : decode b_M_work 379 = .ok (.idiv, 1) := by decide +kernel
theorem d_M_work_380 : decode b_M_work 380 = .ok (.iaload, 1) := by decide +kernel
theorem d_M_work_381 : decode b_M_work 381 = .ok (.bipush 8, 2) := by decide +kernel
theorem d_M_work_383 : decode b_M_work 383 = .ok (.iload 7, 2) := by decide +kernel
theorem d_M_work_385 : decode b_M_work 385 = .ok (.iconst 4, 1) := by decide +kernel
theorem d_M_work_386 : decode b_M_work 386 = .ok (.irem, 1) := by decide +kernel
theorem d_M_work_387 : decode b_M_work 387 = .ok (.imul, 1) := by decide +kernel
theorem d_M_work_388 : decode b_M_work 388 = .ok (.iushr, 1) := by decide +kernel
theorem d_M_work_389 : decode b_M_work 389 = .ok (.sipush 255, 3) := by decide +kernel
theorem d_M_work_392 : decode b_M_work 392 = .ok (.iand, 1) := by decide +kernel
theorem d_M_work_393 : decode b_M_work 393 = .ok (.i2l, 1) := by decide +kernel
theorem d_M_work_394 : decode b_M_work 394 = .ok (.invokestatic 71, 3) := by decide +kernel
theorem d_M_work_397 : decode b_M_work 397 = .ok (.goto 71, 3) := by decide +kernel
theorem d_M_work_400 : decode b_M_work 400 = .ok (.iconst 0, 1) := by decide +kernel
theorem d_M_work_401 : decode b_M_work 401 = .ok (.istore 5, 2) := by decide +kernel
theorem d_M_work_403 : decode b_M_work 403 = .ok (.iload 5, 2) := by decide +kernel
theorem d_M_work_405 : decode b_M_work 405 = .ok (.bipush 8, 2) := by decide +kernel
theorem d_M_work_407 : decode b_M_work 407 = .ok (.if_icmp .ge 61, 3) := by decide +kernel
theorem d_M_work_410 : decode b_M_work 410 = .ok (.aload_n 0, 1) := by decide +kernel
theorem d_M_work_411 : decode b_M_work 411 = .ok (.getfield 21, 3) := by decide +kernel
theorem d_M_work_414 : decode b_M_work 414 = .ok (.iload 5, 2) := by decide +kernel
theorem d_M_work_416 : decode b_M_work 416 = .ok (.iload_n 1, 1) := by decide +kernel
theorem d_M_work_417 : decode b_M_work 417 = .ok (.bipush 13, 2) := by decide +kernel
theorem d_M_work_419 : decode b_M_work 419 = .ok (.if_icmp .ne 15, 3) := by decide +kernel
theorem d_M_work_422 : decode b_M_work 422 = .ok (.aload_n 2, 1) := by decide +kernel
theorem d_M_work_423 : decode b_M_work 423 = .ok (.iload 5, 2) := by decide +kernel
theorem d_M_work_425 : decode b_M_work 425 = .ok (.iaload, 1) := by decide +kernel
theorem d_M_work_426 : decode b_M_work 426 = .ok (.aload_n 3, 1) := by decide +kernel
theorem d_M_work_427 : decode b_M_work 427 = .ok (.iload 5, 2) := by decide +kernel
theorem d_M_work_429 : decode b_M_work 429 = .ok (.iaload, 1) := by decide +kernel
theorem d_M_work_430 : decode b_M_work 430 = .ok (.iand, 1) := by decide +kernel
theorem d_M_work_431 : decode b_M_work 431 = .ok (.goto 30, 3) := by decide +kernel
theorem d_M_work_434 : decode b_M_work 434 = .ok (.iload_n 1, 1) := by decide +kernel
theorem d_M_work_435 : decode b_M_work 435 = .ok (.bipush 14, 2) := by decide +kernel
theorem d_M_work_437 : decode b_M_work 437 = .ok (.if_icmp .ne 15, 3) := by decide +kernel
theorem d_M_work_440 : decode b_M_work 440 = .ok (.aload_n 2, 1) := by decide +kernel
theorem d_M_work_441 : decode b_M_work 441 = .ok (.iload 5, 2) := by decide +kernel
theorem d_M_work_443 : decode b_M_work 443 = .ok (.iaload, 1) := by decide +kernel
theorem d_M_work_444 : decode b_M_work 444 = .ok (.aload_n 3, 1) := by decide +kernel
theorem d_M_work_445 : decode b_M_work 445 = .ok (.iload 5, 2) := by decide +kernel
theorem d_M_work_447 : decode b_M_work 447 = .ok (.iaload, 1) := by decide +kernel
theorem d_M_work_448 : decode b_M_work 448 = .ok (.ior, 1) := by decide +kernel
theorem d_M_work_449 : decode b_M_work 449 = .ok (.goto 12, 3) := by decide +kernel
theorem d_M_work_452 : decode b_M_work 452 = .ok (.aload_n 2, 1) := by decide +kernel
theorem d_M_work_453 : decode b_M_work 453 = .ok (.iload 5, 2) := by decide +kernel
theorem d_M_work_455 : decode b_M_work 455 = .ok (.iaload, 1) := by decide +kernel
theorem d_M_work_456 : decode b_M_work 456 = .ok (.aload_n 3, 1) := by decide +kernel
theorem d_M_work_457 : decode b_M_work 457 = .ok (.iload 5, 2) := by decide +kernel
theorem d_M_work_459 : decode b_M_work 459 = .ok (.iaload, 1) := by decide +kernel
theorem d_M_work_460 : decode b_M_work 460 = .ok (.ixor, 1) := by decide +kernel
theorem d_M_work_461 : decode b_M_work 461 = .ok (.iastore, 1) := by decide +kernel
theorem d_M_work_462 : decode b_M_work 462 = .ok (.iinc 5 1, 3) := by decide +kernel
theorem d_M_work_465 : decode b_M_work 465 = .ok (.goto (-62), 3) := by decide +kernel
theorem d_M_work_468 : decode b_M_work 468 = .ok (.return_, 1) := by decide +kernel
theorem d_M_zero_0 : decode b_M_zero 0 = .ok (.iconst 0, 1) := by decide +kernel
theorem d_M_zero_1 : decode b_M_zero 1 = .ok (.istore_n 1, 1) := by decide +kernel
theorem d_M_zero_2 : decode b_M_zero 2 = .ok (.iload_n 1, 1) := by decide +kernel
theorem d_M_zero_3 : decode b_M_zero 3 = .ok (.bipush 8, 2) := by decide +kernel
theorem d_M_zero_5 : decode b_M_zero 5 = .ok (.if_icmp .ge 17, 3) := by decide +kernel
theorem d_M_zero_8 : decode b_M_zero 8 = .ok (.aload_n 0, 1) := by decide +kernel
theorem d_M_zero_9 : decode b_M_zero 9 = .ok (.iload_n 1, 1) := by decide +kernel
theorem d_M_zero_10 : decode b_M_zero 10 = .ok (.iaload, 1) := by decide +kernel
theorem d_M_zero_11 : decode b_M_zero 11 = .ok (.ifCond .eq 5, 3) := by decide +kernel
theorem d_M_zero_14 : decode b_M_zero 14 = .ok (.iconst 0, 1) := by decide +kernel
theorem d_M_zero_15 : decode b_M_zero 15 = .ok (.ireturn, 1) := by decide +kernel
theorem d_M_zero_16 : decode b_M_zero 16 = .ok (.iinc 1 1, 3) := by decide +kernel
theorem d_M_zero_19 : decode b_M_zero 19 = .ok (.goto (-17), 3) := by decide +kernel
theorem d_M_zero_22 : decode b_M_zero 22 = .ok (.iconst 1, 1) := by decide +kernel
theorem d_M_zero_23 : decode b_M_zero 23 = .ok (.ireturn, 1) := by decide +kernel
theorem d_M_clear_0 : decode b_M_clear 0 = .ok (.iconst 0, 1) := by decide +kernel
theorem d_M_clear_1 : decode b_M_clear 1 = .ok (.istore_n 1, 1) := by decide +kernel
theorem d_M_clear_2 : decode b_M_clear 2 = .ok (.iload_n 1, 1) := by decide +kernel
theorem d_M_clear_3 : decode b_M_clear 3 = .ok (.bipush 8, 2) := by decide +kernel
theorem d_M_clear_5 : decode b_M_clear 5 = .ok (.if_icmp .ge 13, 3) := by decide +kernel
theorem d_M_clear_8 : decode b_M_clear 8 = .ok (.aload_n 0, 1) := by decide +kernel
theorem d_M_clear_9 : decode b_M_clear 9 = .ok (.iload_n 1, 1) := by decide +kernel
theorem d_M_clear_10 : decode b_M_clear 10 = .ok (.iconst 0, 1) := by decide +kernel
theorem d_M_clear_11 : decode b_M_clear 11 = .ok (.iastore, 1) := by decide +kernel
theorem d_M_clear_12 : decode b_M_clear 12 = .ok (.iinc 1 1, 3) := by decide +kernel
theorem d_M_clear_15 : decode b_M_clear 15 = .ok (.goto (-13), 3) := by decide +kernel
theorem d_M_clear_18 : decode b_M_clear 18 = .ok (.return_, 1) := by decide +kernel
theorem d_M_add_0 : decode b_M_add 0 = .ok (.lconst 0, 1) := by decide +kernel
theorem d_M_add_1 : decode b_M_add 1 = .ok (.lstore_n 3, 1) := by decide +kernel
theorem d_M_add_2 : decode b_M_add 2 = .ok (.iconst 0, 1) := by decide +kernel
theorem d_M_add_3 : decode b_M_add 3 = .ok (.istore 5, 2) := by decide +kernel
theorem d_M_add_5 : decode b_M_add 5 = .ok (.iload 5, 2) := by decide +kernel
theorem d_M_add_7 : decode b_M_add 7 = .ok (.bipush 8, 2) := by decide +kernel
theorem d_M_add_9 : decode b_M_add 9 = .ok (.if_icmp .ge 42, 3) := by decide +kernel
theorem d_M_add_12 : decode b_M_add 12 = .ok (.lload_n 3, 1) := by decide +kernel
theorem d_M_add_13 : decode b_M_add 13 = .ok (.aload_n 1, 1) := by decide +kernel
theorem d_M_add_14 : decode b_M_add 14 = .ok (.iload 5, 2) := by decide +kernel
theorem d_M_add_16 : decode b_M_add 16 = .ok (.iaload, 1) := by decide +kernel
theorem d_M_add_17 : decode b_M_add 17 = .ok (.i2l, 1) := by decide +kernel
theorem d_M_add_18 : decode b_M_add 18 = .ok (.ldc2_w 40, 3) := by decide +kernel
theorem d_M_add_21 : decode b_M_add 21 = .ok (.land, 1) := by decide +kernel
theorem d_M_add_22 : decode b_M_add 22 = .ok (.aload_n 2, 1) := by decide +kernel
theorem d_M_add_23 : decode b_M_add 23 = .ok (.iload 5, 2) := by decide +kernel
theorem d_M_add_25 : decode b_M_add 25 = .ok (.iaload, 1) := by decide +kernel
theorem d_M_add_26 : decode b_M_add 26 = .ok (.i2l, 1) := by decide +kernel
theorem d_M_add_27 : decode b_M_add 27 = .ok (.ldc2_w 40, 3) := by decide +kernel
theorem d_M_add_30 : decode b_M_add 30 = .ok (.land, 1) := by decide +kernel
theorem d_M_add_31 : decode b_M_add 31 = .ok (.ladd, 1) := by decide +kernel
theorem d_M_add_32 : decode b_M_add 32 = .ok (.ladd, 1) := by decide +kernel
theorem d_M_add_33 : decode b_M_add 33 = .ok (.lstore_n 3, 1) := by decide +kernel
theorem d_M_add_34 : decode b_M_add 34 = .ok (.aload_n 0, 1) := by decide +kernel
theorem d_M_add_35 : decode b_M_add 35 = .ok (.iload 5, 2) := by decide +kernel
theorem d_M_add_37 : decode b_M_add 37 = .ok (.lload_n 3, 1) := by decide +kernel
theorem d_M_add_38 : decode b_M_add 38 = .ok (.l2i, 1) := by decide +kernel
theorem d_M_add_39 : decode b_M_add 39 = .ok (.iastore, 1) := by decide +kernel
theorem d_M_add_40 : decode b_M_add 40 = .ok (.lload_n 3, 1) := by decide +kernel
theorem d_M_add_41 : decode b_M_add 41 = .ok (.bipush 32, 2) := by decide +kernel
theorem d_M_add_43 : decode b_M_add 43 = .ok (.lushr, 1) := by decide +kernel
theorem d_M_add_44 : decode b_M_add 44 = .ok (.lstore_n 3, 1) := by decide +kernel
theorem d_M_add_45 : decode b_M_add 45 = .ok (.iinc 5 1, 3) := by decide +kernel
theorem d_M_add_48 : decode b_M_add 48 = .ok (.goto (-43), 3) := by decide +kernel
theorem d_M_add_51 : decode b_M_add 51 = .ok (.lload_n 3, 1) := by decide +kernel
theorem d_M_add_52 : decode b_M_add 52 = .ok (.l2i, 1) := by decide +kernel
theorem d_M_add_53 : decode b_M_add 53 = .ok (.ireturn, 1) := by decide +kernel
theorem d_M_subtract_0 : decode b_M_subtract 0 = .ok (.lconst 0, 1) := by decide +kernel
theorem d_M_subtract_1 : decode b_M_subtract 1 = .ok (.lstore_n 3, 1) := by decide +kernel
theorem d_M_subtract_2 : decode b_M_subtract 2 = .ok (.iconst 0, 1) := by decide +kernel
theorem d_M_subtract_3 : decode b_M_subtract 3 = .ok (.istore 5, 2) := by decide +kernel
theorem d_M_subtract_5 : decode b_M_subtract 5 = .ok (.iload 5, 2) := by decide +kernel
theorem d_M_subtract_7 : decode b_M_subtract 7 = .ok (.bipush 8, 2) := by decide +kernel
theorem d_M_subtract_9 : decode b_M_subtract 9 = .ok (.if_icmp .ge 42, 3) := by decide +kernel
theorem d_M_subtract_12 : decode b_M_subtract 12 = .ok (.lload_n 3, 1) := by decide +kernel
theorem d_M_subtract_13 : decode b_M_subtract 13 = .ok (.aload_n 1, 1) := by decide +kernel
theorem d_M_subtract_14 : decode b_M_subtract 14 = .ok (.iload 5, 2) := by decide +kernel
theorem d_M_subtract_16 : decode b_M_subtract 16 = .ok (.iaload, 1) := by decide +kernel
theorem d_M_subtract_17 : decode b_M_subtract 17 = .ok (.i2l, 1) := by decide +kernel
theorem d_M_subtract_18 : decode b_M_subtract 18 = .ok (.ldc2_w 40, 3) := by decide +kernel
theorem d_M_subtract_21 : decode b_M_subtract 21 = .ok (.land, 1) := by decide +kernel
theorem d_M_subtract_22 : decode b_M_subtract 22 = .ok (.aload_n 2, 1) := by decide +kernel
theorem d_M_subtract_23 : decode b_M_subtract 23 = .ok (.iload 5, 2) := by decide +kernel
theorem d_M_subtract_25 : decode b_M_subtract 25 = .ok (.iaload, 1) := by decide +kernel
theorem d_M_subtract_26 : decode b_M_subtract 26 = .ok (.i2l, 1) := by decide +kernel
theorem d_M_subtract_27 : decode b_M_subtract 27 = .ok (.ldc2_w 40, 3) := by decide +kernel
theorem d_M_subtract_30 : decode b_M_subtract 30 = .ok (.land, 1) := by decide +kernel
theorem d_M_subtract_31 : decode b_M_subtract 31 = .ok (.lsub, 1) := by decide +kernel
theorem d_M_subtract_32 : decode b_M_subtract 32 = .ok (.ladd, 1) := by decide +kernel
theorem d_M_subtract_33 : decode b_M_subtract 33 = .ok (.lstore_n 3, 1) := by decide +kernel
theorem d_M_subtract_34 : decode b_M_subtract 34 = .ok (.aload_n 0, 1) := by decide +kernel
theorem d_M_subtract_35 : decode b_M_subtract 35 = .ok (.iload 5, 2) := by decide +kernel
theorem d_M_subtract_37 : decode b_M_subtract 37 = .ok (.lload_n 3, 1) := by decide +kernel
theorem d_M_subtract_38 : decode b_M_subtract 38 = .ok (.l2i, 1) := by decide +kernel
theorem d_M_subtract_39 : decode b_M_subtract 39 = .ok (.iastore, 1) := by decide +kernel
theorem d_M_subtract_40 : decode b_M_subtract 40 = .ok (.lload_n 3, 1) := by decide +kernel
theorem d_M_subtract_41 : decode b_M_subtract 41 = .ok (.bipush 32, 2) := by decide +kernel
theorem d_M_subtract_43 : decode b_M_subtract 43 = .ok (.lshr, 1) := by decide +kernel
theorem d_M_subtract_44 : decode b_M_subtract 44 = .ok (.lstore_n 3, 1) := by decide +kernel
theorem d_M_subtract_45 : decode b_M_subtract 45 = .ok (.iinc 5 1, 3) := by decide +kernel
theorem d_M_subtract_48 : decode b_M_subtract 48 = .ok (.goto (-43), 3) := by decide +kernel
theorem d_M_subtract_51 : decode b_M_subtract 51 = .ok (.return_, 1) := by decide +kernel
theorem d_M_multiply_0 : decode b_M_multiply 0 = .ok (.iconst 0, 1) := by decide +kernel
theorem d_M_multiply_1 : decode b_M_multiply 1 = .ok (.istore_n 3, 1) := by decide +kernel
theorem d_M_multiply_2 : decode b_M_multiply 2 = .ok (.iload_n 3, 1) := by decide +kernel
theorem d_M_multiply_3 : decode b_M_multiply 3 = .ok (.bipush 17, 2) := by decide +kernel
theorem d_M_multiply_5 : decode b_M_multiply 5 = .ok (.if_icmp .ge 16, 3) := by decide +kernel
theorem d_M_multiply_8 : decode b_M_multiply 8 = .ok (.aload_n 0, 1) := by decide +kernel
theorem d_M_multiply_9 : decode b_M_multiply 9 = .ok (.getfield 27, 3) := by decide +kernel
theorem d_M_multiply_12 : decode b_M_multiply 12 = .ok (.iload_n 3, 1) := by decide +kernel
theorem d_M_multiply_13 : decode b_M_multiply 13 = .ok (.iconst 0, 1) := by decide +kernel
theorem d_M_multiply_14 : decode b_M_multiply 14 = .ok (.iastore, 1) := by decide +kernel
theorem d_M_multiply_15 : decode b_M_multiply 15 = .ok (.iinc 3 1, 3) := by decide +kernel
theorem d_M_multiply_18 : decode b_M_multiply 18 = .ok (.goto (-16), 3) := by decide +kernel
theorem d_M_multiply_21 : decode b_M_multiply 21 = .ok (.iconst 0, 1) := by decide +kernel
theorem d_M_multiply_22 : decode b_M_multiply 22 = .ok (.istore_n 3, 1) := by decide +kernel
theorem d_M_multiply_23 : decode b_M_multiply 23 = .ok (.iload_n 3, 1) := by decide +kernel
theorem d_M_multiply_24 : decode b_M_multiply 24 = .ok (.bipush 8, 2) := by decide +kernel
theorem d_M_multiply_26 : decode b_M_multiply 26 = .ok (.if_icmp .ge 97, 3) := by decide +kernel
theorem d_M_multiply_29 : decode b_M_multiply 29 = .ok (.lconst 0, 1) := by decide +kernel
theorem d_M_multiply_30 : decode b_M_multiply 30 = .ok (.lstore 4, 2) := by decide +kernel
theorem d_M_multiply_32 : decode b_M_multiply 32 = .ok (.iconst 0, 1) := by decide +kernel
theorem d_M_multiply_33 : decode b_M_multiply 33 = .ok (.istore 6, 2) := by decide +kernel
theorem d_M_multiply_35 : decode b_M_multiply 35 = .ok (.iload 6, 2) := by decide +kernel
theorem d_M_multiply_37 : decode b_M_multiply 37 = .ok (.bipush 8, 2) := by decide +kernel
theorem d_M_multiply_39 : decode b_M_multiply 39 = .ok (.if_icmp .ge 66, 3) := by decide +kernel
theorem d_M_multiply_42 : decode b_M_multiply 42 = .ok (.lload 4, 2) := by decide +kernel
theorem d_M_multiply_44 : decode b_M_multiply 44 = .ok (.aload_n 1, 1) := by decide +kernel
theorem d_M_multiply_45 : decode b_M_multiply 45 = .ok (.iload_n 3, 1) := by decide +kernel
theorem d_M_multiply_46 : decode b_M_multiply 46 = .ok (.iaload, 1) := by decide +kernel
theorem d_M_multiply_47 : decode b_M_multiply 47 = .ok (.i2l, 1) := by decide +kernel
theorem d_M_multiply_48 : decode b_M_multiply 48 = .ok (.ldc2_w 40, 3) := by decide +kernel
theorem d_M_multiply_51 : decode b_M_multiply 51 = .ok (.land, 1) := by decide +kernel
theorem d_M_multiply_52 : decode b_M_multiply 52 = .ok (.aload_n 2, 1) := by decide +kernel
theorem d_M_multiply_53 : decode b_M_multiply 53 = .ok (.iload 6, 2) := by decide +kernel
theorem d_M_multiply_55 : decode b_M_multiply 55 = .ok (.iaload, 1) := by decide +kernel
theorem d_M_multiply_56 : decode b_M_multiply 56 = .ok (.i2l, 1) := by decide +kernel
theorem d_M_multiply_57 : decode b_M_multiply 57 = .ok (.ldc2_w 40, 3) := by decide +kernel
theorem d_M_multiply_60 : decode b_M_multiply 60 = .ok (.land, 1) := by decide +kernel
theorem d_M_multiply_61 : decode b_M_multiply 61 = .ok (.lmul, 1) := by decide +kernel
theorem d_M_multiply_62 : decode b_M_multiply 62 = .ok (.aload_n 0, 1) := by decide +kernel
theorem d_M_multiply_63 : decode b_M_multiply 63 = .ok (.getfield 27, 3) := by decide +kernel
theorem d_M_multiply_66 : decode b_M_multiply 66 = .ok (.iload_n 3, 1) := by decide +kernel
theorem d_M_multiply_67 : decode b_M_multiply 67 = .ok (.iload 6, 2) := by decide +kernel
theorem d_M_multiply_69 : decode b_M_multiply 69 = .ok (.iadd, 1) := by decide +kernel
theorem d_M_multiply_70 : decode b_M_multiply 70 = .ok (.iaload, 1) := by decide +kernel
theorem d_M_multiply_71 : decode b_M_multiply 71 = .ok (.i2l, 1) := by decide +kernel
theorem d_M_multiply_72 : decode b_M_multiply 72 = .ok (.ldc2_w 40, 3) := by decide +kernel
theorem d_M_multiply_75 : decode b_M_multiply 75 = .ok (.land, 1) := by decide +kernel
theorem d_M_multiply_76 : decode b_M_multiply 76 = .ok (.ladd, 1) := by decide +kernel
theorem d_M_multiply_77 : decode b_M_multiply 77 = .ok (.ladd, 1) := by decide +kernel
theorem d_M_multiply_78 : decode b_M_multiply 78 = .ok (.lstore 4, 2) := by decide +kernel
theorem d_M_multiply_80 : decode b_M_multiply 80 = .ok (.aload_n 0, 1) := by decide +kernel
theorem d_M_multiply_81 : decode b_M_multiply 81 = .ok (.getfield 27, 3) := by decide +kernel
theorem d_M_multiply_84 : decode b_M_multiply 84 = .ok (.iload_n 3, 1) := by decide +kernel
theorem d_M_multiply_85 : decode b_M_multiply 85 = .ok (.iload 6, 2) := by decide +kernel
theorem d_M_multiply_87 : decode b_M_multiply 87 = .ok (.iadd, 1) := by decide +kernel
theorem d_M_multiply_88 : decode b_M_multiply 88 = .ok (.lload 4, 2) := by decide +kernel
theorem d_M_multiply_90 : decode b_M_multiply 90 = .ok (.l2i, 1) := by decide +kernel
theorem d_M_multiply_91 : decode b_M_multiply 91 = .ok (.iastore, 1) := by decide +kernel
theorem d_M_multiply_92 : decode b_M_multiply 92 = .ok (.lload 4, 2) := by decide +kernel
theorem d_M_multiply_94 : decode b_M_multiply 94 = .ok (.bipush 32, 2) := by decide +kernel
theorem d_M_multiply_96 : decode b_M_multiply 96 = .ok (.lushr, 1) := by decide +kernel
theorem d_M_multiply_97 : decode b_M_multiply 97 = .ok (.lstore 4, 2) := by decide +kernel
theorem d_M_multiply_99 : decode b_M_multiply 99 = .ok (.iinc 6 1, 3) := by decide +kernel
theorem d_M_multiply_102 : decode b_M_multiply 102 = .ok (.goto (-67), 3) := by decide +kernel
theorem d_M_multiply_105 : decode b_M_multiply 105 = .ok (.aload_n 0, 1) := by decide +kernel
theorem d_M_multiply_106 : decode b_M_multiply 106 = .ok (.getfield 27, 3) := by decide +kernel
theorem d_M_multiply_109 : decode b_M_multiply 109 = .ok (.iload_n 3, 1) := by decide +kernel
theorem d_M_multiply_110 : decode b_M_multiply 110 = .ok (.bipush 8, 2) := by decide +kernel
theorem d_M_multiply_112 : decode b_M_multiply 112 = .ok (.iadd, 1) := by decide +kernel
theorem d_M_multiply_113 : decode b_M_multiply 113 = .ok (.lload 4, 2) := by decide +kernel
theorem d_M_multiply_115 : decode b_M_multiply 115 = .ok (.l2i, 1) := by decide +kernel
theorem d_M_multiply_116 : decode b_M_multiply 116 = .ok (.iastore, 1) := by decide +kernel
theorem d_M_multiply_117 : decode b_M_multiply 117 = .ok (.iinc 3 1, 3) := by decide +kernel
theorem d_M_multiply_120 : decode b_M_multiply 120 = .ok (.goto (-97), 3) := by decide +kernel
theorem d_M_multiply_123 : decode b_M_multiply 123 = .ok (.return_, 1) := by decide +kernel
theorem d_M_take_0 : decode b_M_take 0 = .ok (.iconst 0, 1) := by decide +kernel
theorem d_M_take_1 : decode b_M_take 1 = .ok (.istore_n 2, 1) := by decide +kernel
theorem d_M_take_2 : decode b_M_take 2 = .ok (.iload_n 2, 1) := by decide +kernel
theorem d_M_take_3 : decode b_M_take 3 = .ok (.bipush 8, 2) := by decide +kernel
theorem d_M_take_5 : decode b_M_take 5 = .ok (.if_icmp .ge 15, 3) := by decide +kernel
theorem d_M_take_8 : decode b_M_take 8 = .ok (.aload_n 0, 1) := by decide +kernel
theorem d_M_take_9 : decode b_M_take 9 = .ok (.iload_n 2, 1) := by decide +kernel
theorem d_M_take_10 : decode b_M_take 10 = .ok (.aload_n 1, 1) := by decide +kernel
theorem d_M_take_11 : decode b_M_take 11 = .ok (.iload_n 2, 1) := by decide +kernel
theorem d_M_take_12 : decode b_M_take 12 = .ok (.iaload, 1) := by decide +kernel
theorem d_M_take_13 : decode b_M_take 13 = .ok (.iastore, 1) := by decide +kernel
theorem d_M_take_14 : decode b_M_take 14 = .ok (.iinc 2 1, 3) := by decide +kernel
theorem d_M_take_17 : decode b_M_take 17 = .ok (.goto (-15), 3) := by decide +kernel
theorem d_M_take_20 : decode b_M_take 20 = .ok (.return_, 1) := by decide +kernel
theorem d_M_divide_0 : decode b_M_divide 0 = .ok (.iconst 0, 1) := by decide +kernel
theorem d_M_divide_1 : decode b_M_divide 1 = .ok (.istore_n 3, 1) := by decide +kernel
theorem d_M_divide_2 : decode b_M_divide 2 = .ok (.iload_n 3, 1) := by decide +kernel
theorem d_M_divide_3 : decode b_M_divide 3 = .ok (.bipush 17, 2) := by decide +kernel
theorem d_M_divide_5 : decode b_M_divide 5 = .ok (.if_icmp .ge 28, 3) := by decide +kernel
theorem d_M_divide_8 : decode b_M_divide 8 = .ok (.aload_n 0, 1) := by decide +kernel
theorem d_M_divide_9 : decode b_M_divide 9 = .ok (.getfield 27, 3) := by decide +kernel
theorem d_M_divide_12 : decode b_M_divide 12 = .ok (.iload_n 3, 1) := by decide +kernel
theorem d_M_divide_13 : decode b_M_divide 13 = .ok (.iload_n 3, 1) := by decide +kernel
theorem d_M_divide_14 : decode b_M_divide 14 = .ok (.bipush 8, 2) := by decide +kernel
theorem d_M_divide_16 : decode b_M_divide 16 = .ok (.if_icmp .ge 9, 3) := by decide +kernel
theorem d_M_divide_19 : decode b_M_divide 19 = .ok (.aload_n 1, 1) := by decide +kernel
theorem d_M_divide_20 : decode b_M_divide 20 = .ok (.iload_n 3, 1) := by decide +kernel
theorem d_M_divide_21 : decode b_M_divide 21 = .ok (.iaload, 1) := by decide +kernel
theorem d_M_divide_22 : decode b_M_divide 22 = .ok (.goto 4, 3) := by decide +kernel
theorem d_M_divide_25 : decode b_M_divide 25 = .ok (.iconst 0, 1) := by decide +kernel
theorem d_M_divide_26 : decode b_M_divide 26 = .ok (.iastore, 1) := by decide +kernel
theorem d_M_divide_27 : decode b_M_divide 27 = .ok (.iinc 3 1, 3) := by decide +kernel
theorem d_M_divide_30 : decode b_M_divide 30 = .ok (.goto (-28), 3) := by decide +kernel
theorem d_M_divide_33 : decode b_M_divide 33 = .ok (.aload_n 0, 1) := by decide +kernel
theorem d_M_divide_34 : decode b_M_divide 34 = .ok (.aload_n 2, 1) := by decide +kernel
theorem d_M_divide_35 : decode b_M_divide 35 = .ok (.sipush 256, 3) := by decide +kernel
theorem d_M_divide_38 : decode b_M_divide 38 = .ok (.invokevirtual 50, 3) := by decide +kernel
theorem d_M_divide_41 : decode b_M_divide 41 = .ok (.return_, 1) := by decide +kernel
theorem d_M_divideWide_0 : decode b_M_divideWide 0 = .ok (.iconst 0, 1) := by decide +kernel
theorem d_M_divideWide_1 : decode b_M_divideWide 1 = .ok (.istore_n 3, 1) := by decide +kernel
theorem d_M_divideWide_2 : decode b_M_divideWide 2 = .ok (.iload_n 3, 1) := by decide +kernel
theorem d_M_divideWide_3 : decode b_M_divideWide 3 = .ok (.bipush 16, 2) := by decide +kernel
theorem d_M_divideWide_5 : decode b_M_divideWide 5 = .ok (.if_icmp .ge 16, 3) := by decide +kernel
theorem d_M_divideWide_8 : decode b_M_divideWide 8 = .ok (.aload_n 0, 1) := by decide +kernel
theorem d_M_divideWide_9 : decode b_M_divideWide 9 = .ok (.getfield 30, 3) := by decide +kernel
theorem d_M_divideWide_12 : decode b_M_divideWide 12 = .ok (.iload_n 3, 1) := by decide +kernel
theorem d_M_divideWide_13 : decode b_M_divideWide 13 = .ok (.iconst 0, 1) := by decide +kernel
theorem d_M_divideWide_14 : decode b_M_divideWide 14 = .ok (.iastore, 1) := by decide +kernel
theorem d_M_divideWide_15 : decode b_M_divideWide 15 = .ok (.iinc 3 1, 3) := by decide +kernel
theorem d_M_divideWide_18 : decode b_M_divideWide 18 = .ok (.goto (-16), 3) := by decide +kernel
theorem d_M_divideWide_21 : decode b_M_divideWide 21 = .ok (.iconst 0, 1) := by decide +kernel
theorem d_M_divideWide_22 : decode b_M_divideWide 22 = .ok (.istore_n 3, 1) := by decide +kernel
theorem d_M_divideWide_23 : decode b_M_divideWide 23 = .ok (.iload_n 3, 1) := by decide +kernel
theorem d_M_divideWide_24 : decode b_M_divideWide 24 = .ok (.bipush 9, 2) := by decide +kernel
theorem d_M_divideWide_26 : decode b_M_divideWide 26 = .ok (.if_icmp .ge 16, 3) := by decide +kernel
theorem d_M_divideWide_29 : decode b_M_divideWide 29 = .ok (.aload_n 0, 1) := by decide +kernel
theorem d_M_divideWide_30 : decode b_M_divideWide 30 = .ok (.getfield 33, 3) := by decide +kernel
theorem d_M_divideWide_33 : decode b_M_divideWide 33 = .ok (.iload_n 3, 1) := by decide +kernel
theorem d_M_divideWide_34 : decode b_M_divideWide 34 = .ok (.iconst 0, 1) := by decide +kernel
theorem d_M_divideWide_35 : decode b_M_divideWide 35 = .ok (.iastore, 1) := by decide +kernel
theorem d_M_divideWide_36 : decode b_M_divideWide 36 = .ok (.iinc 3 1, 3) := by decide +kernel
theorem d_M_divideWide_39 : decode b_M_divideWide 39 = .ok (.goto (-16), 3) := by decide +kernel
theorem d_M_divideWide_42 : decode b_M_divideWide 42 = .ok (.iload_n 2, 1) := by decide +kernel
theorem d_M_divideWide_43 : decode b_M_divideWide 43 = .ok (.iconst 1, 1) := by decide +kernel
theorem d_M_divideWide_44 : decode b_M_divideWide 44 = .ok (.isub, 1) := by decide +kernel
theorem d_M_divideWide_45 : decode b_M_divideWide 45 = .ok (.istore_n 3, 1) := by decide +kernel
theorem d_M_divideWide_46 : decode b_M_divideWide 46 = .ok (.iload_n 3, 1) := by decide +kernel
theorem d_M_divideWide_47 : decode b_M_divideWide 47 = .ok (.ifCond .lt 268, 3) := by decide +kernel
theorem d_M_divideWide_50 : decode b_M_divideWide 50 = .ok (.aload_n 0, 1) := by decide +kernel
theorem d_M_divideWide_51 : decode b_M_divideWide 51 = .ok (.getfield 27, 3) := by decide +kernel
theorem d_M_divideWide_54 : decode b_M_divideWide 54 = .ok (.iload_n 3, 1) := by decide +kernel
theorem d_M_divideWide_55 : decode b_M_divideWide 55 = .ok (.iconst 5, 1) := by decide +kernel
theorem d_M_divideWide_56 : decode b_M_divideWide 56 = .ok (.ishr, 1) := by decide +kernel
theorem d_M_divideWide_57 : decode b_M_divideWide 57 = .ok (.iaload, 1) := by decide +kernel
theorem d_M_divideWide_58 : decode b_M_divideWide 58 = .ok (.iload_n 3, 1) := by decide +kernel
theorem d_M_divideWide_59 : decode b_M_divideWide 59 = .ok (.bipush 31, 2) := by decide +kernel
theorem d_M_divideWide_61 : decode b_M_divideWide 61 = .ok (.iand, 1) := by decide +kernel
theorem d_M_divideWide_62 : decode b_M_divideWide 62 = .ok (.iushr, 1) := by decide +kernel
theorem d_M_divideWide_63 : decode b_M_divideWide 63 = .ok (.iconst 1, 1) := by decide +kernel
theorem d_M_divideWide_64 : decode b_M_divideWide 64 = .ok (.iand, 1) := by decide +kernel
theorem d_M_divideWide_65 : decode b_M_divideWide 65 = .ok (.istore 4, 2) := by decide +kernel
theorem d_M_divideWide_67 : decode b_M_divideWide 67 = .ok (.iconst 0, 1) := by decide +kernel
theorem d_M_divideWide_68 : decode b_M_divideWide 68 = .ok (.istore 5, 2) := by decide +kernel
theorem d_M_divideWide_70 : decode b_M_divideWide 70 = .ok (.iload 5, 2) := by decide +kernel
theorem d_M_divideWide_72 : decode b_M_divideWide 72 = .ok (.bipush 9, 2) := by decide +kernel
theorem d_M_divideWide_74 : decode b_M_divideWide 74 = .ok (.if_icmp .ge 44, 3) := by decide +kernel
theorem d_M_divideWide_77 : decode b_M_divideWide 77 = .ok (.aload_n 0, 1) := by decide +kernel
theorem d_M_divideWide_78 : decode b_M_divideWide 78 = .ok (.getfield 33, 3) := by decide +kernel
theorem d_M_divideWide_81 : decode b_M_divideWide 81 = .ok (.iload 5, 2) := by decide +kernel
theorem d_M_divideWide_83 : decode b_M_divideWide 83 = .ok (.iaload, 1) := by decide +kernel
theorem d_M_divideWide_84 : decode b_M_divideWide 84 = .ok (.bipush 31, 2) := by decide +kernel
theorem d_M_divideWide_86 : decode b_M_divideWide 86 = .ok (.iushr, 1) := by decide +kernel
theorem d_M_divideWide_87 : decode b_M_divideWide 87 = .ok (.istore 6, 2) := by decide +kernel
theorem d_M_divideWide_89 : decode b_M_divideWide 89 = .ok (.aload_n 0, 1) := by decide +kernel
theorem d_M_divideWide_90 : decode b_M_divideWide 90 = .ok (.getfield 33, 3) := by decide +kernel
theorem d_M_divideWide_93 : decode b_M_divideWide 93 = .ok (.iload 5, 2) := by decide +kernel
theorem d_M_divideWide_95 : decode b_M_divideWide 95 = .ok (.aload_n 0, 1) := by decide +kernel
theorem d_M_divideWide_96 : decode b_M_divideWide 96 = .ok (.getfield 33, 3) := by decide +kernel
theorem d_M_divideWide_99 : decode b_M_divideWide 99 = .ok (.iload 5, 2) := by decide +kernel
theorem d_M_divideWide_101 : decode b_M_divideWide 101 = .ok (.iaload, 1) := by decide +kernel
theorem d_M_divideWide_102 : decode b_M_divideWide 102 = .ok (.iconst 1, 1) := by decide +kernel
theorem d_M_divideWide_103 : decode b_M_divideWide 103 = .ok (.ishl, 1) := by decide +kernel
theorem d_M_divideWide_104 : decode b_M_divideWide 104 = .ok (.iload 4, 2) := by decide +kernel
theorem d_M_divideWide_106 : decode b_M_divideWide 106 = .ok (.ior, 1) := by decide +kernel
theorem d_M_divideWide_107 : decode b_M_divideWide 107 = .ok (.iastore, 1) := by decide +kernel
theorem d_M_divideWide_108 : decode b_M_divideWide 108 = .ok (.iload 6, 2) := by decide +kernel
theorem d_M_divideWide_110 : decode b_M_divideWide 110 = .ok (.istore 4, 2) := by decide +kernel
theorem d_M_divideWide_112 : decode b_M_divideWide 112 = .ok (.iinc 5 1, 3) := by decide +kernel
theorem d_M_divideWide_115 : decode b_M_divideWide 115 = .ok (.goto (-45), 3) := by decide +kernel
theorem d_M_divideWide_118 : decode b_M_divideWide 118 = .ok (.aload_n 0, 1) := by decide +kernel
theorem d_M_divideWide_119 : decode b_M_divideWide 119 = .ok (.getfield 33, 3) := by decide +kernel
theorem d_M_divideWide_122 : decode b_M_divideWide 122 = .ok (.bipush 8, 2) := by decide +kernel
theorem d_M_divideWide_124 : decode b_M_divideWide 124 = .ok (.iaload, 1) := by decide +kernel
theorem d_M_divideWide_125 : decode b_M_divideWide 125 = .ok (.ifCond .eq 7, 3) := by decide +kernel
theorem d_M_divideWide_128 : decode b_M_divideWide 128 = .ok (.iconst 1, 1) := by decide +kernel
theorem d_M_divideWide_129 : decode b_M_divideWide 129 = .ok (.goto 4, 3) := by decide +kernel
theorem d_M_divideWide_132 : decode b_M_divideWide 132 = .ok (.iconst 0, 1) := by decide +kernel
theorem d_M_divideWide_133 : decode b_M_divideWide 133 = .ok (.istore 5, 2) := by decide +kernel
theorem d_M_divideWide_135 : decode b_M_divideWide 135 = .ok (.iload 5, 2) := by decide +kernel
theorem d_M_divideWide_137 : decode b_M_divideWide 137 = .ok (.ifCond .ne 73, 3) := by decide +kernel
theorem d_M_divideWide_140 : decode b_M_divideWide 140 = .ok (.iconst 1, 1) := by decide +kernel
theorem d_M_divideWide_141 : decode b_M_divideWide 141 = .ok (.istore 5, 2) := by decide +kernel
theorem d_M_divideWide_143 : decode b_M_divideWide 143 = .ok (.bipush 7, 2) := by decide +kernel
theorem d_M_divideWide_145 : decode b_M_divideWide 145 = .ok (.istore 6, 2) := by decide +kernel
theorem d_M_divideWide_147 : decode b_M_divideWide 147 = .ok (.iload 6, 2) := by decide +kernel
theorem d_M_divideWide_149 : decode b_M_divideWide 149 = .ok (.ifCond .lt 61, 3) := by decide +kernel
theorem d_M_divideWide_152 : decode b_M_divideWide 152 = .ok (.aload_n 0, 1) := by decide +kernel
theorem d_M_divideWide_153 : decode b_M_divideWide 153 = .ok (.getfield 33, 3) := by decide +kernel
theorem d_M_divideWide_156 : decode b_M_divideWide 156 = .ok (.iload 6, 2) := by decide +kernel
theorem d_M_divideWide_158 : decode b_M_divideWide 158 = .ok (.iaload, 1) := by decide +kernel
theorem d_M_divideWide_159 : decode b_M_divideWide 159 = .ok (.aload_n 1, 1) := by decide +kernel
theorem d_M_divideWide_160 : decode b_M_divideWide 160 = .ok (.iload 6, 2) := by decide +kernel
theorem d_M_divideWide_162 : decode b_M_divideWide 162 = .ok (.iaload, 1) := by decide +kernel
theorem d_M_divideWide_163 : decode b_M_divideWide 163 = .ok (.if_icmp .ne 6, 3) := by decide +kernel
theorem d_M_divideWide_166 : decode b_M_divideWide 166 = .ok (.goto 38, 3) := by decide +kernel
theorem d_M_divideWide_169 : decode b_M_divideWide 169 = .ok (.aload_n 0, 1) := by decide +kernel
theorem d_M_divideWide_170 : decode b_M_divideWide 170 = .ok (.getfield 33, 3) := by decide +kernel
theorem d_M_divideWide_173 : decode b_M_divideWide 173 = .ok (.iload 6, 2) := by decide +kernel
theorem d_M_divideWide_175 : decode b_M_divideWide 175 = .ok (.iaload, 1) := by decide +kernel
theorem d_M_divideWide_176 : decode b_M_divideWide 176 = .ok (.i2l, 1) := by decide +kernel
theorem d_M_divideWide_177 : decode b_M_divideWide 177 = .ok (.ldc2_w 40, 3) := by decide +kernel
theorem d_M_divideWide_180 : decode b_M_divideWide 180 = .ok (.land, 1) := by decide +kernel
theorem d_M_divideWide_181 : decode b_M_divideWide 181 = .ok (.aload_n 1, 1) := by decide +kernel
theorem d_M_divideWide_182 : decode b_M_divideWide 182 = .ok (.iload 6, 2) := by decide +kernel
theorem d_M_divideWide_184 : decode b_M_divideWide 184 = .ok (.iaload, 1) := by decide +kernel
theorem d_M_divideWide_185 : decode b_M_divideWide 185 = .ok (.i2l, 1) := by decide +kernel
theorem d_M_divideWide_186 : decode b_M_divideWide 186 = .ok (.ldc2_w 40, 3) := by decide +kernel
theorem d_M_divideWide_189 : decode b_M_divideWide 189 = .ok (.land, 1) := by decide +kernel
theorem d_M_divideWide_190 : decode b_M_divideWide 190 = .ok (.lcmp, 1) := by decide +kernel
theorem d_M_divideWide_191 : decode b_M_divideWide 191 = .ok (.ifCond .le 7, 3) := by decide +kernel
theorem d_M_divideWide_194 : decode b_M_divideWide 194 = .ok (.iconst 1, 1) := by decide +kernel
theorem d_M_divideWide_195 : decode b_M_divideWide 195 = .ok (.goto 4, 3) := by decide +kernel
theorem d_M_divideWide_198 : decode b_M_divideWide 198 = .ok (.iconst 0, 1) := by decide +kernel
theorem d_M_divideWide_199 : decode b_M_divideWide 199 = .ok (.istore 5, 2) := by decide +kernel
theorem d_M_divideWide_201 : decode b_M_divideWide 201 = .ok (.goto 9, 3) := by decide +kernel
theorem d_M_divideWide_204 : decode b_M_divideWide 204 = .ok (.iinc 6 (-1), 3) := by decide +kernel
theorem d_M_divideWide_207 : decode b_M_divideWide 207 = .ok (.goto (-60), 3) := by decide +kernel
theorem d_M_divideWide_210 : decode b_M_divideWide 210 = .ok (.iload 5, 2) := by decide +kernel
theorem d_M_divideWide_212 : decode b_M_divideWide 212 = .ok (.ifCond .ne 6, 3) := by decide +kernel
theorem d_M_divideWide_215 : decode b_M_divideWide 215 = .ok (.goto 94, 3) := by decide +kernel
theorem d_M_divideWide_218 : decode b_M_divideWide 218 = .ok (.lconst 0, 1) := by decide +kernel
theorem d_M_divideWide_219 : decode b_M_divideWide 219 = .ok (.lstore 6, 2) := by decide +kernel
theorem d_M_divideWide_221 : decode b_M_divideWide 221 = .ok (.iconst 0, 1) := by decide +kernel
theorem d_M_divideWide_222 : decode b_M_divideWide 222 = .ok (.istore 8, 2) := by decide +kernel
theorem d_M_divideWide_224 : decode b_M_divideWide 224 = .ok (.iload 8, 2) := by decide +kernel
theorem d_M_divideWide_226 : decode b_M_divideWide 226 = .ok (.bipush 9, 2) := by decide +kernel
theorem d_M_divideWide_228 : decode b_M_divideWide 228 = .ok (.if_icmp .ge 64, 3) := by decide +kernel
theorem d_M_divideWide_231 : decode b_M_divideWide 231 = .ok (.lload 6, 2) := by decide +kernel
theorem d_M_divideWide_233 : decode b_M_divideWide 233 = .ok (.aload_n 0, 1) := by decide +kernel
theorem d_M_divideWide_234 : decode b_M_divideWide 234 = .ok (.getfield 33, 3) := by decide +kernel
theorem d_M_divideWide_237 : decode b_M_divideWide 237 = .ok (.iload 8, 2) := by decide +kernel
theorem d_M_divideWide_239 : decode b_M_divideWide 239 = .ok (.iaload, 1) := by decide +kernel
theorem d_M_divideWide_240 : decode b_M_divideWide 240 = .ok (.i2l, 1) := by decide +kernel
theorem d_M_divideWide_241 : decode b_M_divideWide 241 = .ok (.ldc2_w 40, 3) := by decide +kernel
theorem d_M_divideWide_244 : decode b_M_divideWide 244 = .ok (.land, 1) := by decide +kernel
theorem d_M_divideWide_245 : decode b_M_divideWide 245 = .ok (.iload 8, 2) := by decide +kernel
theorem d_M_divideWide_247 : decode b_M_divideWide 247 = .ok (.bipush 8, 2) := by decide +kernel
theorem d_M_divideWide_249 : decode b_M_divideWide 249 = .ok (.if_icmp .ge 15, 3) := by decide +kernel
theorem d_M_divideWide_252 : decode b_M_divideWide 252 = .ok (.aload_n 1, 1) := by decide +kernel
theorem d_M_divideWide_253 : decode b_M_divideWide 253 = .ok (.iload 8, 2) := by decide +kernel
theorem d_M_divideWide_255 : decode b_M_divideWide 255 = .ok (.iaload, 1) := by decide +kernel
theorem d_M_divideWide_256 : decode b_M_divideWide 256 = .ok (.i2l, 1) := by decide +kernel
theorem d_M_divideWide_257 : decode b_M_divideWide 257 = .ok (.ldc2_w 40, 3) := by decide +kernel
theorem d_M_divideWide_260 : decode b_M_divideWide 260 = .ok (.land, 1) := by decide +kernel
theorem d_M_divideWide_261 : decode b_M_divideWide 261 = .ok (.goto 4, 3) := by decide +kernel
theorem d_M_divideWide_264 : decode b_M_divideWide 264 = .ok (.lconst 0, 1) := by decide +kernel
theorem d_M_divideWide_265 : decode b_M_divideWide 265 = .ok (.lsub, 1) := by decide +kernel
theorem d_M_divideWide_266 : decode b_M_divideWide 266 = .ok (.ladd, 1) := by decide +kernel
theorem d_M_divideWide_267 : decode b_M_divideWide 267 = .ok (.lstore 6, 2) := by decide +kernel
theorem d_M_divideWide_269 : decode b_M_divideWide 269 = .ok (.aload_n 0, 1) := by decide +kernel
theorem d_M_divideWide_270 : decode b_M_divideWide 270 = .ok (.getfield 33, 3) := by decide +kernel
theorem d_M_divideWide_273 : decode b_M_divideWide 273 = .ok (.iload 8, 2) := by decide +kernel
theorem d_M_divideWide_275 : decode b_M_divideWide 275 = .ok (.lload 6, 2) := by decide +kernel
theorem d_M_divideWide_277 : decode b_M_divideWide 277 = .ok (.l2i, 1) := by decide +kernel
theorem d_M_divideWide_278 : decode b_M_divideWide 278 = .ok (.iastore, 1) := by decide +kernel
theorem d_M_divideWide_279 : decode b_M_divideWide 279 = .ok (.lload 6, 2) := by decide +kernel
theorem d_M_divideWide_281 : decode b_M_divideWide 281 = .ok (.bipush 32, 2) := by decide +kernel
theorem d_M_divideWide_283 : decode b_M_divideWide 283 = .ok (.lshr, 1) := by decide +kernel
theorem d_M_divideWide_284 : decode b_M_divideWide 284 = .ok (.lstore 6, 2) := by decide +kernel
theorem d_M_divideWide_286 : decode b_M_divideWide 286 = .ok (.iinc 8 1, 3) := by decide +kernel
theorem d_M_divideWide_289 : decode b_M_divideWide 289 = .ok (.goto (-65), 3) := by decide +kernel
theorem d_M_divideWide_292 : decode b_M_divideWide 292 = .ok (.aload_n 0, 1) := by decide +kernel
theorem d_M_divideWide_293 : decode b_M_divideWide 293 = .ok (.getfield 30, 3) := by decide +kernel
theorem d_M_divideWide_296 : decode b_M_divideWide 296 = .ok (.iload_n 3, 1) := by decide +kernel
theorem d_M_divideWide_297 : decode b_M_divideWide 297 = .ok (.iconst 5, 1) := by decide +kernel
theorem d_M_divideWide_298 : decode b_M_divideWide 298 = .ok (.ishr, 1) := by decide +kernel
theorem d_M_divideWide_299 : decode b_M_divideWide 299 = .ok (.dup2, 1) := by decide +kernel
theorem d_M_divideWide_300 : decode b_M_divideWide 300 = .ok (.iaload, 1) := by decide +kernel
theorem d_M_divideWide_301 : decode b_M_divideWide 301 = .ok (.iconst 1, 1) := by decide +kernel
theorem d_M_divideWide_302 : decode b_M_divideWide 302 = .ok (.iload_n 3, 1) := by decide +kernel
theorem d_M_divideWide_303 : decode b_M_divideWide 303 = .ok (.bipush 31, 2) := by decide +kernel
theorem d_M_divideWide_305 : decode b_M_divideWide 305 = .ok (.iand, 1) := by decide +kernel
theorem d_M_divideWide_306 : decode b_M_divideWide 306 = .ok (.ishl, 1) := by decide +kernel
theorem d_M_divideWide_307 : decode b_M_divideWide 307 = .ok (.ior, 1) := by decide +kernel
theorem d_M_divideWide_308 : decode b_M_divideWide 308 = .ok (.iastore, 1) := by decide +kernel
theorem d_M_divideWide_309 : decode b_M_divideWide 309 = .ok (.iinc 3 (-1), 3) := by decide +kernel
theorem d_M_divideWide_312 : decode b_M_divideWide 312 = .ok (.goto (-266), 3) := by decide +kernel
theorem d_M_divideWide_315 : decode b_M_divideWide 315 = .ok (.return_, 1) := by decide +kernel
theorem d_M_signed_0 : decode b_M_signed 0 = .ok (.aload_n 0, 1) := by decide +kernel
theorem d_M_signed_1 : decode b_M_signed 1 = .ok (.aload_n 2, 1) := by decide +kernel
theorem d_M_signed_2 : decode b_M_signed 2 = .ok (.invokevirtual 54, 3) := by decide +kernel
theorem d_M_signed_5 : decode b_M_signed 5 = .ok (.istore 5, 2) := by decide +kernel
theorem d_M_signed_7 : decode b_M_signed 7 = .ok (.aload_n 0, 1) := by decide +kernel
theorem d_M_signed_8 : decode b_M_signed 8 = .ok (.aload_n 3, 1) := by decide +kernel
theorem d_M_signed_9 : decode b_M_signed 9 = .ok (.invokevirtual 54, 3) := by decide +kernel
theorem d_M_signed_12 : decode b_M_signed 12 = .ok (.istore 6, 2) := by decide +kernel
theorem d_M_signed_14 : decode b_M_signed 14 = .ok (.aload_n 0, 1) := by decide +kernel
theorem d_M_signed_15 : decode b_M_signed 15 = .ok (.getfield 14, 3) := by decide +kernel
theorem d_M_signed_18 : decode b_M_signed 18 = .ok (.aload_n 2, 1) := by decide +kernel
theorem d_M_signed_19 : decode b_M_signed 19 = .ok (.invokestatic 58, 3) := by decide +kernel
theorem d_M_signed_22 : decode b_M_signed 22 = .ok (.aload_n 0, 1) := by decide +kernel
theorem d_M_signed_23 : decode b_M_signed 23 = .ok (.getfield 18, 3) := by decide +kernel
theorem d_M_signed_26 : decode b_M_signed 26 = .ok (.aload_n 3, 1) := by decide +kernel
theorem d_M_signed_27 : decode b_M_signed 27 = .ok (.invokestatic 58, 3) := by decide +kernel
theorem d_M_signed_30 : decode b_M_signed 30 = .ok (.iload 5, 2) := by decide +kernel
theorem d_M_signed_32 : decode b_M_signed 32 = .ok (.ifCond .eq 11, 3) := by decide +kernel
theorem d_M_signed_35 : decode b_M_signed 35 = .ok (.aload_n 0, 1) := by decide +kernel
theorem d_M_signed_36 : decode b_M_signed 36 = .ok (.aload_n 0, 1) := by decide +kernel
theorem d_M_signed_37 : decode b_M_signed 37 = .ok (.getfield 14, 3) := by decide +kernel
theorem d_M_signed_40 : decode b_M_signed 40 = .ok (.invokevirtual 62, 3) := by decide +kernel
theorem d_M_signed_43 : decode b_M_signed 43 = .ok (.iload 6, 2) := by decide +kernel
theorem d_M_signed_45 : decode b_M_signed 45 = .ok (.ifCond .eq 11, 3) := by decide +kernel
theorem d_M_signed_48 : decode b_M_signed 48 = .ok (.aload_n 0, 1) := by decide +kernel
theorem d_M_signed_49 : decode b_M_signed 49 = .ok (.aload_n 0, 1) := by decide +kernel
theorem d_M_signed_50 : decode b_M_signed 50 = .ok (.getfield 18, 3) := by decide +kernel
theorem d_M_signed_53 : decode b_M_signed 53 = .ok (.invokevirtual 62, 3) := by decide +kernel
theorem d_M_signed_56 : decode b_M_signed 56 = .ok (.aload_n 0, 1) := by decide +kernel
theorem d_M_signed_57 : decode b_M_signed 57 = .ok (.aload_n 0, 1) := by decide +kernel
theorem d_M_signed_58 : decode b_M_signed 58 = .ok (.getfield 14, 3) := by decide +kernel
theorem d_M_signed_61 : decode b_M_signed 61 = .ok (.aload_n 0, 1) := by decide +kernel
theorem d_M_signed_62 : decode b_M_signed 62 = .ok (.getfield 18, 3) := by decide +kernel
theorem d_M_signed_65 : decode b_M_signed 65 = .ok (.invokevirtual 65, 3) := by decide +kernel
theorem d_M_signed_68 : decode b_M_signed 68 = .ok (.aload_n 1, 1) := by decide +kernel
theorem d_M_signed_69 : decode b_M_signed 69 = .ok (.iload 4, 2) := by decide +kernel
theorem d_M_signed_71 : decode b_M_signed 71 = .ok (.ifCond .eq 10, 3) := by decide +kernel
theorem d_M_signed_74 : decode b_M_signed 74 = .ok (.aload_n 0, 1) := by decide +kernel
theorem d_M_signed_75 : decode b_M_signed 75 = .ok (.getfield 33, 3) := by decide +kernel
theorem d_M_signed_78 : decode b_M_signed 78 = .ok (.goto 7, 3) := by decide +kernel
theorem d_M_signed_81 : decode b_M_signed 81 = .ok (.aload_n 0, 1) := by decide +kernel
theorem d_M_signed_82 : decode b_M_signed 82 = .ok (.getfield 30, 3) := by decide +kernel
theorem d_M_signed_85 : decode b_M_signed 85 = .ok (.invokestatic 68, 3) := by decide +kernel
theorem d_M_signed_88 : decode b_M_signed 88 = .ok (.iload 4, 2) := by decide +kernel
theorem d_M_signed_90 : decode b_M_signed 90 = .ok (.ifCond .eq 11, 3) := by decide +kernel
theorem d_M_signed_93 : decode b_M_signed 93 = .ok (.iload 5, 2) := by decide +kernel
theorem d_M_signed_95 : decode b_M_signed 95 = .ok (.ifCond .eq 18, 3) := by decide +kernel
theorem d_M_signed_98 : decode b_M_signed 98 = .ok (.goto 10, 3) := by decide +kernel
theorem d_M_signed_101 : decode b_M_signed 101 = .ok (.iload 5, 2) := by decide +kernel
theorem d_M_signed_103 : decode b_M_signed 103 = .ok (.iload 6, 2) := by decide +kernel
theorem d_M_signed_105 : decode b_M_signed 105 = .ok (.if_icmp .eq 8, 3) := by decide +kernel
theorem d_M_signed_108 : decode b_M_signed 108 = .ok (.aload_n 0, 1) := by decide +kernel
theorem d_M_signed_109 : decode b_M_signed 109 = .ok (.aload_n 1, 1) := by decide +kernel
theorem d_M_signed_110 : decode b_M_signed 110 = .ok (.invokevirtual 62, 3) := by decide +kernel
theorem d_M_signed_113 : decode b_M_signed 113 = .ok (.return_, 1) := by decide +kernel
theorem d_M_below_0 : decode b_M_below 0 = .ok (.aload_n 1, 1) := by decide +kernel
theorem d_M_below_1 : decode b_M_below 1 = .ok (.bipush 7, 2) := by decide +kernel
theorem d_M_below_3 : decode b_M_below 3 = .ok (.iaload, 1) := by decide +kernel
theorem d_M_below_4 : decode b_M_below 4 = .ok (.ifCond .ge 7, 3) := by decide +kernel
theorem d_M_below_7 : decode b_M_below 7 = .ok (.iconst 1, 1) := by decide +kernel
theorem d_M_below_8 : decode b_M_below 8 = .ok (.goto 4, 3) := by decide +kernel
theorem d_M_below_11 : decode b_M_below 11 = .ok (.iconst 0, 1) := by decide +kernel
theorem d_M_below_12 : decode b_M_below 12 = .ok (.ireturn, 1) := by decide +kernel
theorem d_M_copy_0 : decode b_M_copy 0 = .ok (.iconst 0, 1) := by decide +kernel
theorem d_M_copy_1 : decode b_M_copy 1 = .ok (.istore_n 2, 1) := by decide +kernel
theorem d_M_copy_2 : decode b_M_copy 2 = .ok (.iload_n 2, 1) := by decide +kernel
theorem d_M_copy_3 : decode b_M_copy 3 = .ok (.bipush 8, 2) := by decide +kernel
theorem d_M_copy_5 : decode b_M_copy 5 = .ok (.if_icmp .ge 15, 3) := by decide +kernel
theorem d_M_copy_8 : decode b_M_copy 8 = .ok (.aload_n 0, 1) := by decide +kernel
theorem d_M_copy_9 : decode b_M_copy 9 = .ok (.iload_n 2, 1) := by decide +kernel
theorem d_M_copy_10 : decode b_M_copy 10 = .ok (.aload_n 1, 1) := by decide +kernel
theorem d_M_copy_11 : decode b_M_copy 11 = .ok (.iload_n 2, 1) := by decide +kernel
theorem d_M_copy_12 : decode b_M_copy 12 = .ok (.iaload, 1) := by decide +kernel
theorem d_M_copy_13 : decode b_M_copy 13 = .ok (.iastore, 1) := by decide +kernel
theorem d_M_copy_14 : decode b_M_copy 14 = .ok (.iinc 2 1, 3) := by decide +kernel
theorem d_M_copy_17 : decode b_M_copy 17 = .ok (.goto (-15), 3) := by decide +kernel
theorem d_M_copy_20 : decode b_M_copy 20 = .ok (.return_, 1) := by decide +kernel
theorem d_M_negate_0 : decode b_M_negate 0 = .ok (.aload_n 1, 1) := by decide +kernel
theorem d_M_negate_1 : decode b_M_negate 1 = .ok (.aload_n 0, 1) := by decide +kernel
theorem d_M_negate_2 : decode b_M_negate 2 = .ok (.getfield 24, 3) := by decide +kernel
theorem d_M_negate_5 : decode b_M_negate 5 = .ok (.aload_n 1, 1) := by decide +kernel
theorem d_M_negate_6 : decode b_M_negate 6 = .ok (.invokestatic 46, 3) := by decide +kernel
theorem d_M_negate_9 : decode b_M_negate 9 = .ok (.return_, 1) := by decide +kernel
theorem d_M_power_0 : decode b_M_power 0 = .ok (.aload_n 0, 1) := by decide +kernel
theorem d_M_power_1 : decode b_M_power 1 = .ok (.getfield 21, 3) := by decide +kernel
theorem d_M_power_4 : decode b_M_power 4 = .ok (.lconst 1, 1) := by decide +kernel
theorem d_M_power_5 : decode b_M_power 5 = .ok (.invokestatic 71, 3) := by decide +kernel
theorem d_M_power_8 : decode b_M_power 8 = .ok (.sipush 255, 3) := by decide +kernel
theorem d_M_power_11 : decode b_M_power 11 = .ok (.istore_n 3, 1) := by decide +kernel
theorem d_M_power_12 : decode b_M_power 12 = .ok (.iload_n 3, 1) := by decide +kernel
theorem d_M_power_13 : decode b_M_power 13 = .ok (.ifCond .lt 63, 3) := by decide +kernel
theorem d_M_power_16 : decode b_M_power 16 = .ok (.aload_n 0, 1) := by decide +kernel
theorem d_M_power_17 : decode b_M_power 17 = .ok (.aload_n 0, 1) := by decide +kernel
theorem d_M_power_18 : decode b_M_power 18 = .ok (.getfield 21, 3) := by decide +kernel
theorem d_M_power_21 : decode b_M_power 21 = .ok (.aload_n 0, 1) := by decide +kernel
theorem d_M_power_22 : decode b_M_power 22 = .ok (.getfield 21, 3) := by decide +kernel
theorem d_M_power_25 : decode b_M_power 25 = .ok (.invokevirtual 75, 3) := by decide +kernel
theorem d_M_power_28 : decode b_M_power 28 = .ok (.aload_n 0, 1) := by decide +kernel
theorem d_M_power_29 : decode b_M_power 29 = .ok (.getfield 21, 3) := by decide +kernel
theorem d_M_power_32 : decode b_M_power 32 = .ok (.aload_n 0, 1) := by decide +kernel
theorem d_M_power_33 : decode b_M_power 33 = .ok (.getfield 27, 3) := by decide +kernel
theorem d_M_power_36 : decode b_M_power 36 = .ok (.invokestatic 68, 3) := by decide +kernel
theorem d_M_power_39 : decode b_M_power 39 = .ok (.aload_n 2, 1) := by decide +kernel
theorem d_M_power_40 : decode b_M_power 40 = .ok (.iload_n 3, 1) := by decide +kernel
theorem d_M_power_41 : decode b_M_power 41 = .ok (.invokestatic 78, 3) := by decide +kernel
theorem d_M_power_44 : decode b_M_power 44 = .ok (.ifCond .ne 6, 3) := by decide +kernel
theorem d_M_power_47 : decode b_M_power 47 = .ok (.goto 23, 3) := by decide +kernel
theorem d_M_power_50 : decode b_M_power 50 = .ok (.aload_n 0, 1) := by decide +kernel
theorem d_M_power_51 : decode b_M_power 51 = .ok (.aload_n 0, 1) := by decide +kernel
theorem d_M_power_52 : decode b_M_power 52 = .ok (.getfield 21, 3) := by decide +kernel
theorem d_M_power_55 : decode b_M_power 55 = .ok (.aload_n 1, 1) := by decide +kernel
theorem d_M_power_56 : decode b_M_power 56 = .ok (.invokevirtual 75, 3) := by decide +kernel
theorem d_M_power_59 : decode b_M_power 59 = .ok (.aload_n 0, 1) := by decide +kernel
theorem d_M_power_60 : decode b_M_power 60 = .ok (.getfield 21, 3) := by decide +kernel
theorem d_M_power_63 : decode b_M_power 63 = .ok (.aload_n 0, 1) := by decide +kernel
theorem d_M_power_64 : decode b_M_power 64 = .ok (.getfield 27, 3) := by decide +kernel
theorem d_M_power_67 : decode b_M_power 67 = .ok (.invokestatic 68, 3) := by decide +kernel
theorem d_M_power_70 : decode b_M_power 70 = .ok (.iinc 3 (-1), 3) := by decide +kernel
theorem d_M_power_73 : decode b_M_power 73 = .ok (.goto (-61), 3) := by decide +kernel
theorem d_M_power_76 : decode b_M_power 76 = .ok (.return_, 1) := by decide +kernel
theorem d_M_set_IJV_0 : decode b_M_set_IJV 0 = .ok (.aload_n 0, 1) := by decide +kernel
theorem d_M_set_IJV_1 : decode b_M_set_IJV 1 = .ok (.invokestatic 42, 3) := by decide +kernel
theorem d_M_set_IJV_4 : decode b_M_set_IJV 4 = .ok (.aload_n 0, 1) := by decide +kernel
theorem d_M_set_IJV_5 : decode b_M_set_IJV 5 = .ok (.iconst 0, 1) := by decide +kernel
theorem d_M_set_IJV_6 : decode b_M_set_IJV 6 = .ok (.lload_n 1, 1) := by decide +kernel
theorem d_M_set_IJV_7 : decode b_M_set_IJV 7 = .ok (.l2i, 1) := by decide +kernel
theorem d_M_set_IJV_8 : decode b_M_set_IJV 8 = .ok (.iastore, 1) := by decide +kernel
theorem d_M_set_IJV_9 : decode b_M_set_IJV 9 = .ok (.aload_n 0, 1) := by decide +kernel
theorem d_M_set_IJV_10 : decode b_M_set_IJV 10 = .ok (.iconst 1, 1) := by decide +kernel
theorem d_M_set_IJV_11 : decode b_M_set_IJV 11 = .ok (.lload_n 1, 1) := by decide +kernel
theorem d_M_set_IJV_12 : decode b_M_set_IJV 12 = .ok (.bipush 32, 2) := by decide +kernel
theorem d_M_set_IJV_14 : decode b_M_set_IJV 14 = .ok (.lushr, 1) := by decide +kernel
theorem d_M_set_IJV_15 : decode b_M_set_IJV 15 = .ok (.l2i, 1) := by decide +kernel
theorem d_M_set_IJV_16 : decode b_M_set_IJV 16 = .ok (.iastore, 1) := by decide +kernel
theorem d_M_set_IJV_17 : decode b_M_set_IJV 17 = .ok (.return_, 1) := by decide +kernel
theorem d_M_bit_0 : decode b_M_bit 0 = .ok (.aload_n 0, 1) := by decide +kernel
theorem d_M_bit_1 : decode b_M_bit 1 = .ok (.iload_n 1, 1) := by decide +kernel
theorem d_M_bit_2 : decode b_M_bit 2 = .ok (.iconst 5, 1) := by decide +kernel
theorem d_M_bit_3 : decode b_M_bit 3 = .ok (.ishr, 1) := by decide +kernel
theorem d_M_bit_4 : decode b_M_bit 4 = .ok (.iaload, 1) := by decide +kernel
theorem d_M_bit_5 : decode b_M_bit 5 = .ok (.iload_n 1, 1) := by decide +kernel
theorem d_M_bit_6 : decode b_M_bit 6 = .ok (.bipush 31, 2) := by decide +kernel
theorem d_M_bit_8 : decode b_M_bit 8 = .ok (.iand, 1) := by decide +kernel
theorem d_M_bit_9 : decode b_M_bit 9 = .ok (.iushr, 1) := by decide +kernel
theorem d_M_bit_10 : decode b_M_bit 10 = .ok (.iconst 1, 1) := by decide +kernel
theorem d_M_bit_11 : decode b_M_bit 11 = .ok (.iand, 1) := by decide +kernel
theorem d_M_bit_12 : decode b_M_bit 12 = .ok (.ireturn, 1) := by decide +kernel
theorem d_M_extend_0 : decode b_M_extend 0 = .ok (.aload_n 0, 1) := by decide +kernel
theorem d_M_extend_1 : decode b_M_extend 1 = .ok (.getfield 21, 3) := by decide +kernel
theorem d_M_extend_4 : decode b_M_extend 4 = .ok (.aload_n 2, 1) := by decide +kernel
theorem d_M_extend_5 : decode b_M_extend 5 = .ok (.invokestatic 58, 3) := by decide +kernel
theorem d_M_extend_8 : decode b_M_extend 8 = .ok (.aload_n 1, 1) := by decide +kernel
theorem d_M_extend_9 : decode b_M_extend 9 = .ok (.ldc2_w 82, 3) := by decide +kernel
theorem d_M_extend_12 : decode b_M_extend 12 = .ok (.invokestatic 84, 3) := by decide +kernel
theorem d_M_extend_15 : decode b_M_extend 15 = .ok (.lstore_n 3, 1) := by decide +kernel
theorem d_M_extend_16 : decode b_M_extend 16 = .ok (.lload_n 3, 1) := by decide +kernel
theorem d_M_extend_17 : decode b_M_extend 17 = .ok (.ldc2_w 88, 3) := by decide +kernel
theorem d_M_extend_20 : decode b_M_extend 20 = .ok (.lcmp, 1) := by decide +kernel
theorem d_M_extend_21 : decode b_M_extend 21 = .ok (.ifCond .le 4, 3) := by decide +kernel
theorem d_M_extend_24 : decode b_M_extend 24 = .ok (.return_, 1) := by decide +kernel
theorem d_M_extend_25 : decode b_M_extend 25 = .ok (.bipush 8, 2) := by decide +kernel
theorem d_M_extend_27 : decode b_M_extend 27 = .ok (.lload_n 3, 1) := by decide +kernel
theorem d_M_extend_28 : decode b_M_extend 28 = .ok (.l2i, 1) := by decide +kernel
theorem d_M_extend_29 : decode b_M_extend 29 = .ok (.imul, 1) := by decide +kernel
theorem d_M_extend_30 : decode b_M_extend 30 = .ok (.bipush 7, 2) := by decide +kernel
theorem d_M_extend_32 : decode b_M_extend 32 = .ok (.iadd, 1) := by decide +kernel
theorem d_M_extend_33 : decode b_M_extend 33 = .ok (.istore 5, 2) := by decide +kernel
theorem d_M_extend_35 : decode b_M_extend 35 = .ok (.aload_n 2, 1) := by decide +kernel
theorem d_M_extend_36 : decode b_M_extend 36 = .ok (.iload 5, 2) := by decide +kernel
theorem d_M_extend_38 : decode b_M_extend 38 = .ok (.invokestatic 78, 3) := by decide +kernel
theorem d_M_extend_41 : decode b_M_extend 41 = .ok (.istore 6, 2) := by decide +kernel
theorem d_M_extend_43 : decode b_M_extend 43 = .ok (.iload 5, 2) := by decide +kernel
theorem d_M_extend_45 : decode b_M_extend 45 = .ok (.iconst 1, 1) := by decide +kernel
theorem d_M_extend_46 : decode b_M_extend 46 = .ok (.iadd, 1) := by decide +kernel
theorem d_M_extend_47 : decode b_M_extend 47 = .ok (.istore 7, 2) := by decide +kernel
theorem d_M_extend_49 : decode b_M_extend 49 = .ok (.iload 7, 2) := by decide +kernel
theorem d_M_extend_51 : decode b_M_extend 51 = .ok (.sipush 256, 3) := by decide +kernel
theorem d_M_extend_54 : decode b_M_extend 54 = .ok (.if_icmp .ge 46, 3) := by decide +kernel
theorem d_M_extend_57 : decode b_M_extend 57 = .ok (.aload_n 0, 1) := by decide +kernel
theorem d_M_extend_58 : decode b_M_extend 58 = .ok (.getfield 21, 3) := by decide +kernel
theorem d_M_extend_61 : decode b_M_extend 61 = .ok (.iload 7, 2) := by decide +kernel
theorem d_M_extend_63 : decode b_M_extend 63 = .ok (.iconst 5, 1) := by decide +kernel
theorem d_M_extend_64 : decode b_M_extend 64 = .ok (.ishr, 1) := by decide +kernel
theorem d_M_extend_65 : decode b_M_extend 65 = .ok (.aload_n 0, 1) := by decide +kernel
theorem d_M_extend_66 : decode b_M_extend 66 = .ok (.getfield 21, 3) := by decide +kernel
theorem d_M_extend_69 : decode b_M_extend 69 = .ok (.iload 7, 2) := by decide +kernel
theorem d_M_extend_71 : decode b_M_extend 71 = .ok (.iconst 5, 1) := by decide +kernel
theorem d_M_extend_72 : decode b_M_extend 72 = .ok (.ishr, 1) := by decide +kernel
theorem d_M_extend_73 : decode b_M_extend 73 = .ok (.iaload, 1) := by decide +kernel
theorem d_M_extend_74 : decode b_M_extend 74 = .ok (.iconst 1, 1) := by decide +kernel
theorem d_M_extend_75 : decode b_M_extend 75 = .ok (.iload 7, 2) := by decide +kernel
theorem d_M_extend_77 : decode b_M_extend 77 = .ok (.bipush 31, 2) := by decide +kernel
theorem d_M_extend_79 : decode b_M_extend 79 = .ok (.iand, 1) := by decide +kernel
theorem d_M_extend_80 : decode b_M_extend 80 = .ok (.ishl, 1) := by decide +kernel
theorem d_M_extend_81 : decode b_M_extend 81 = .ok (.iconst (-1), 1) := by decide +kernel
theorem d_M_extend_82 : decode b_M_extend 82 = .ok (.ixor, 1) := by decide +kernel
theorem d_M_extend_83 : decode b_M_extend 83 = .ok (.iand, 1) := by decide +kernel
theorem d_M_extend_84 : decode b_M_extend 84 = .ok (.iload 6, 2) := by decide +kernel
theorem d_M_extend_86 : decode b_M_extend 86 = .ok (.iload 7, 2) := by decide +kernel
theorem d_M_extend_88 : decode b_M_extend 88 = .ok (.bipush 31, 2) := by decide +kernel
theorem d_M_extend_90 : decode b_M_extend 90 = .ok (.iand, 1) := by decide +kernel
theorem d_M_extend_91 : decode b_M_extend 91 = .ok (.ishl, 1) := by decide +kernel
theorem d_M_extend_92 : decode b_M_extend 92 = .ok (.ior, 1) := by decide +kernel
theorem d_M_extend_93 : decode b_M_extend 93 = .ok (.iastore, 1) := by decide +kernel
theorem d_M_extend_94 : decode b_M_extend 94 = .ok (.iinc 7 1, 3) := by decide +kernel
theorem d_M_extend_97 : decode b_M_extend 97 = .ok (.goto (-48), 3) := by decide +kernel
theorem d_M_extend_100 : decode b_M_extend 100 = .ok (.return_, 1) := by decide +kernel
theorem d_M_small_0 : decode b_M_small 0 = .ok (.iconst 2, 1) := by decide +kernel
theorem d_M_small_1 : decode b_M_small 1 = .ok (.istore_n 3, 1) := by decide +kernel
theorem d_M_small_2 : decode b_M_small 2 = .ok (.iload_n 3, 1) := by decide +kernel
theorem d_M_small_3 : decode b_M_small 3 = .ok (.bipush 8, 2) := by decide +kernel
theorem d_M_small_5 : decode b_M_small 5 = .ok (.if_icmp .ge 19, 3) := by decide +kernel
theorem d_M_small_8 : decode b_M_small 8 = .ok (.aload_n 0, 1) := by decide +kernel
theorem d_M_small_9 : decode b_M_small 9 = .ok (.iload_n 3, 1) := by decide +kernel
theorem d_M_small_10 : decode b_M_small 10 = .ok (.iaload, 1) := by decide +kernel
theorem d_M_small_11 : decode b_M_small 11 = .ok (.ifCond .eq 7, 3) := by decide +kernel
theorem d_M_small_14 : decode b_M_small 14 = .ok (.lload_n 1, 1) := by decide +kernel
theorem d_M_small_15 : decode b_M_small 15 = .ok (.lconst 1, 1) := by decide +kernel
theorem d_M_small_16 : decode b_M_small 16 = .ok (.ladd, 1) := by decide +kernel
theorem d_M_small_17 : decode b_M_small 17 = .ok (.lreturn, 1) := by decide +kernel
theorem d_M_small_18 : decode b_M_small 18 = .ok (.iinc 3 1, 3) := by decide +kernel
theorem d_M_small_21 : decode b_M_small 21 = .ok (.goto (-19), 3) := by decide +kernel
theorem d_M_small_24 : decode b_M_small 24 = .ok (.aload_n 0, 1) := by decide +kernel
theorem d_M_small_25 : decode b_M_small 25 = .ok (.iconst 1, 1) := by decide +kernel
theorem d_M_small_26 : decode b_M_small 26 = .ok (.iaload, 1) := by decide +kernel
theorem d_M_small_27 : decode b_M_small 27 = .ok (.i2l, 1) := by decide +kernel
theorem d_M_small_28 : decode b_M_small 28 = .ok (.ldc2_w 40, 3) := by decide +kernel
theorem d_M_small_31 : decode b_M_small 31 = .ok (.land, 1) := by decide +kernel
theorem d_M_small_32 : decode b_M_small 32 = .ok (.bipush 32, 2) := by decide +kernel
theorem d_M_small_34 : decode b_M_small 34 = .ok (.lshl, 1) := by decide +kernel
theorem d_M_small_35 : decode b_M_small 35 = .ok (.aload_n 0, 1) := by decide +kernel
theorem d_M_small_36 : decode b_M_small 36 = .ok (.iconst 0, 1) := by decide +kernel
theorem d_M_small_37 : decode b_M_small 37 = .ok (.iaload, 1) := by decide +kernel
theorem d_M_small_38 : decode b_M_small 38 = .ok (.i2l, 1) := by decide +kernel
theorem d_M_small_39 : decode b_M_small 39 = .ok (.ldc2_w 40, 3) := by decide +kernel
theorem d_M_small_42 : decode b_M_small 42 = .ok (.land, 1) := by decide +kernel
theorem d_M_small_43 : decode b_M_small 43 = .ok (.lor, 1) := by decide +kernel
theorem d_M_small_44 : decode b_M_small 44 = .ok (.lstore_n 3, 1) := by decide +kernel
theorem d_M_small_45 : decode b_M_small 45 = .ok (.lload_n 3, 1) := by decide +kernel
theorem d_M_small_46 : decode b_M_small 46 = .ok (.lconst 0, 1) := by decide +kernel
theorem d_M_small_47 : decode b_M_small 47 = .ok (.lcmp, 1) := by decide +kernel
theorem d_M_small_48 : decode b_M_small 48 = .ok (.ifCond .lt 9, 3) := by decide +kernel
theorem d_M_small_51 : decode b_M_small 51 = .ok (.lload_n 3, 1) := by decide +kernel
theorem d_M_small_52 : decode b_M_small 52 = .ok (.lload_n 1, 1) := by decide +kernel
theorem d_M_small_53 : decode b_M_small 53 = .ok (.lcmp, 1) := by decide +kernel
theorem d_M_small_54 : decode b_M_small 54 = .ok (.ifCond .le 9, 3) := by decide +kernel
theorem d_M_small_57 : decode b_M_small 57 = .ok (.lload_n 1, 1) := by decide +kernel
theorem d_M_small_58 : decode b_M_small 58 = .ok (.lconst 1, 1) := by decide +kernel
theorem d_M_small_59 : decode b_M_small 59 = .ok (.ladd, 1) := by decide +kernel
theorem d_M_small_60 : decode b_M_small 60 = .ok (.goto 4, 3) := by decide +kernel
theorem d_M_small_63 : decode b_M_small 63 = .ok (.lload_n 3, 1) := by decide +kernel
theorem d_M_small_64 : decode b_M_small 64 = .ok (.lreturn, 1) := by decide +kernel
theorem d_M_modular_0 : decode b_M_modular 0 = .ok (.aload_n 0, 1) := by decide +kernel
theorem d_M_modular_1 : decode b_M_modular 1 = .ok (.iconst 0, 1) := by decide +kernel
theorem d_M_modular_2 : decode b_M_modular 2 = .ok (.putfield 36, 3) := by decide +kernel
theorem d_M_modular_5 : decode b_M_modular 5 = .ok (.aload_n 0, 1) := by decide +kernel
theorem d_M_modular_6 : decode b_M_modular 6 = .ok (.iload_n 1, 1) := by decide +kernel
theorem d_M_modular_7 : decode b_M_modular 7 = .ok (.invokevirtual 90, 3) := by decide +kernel
theorem d_M_modular_10 : decode b_M_modular 10 = .ok (.ifCond .ne 28, 3) := by decide +kernel
theorem d_M_modular_13 : decode b_M_modular 13 = .ok (.aload_n 0, 1) := by decide +kernel
theorem d_M_modular_14 : decode b_M_modular 14 = .ok (.iload_n 2, 1) := by decide +kernel
theorem d_M_modular_15 : decode b_M_modular 15 = .ok (.invokevirtual 90, 3) := by decide +kernel
theorem d_M_modular_18 : decode b_M_modular 18 = .ok (.ifCond .ne 20, 3) := by decide +kernel
theorem d_M_modular_21 : decode b_M_modular 21 = .ok (.aload_n 0, 1) := by decide +kernel
theorem d_M_modular_22 : decode b_M_modular 22 = .ok (.iload_n 3, 1) := by decide +kernel
theorem d_M_modular_23 : decode b_M_modular 23 = .ok (.invokevirtual 90, 3) := by decide +kernel
theorem d_M_modular_26 : decode b_M_modular 26 = .ok (.ifCond .ne 12, 3) := by decide +kernel
theorem d_M_modular_29 : decode b_M_modular 29 = .ok (.aload_n 0, 1) := by decide +kernel
theorem d_M_modular_30 : decode b_M_modular 30 = .ok (.iload 4, 2) := by decide +kernel
theorem d_M_modular_32 : decode b_M_modular 32 = .ok (.invokevirtual 90, 3) := by decide +kernel
theorem d_M_modular_35 : decode b_M_modular 35 = .ok (.ifCond .eq 11, 3) := by decide +kernel
theorem d_M_modular_38 : decode b_M_modular 38 = .ok (.aload_n 0, 1) := by decide +kernel
theorem d_M_modular_39 : decode b_M_modular 39 = .ok (.iconst 1, 1) := by decide +kernel
theorem d_M_modular_40 : decode b_M_modular 40 = .ok (.putfield 36, 3) := by decide +kernel
theorem d_M_modular_43 : decode b_M_modular 43 = .ok (.goto 172, 3) := by decide +kernel
theorem d_M_modular_46 : decode b_M_modular 46 = .ok (.iload 5, 2) := by decide +kernel
theorem d_M_modular_48 : decode b_M_modular 48 = .ok (.ifCond .eq 22, 3) := by decide +kernel
theorem d_M_modular_51 : decode b_M_modular 51 = .ok (.aload_n 0, 1) := by decide +kernel
theorem d_M_modular_52 : decode b_M_modular 52 = .ok (.aload_n 0, 1) := by decide +kernel
theorem d_M_modular_53 : decode b_M_modular 53 = .ok (.getfield 9, 3) := by decide +kernel
theorem d_M_modular_56 : decode b_M_modular 56 = .ok (.iload_n 2, 1) := by decide +kernel
theorem d_M_modular_57 : decode b_M_modular 57 = .ok (.aaload, 1) := by decide +kernel
theorem d_M_modular_58 : decode b_M_modular 58 = .ok (.aload_n 0, 1) := by decide +kernel
theorem d_M_modular_59 : decode b_M_modular 59 = .ok (.getfield 9, 3) := by decide +kernel
theorem d_M_modular_62 : decode b_M_modular 62 = .ok (.iload_n 3, 1) := by decide +kernel
theorem d_M_modular_63 : decode b_M_modular 63 = .ok (.aaload, 1) := by decide +kernel
theorem d_M_modular_64 : decode b_M_modular 64 = .ok (.invokevirtual 75, 3) := by decide +kernel
theorem d_M_modular_67 : decode b_M_modular 67 = .ok (.goto 87, 3) := by decide +kernel
theorem d_M_modular_70 : decode b_M_modular 70 = .ok (.iconst 0, 1) := by decide +kernel
theorem d_M_modular_71 : decode b_M_modular 71 = .ok (.istore 6, 2) := by decide +kernel
theorem d_M_modular_73 : decode b_M_modular 73 = .ok (.iload 6, 2) := by decide +kernel
theorem d_M_modular_75 : decode b_M_modular 75 = .ok (.bipush 17, 2) := by decide +kernel
theorem d_M_modular_77 : decode b_M_modular 77 = .ok (.if_icmp .ge 17, 3) := by decide +kernel
theorem d_M_modular_80 : decode b_M_modular 80 = .ok (.aload_n 0, 1) := by decide +kernel
theorem d_M_modular_81 : decode b_M_modular 81 = .ok (.getfield 27, 3) := by decide +kernel
theorem d_M_modular_84 : decode b_M_modular 84 = .ok (.iload 6, 2) := by decide +kernel
theorem d_M_modular_86 : decode b_M_modular 86 = .ok (.iconst 0, 1) := by decide +kernel
theorem d_M_modular_87 : decode b_M_modular 87 = .ok (.iastore, 1) := by decide +kernel
theorem d_M_modular_88 : decode b_M_modular 88 = .ok (.iinc 6 1, 3) := by decide +kernel
theorem d_M_modular_91 : decode b_M_modular 91 = .ok (.goto (-18), 3) := by decide +kernel
theorem d_M_modular_94 : decode b_M_modular 94 = .ok (.aload_n 0, 1) := by decide +kernel
theorem d_M_modular_95 : decode b_M_modular 95 = .ok (.getfield 14, 3) := by decide +kernel
theorem d_M_modular_98 : decode b_M_modular 98 = .ok (.aload_n 0, 1) := by decide +kernel
theorem d_M_modular_99 : decode b_M_modular 99 = .ok (.getfield 9, 3) := by decide +kernel
theorem d_M_modular_102 : decode b_M_modular 102 = .ok (.iload_n 2, 1) := by decide +kernel
theorem d_M_modular_103 : decode b_M_modular 103 = .ok (.aaload, 1) := by decide +kernel
theorem d_M_modular_104 : decode b_M_modular 104 = .ok (.aload_n 0, 1) := by decide +kernel
theorem d_M_modular_105 : decode b_M_modular 105 = .ok (.getfield 9, 3) := by decide +kernel
theorem d_M_modular_108 : decode b_M_modular 108 = .ok (.iload_n 3, 1) := by decide +kernel
theorem d_M_modular_109 : decode b_M_modular 109 = .ok (.aaload, 1) := by decide +kernel
theorem d_M_modular_110 : decode b_M_modular 110 = .ok (.invokestatic 109, 3) := by decide +kernel
theorem d_M_modular_113 : decode b_M_modular 113 = .ok (.istore 6, 2) := by decide +kernel
theorem d_M_modular_115 : decode b_M_modular 115 = .ok (.iconst 0, 1) := by decide +kernel
theorem d_M_modular_116 : decode b_M_modular 116 = .ok (.istore 7, 2) := by decide +kernel
theorem d_M_modular_118 : decode b_M_modular 118 = .ok (.iload 7, 2) := by decide +kernel
theorem d_M_modular_120 : decode b_M_modular 120 = .ok (.bipush 8, 2) := by decide +kernel
theorem d_M_modular_122 : decode b_M_modular 122 = .ok (.if_icmp .ge 23, 3) := by decide +kernel
theorem d_M_modular_125 : decode b_M_modular 125 = .ok (.aload_n 0, 1) := by decide +kernel
theorem d_M_modular_126 : decode b_M_modular 126 = .ok (.getfield 27, 3) := by decide +kernel
theorem d_M_modular_129 : decode b_M_modular 129 = .ok (.iload 7, 2) := by decide +kernel
theorem d_M_modular_131 : decode b_M_modular 131 = .ok (.aload_n 0, 1) := by decide +kernel
theorem d_M_modular_132 : decode b_M_modular 132 = .ok (.getfield 14, 3) := by decide +kernel
theorem d_M_modular_135 : decode b_M_modular 135 = .ok (.iload 7, 2) := by decide +kernel
theorem d_M_modular_137 : decode b_M_modular 137 = .ok (.iaload, 1) := by decide +kernel
theorem d_M_modular_138 : decode b_M_modular 138 = .ok (.iastore, 1) := by decide +kernel
theorem d_M_modular_139 : decode b_M_modular 139 = .ok (.iinc 7 1, 3) := by decide +kernel
theorem d_M_modular_142 : decode b_M_modular 142 = .ok (.goto (-24), 3) := by decide +kernel
theorem d_M_modular_145 : decode b_M_modular 145 = .ok (.aload_n 0, 1) := by decide +kernel
theorem d_M_modular_146 : decode b_M_modular 146 = .ok (.getfield 27, 3) := by decide +kernel
theorem d_M_modular_149 : decode b_M_modular 149 = .ok (.bipush 8, 2) := by decide +kernel
theorem d_M_modular_151 : decode b_M_modular 151 = .ok (.iload 6, 2) := by decide +kernel
theorem d_M_modular_153 : decode b_M_modular 153 = .ok (.iastore, 1) := by decide +kernel
theorem d_M_modular_154 : decode b_M_modular 154 = .ok (.aload_n 0, 1) := by decide +kernel
theorem d_M_modular_155 : decode b_M_modular 155 = .ok (.getfield 9, 3) := by decide +kernel
theorem d_M_modular_158 : decode b_M_modular 158 = .ok (.iload 4, 2) := by decide +kernel
theorem d_M_modular_160 : decode b_M_modular 160 = .ok (.aaload, 1) := by decide +kernel
theorem d_M_modular_161 : decode b_M_modular 161 = .ok (.invokestatic 106, 3) := by decide +kernel
theorem d_M_modular_164 : decode b_M_modular 164 = .ok (.ifCond .eq 13, 3) := by decide +kernel
theorem d_M_modular_167 : decode b_M_modular 167 = .ok (.aload_n 0, 1) := by decide +kernel
theorem d_M_modular_168 : decode b_M_modular 168 = .ok (.getfield 21, 3) := by decide +kernel
theorem d_M_modular_171 : decode b_M_modular 171 = .ok (.invokestatic 42, 3) := by decide +kernel
theorem d_M_modular_174 : decode b_M_modular 174 = .ok (.goto 28, 3) := by decide +kernel
theorem d_M_modular_177 : decode b_M_modular 177 = .ok (.aload_n 0, 1) := by decide +kernel
theorem d_M_modular_178 : decode b_M_modular 178 = .ok (.aload_n 0, 1) := by decide +kernel
theorem d_M_modular_179 : decode b_M_modular 179 = .ok (.getfield 9, 3) := by decide +kernel
theorem d_M_modular_182 : decode b_M_modular 182 = .ok (.iload 4, 2) := by decide +kernel
theorem d_M_modular_184 : decode b_M_modular 184 = .ok (.aaload, 1) := by decide +kernel
theorem d_M_modular_185 : decode b_M_modular 185 = .ok (.sipush 512, 3) := by decide +kernel
theorem d_M_modular_188 : decode b_M_modular 188 = .ok (.invokevirtual 50, 3) := by decide +kernel
theorem d_M_modular_191 : decode b_M_modular 191 = .ok (.aload_n 0, 1) := by decide +kernel
theorem d_M_modular_192 : decode b_M_modular 192 = .ok (.getfield 21, 3) := by decide +kernel
theorem d_M_modular_195 : decode b_M_modular 195 = .ok (.aload_n 0, 1) := by decide +kernel
theorem d_M_modular_196 : decode b_M_modular 196 = .ok (.getfield 33, 3) := by decide +kernel
theorem d_M_modular_199 : decode b_M_modular 199 = .ok (.invokestatic 68, 3) := by decide +kernel
theorem d_M_modular_202 : decode b_M_modular 202 = .ok (.aload_n 0, 1) := by decide +kernel
theorem d_M_modular_203 : decode b_M_modular 203 = .ok (.getfield 9, 3) := by decide +kernel
theorem d_M_modular_206 : decode b_M_modular 206 = .ok (.iload_n 1, 1) := by decide +kernel
theorem d_M_modular_207 : decode b_M_modular 207 = .ok (.aaload, 1) := by decide +kernel
theorem d_M_modular_208 : decode b_M_modular 208 = .ok (.aload_n 0, 1) := by decide +kernel
theorem d_M_modular_209 : decode b_M_modular 209 = .ok (.getfield 21, 3) := by decide +kernel
theorem d_M_modular_212 : decode b_M_modular 212 = .ok (.invokestatic 58, 3) := by decide +kernel
theorem d_M_modular_215 : decode b_M_modular 215 = .ok (.return_, 1) := by decide +kernel
theorem d_M_turn_0 : decode b_M_turn 0 = .ok (.aload_n 0, 1) := by decide +kernel
theorem d_M_turn_1 : decode b_M_turn 1 = .ok (.iconst 0, 1) := by decide +kernel
theorem d_M_turn_2 : decode b_M_turn 2 = .ok (.putfield 36, 3) := by decide +kernel
theorem d_M_turn_5 : decode b_M_turn 5 = .ok (.aload_n 0, 1) := by decide +kernel
theorem d_M_turn_6 : decode b_M_turn 6 = .ok (.iload_n 1, 1) := by decide +kernel
theorem d_M_turn_7 : decode b_M_turn 7 = .ok (.invokevirtual 90, 3) := by decide +kernel
theorem d_M_turn_10 : decode b_M_turn 10 = .ok (.ifCond .ne 11, 3) := by decide +kernel
theorem d_M_turn_13 : decode b_M_turn 13 = .ok (.aload_n 0, 1) := by decide +kernel
theorem d_M_turn_14 : decode b_M_turn 14 = .ok (.iload_n 2, 1) := by decide +kernel
theorem d_M_turn_15 : decode b_M_turn 15 = .ok (.invokevirtual 90, 3) := by decide +kernel
theorem d_M_turn_18 : decode b_M_turn 18 = .ok (.ifCond .eq 11, 3) := by decide +kernel
theorem d_M_turn_21 : decode b_M_turn 21 = .ok (.aload_n 0, 1) := by decide +kernel
theorem d_M_turn_22 : decode b_M_turn 22 = .ok (.iconst 1, 1) := by decide +kernel
theorem d_M_turn_23 : decode b_M_turn 23 = .ok (.putfield 36, 3) := by decide +kernel
theorem d_M_turn_26 : decode b_M_turn 26 = .ok (.goto 76, 3) := by decide +kernel
theorem d_M_turn_29 : decode b_M_turn 29 = .ok (.aload_n 0, 1) := by decide +kernel
theorem d_M_turn_30 : decode b_M_turn 30 = .ok (.getfield 21, 3) := by decide +kernel
theorem d_M_turn_33 : decode b_M_turn 33 = .ok (.aload_n 0, 1) := by decide +kernel
theorem d_M_turn_34 : decode b_M_turn 34 = .ok (.getfield 9, 3) := by decide +kernel
theorem d_M_turn_37 : decode b_M_turn 37 = .ok (.iload_n 2, 1) := by decide +kernel
theorem d_M_turn_38 : decode b_M_turn 38 = .ok (.aaload, 1) := by decide +kernel
theorem d_M_turn_39 : decode b_M_turn 39 = .ok (.invokestatic 58, 3) := by decide +kernel
theorem d_M_turn_42 : decode b_M_turn 42 = .ok (.iload_n 3, 1) := by decide +kernel
theorem d_M_turn_43 : decode b_M_turn 43 = .ok (.ifCond .eq 38, 3) := by decide +kernel
theorem d_M_turn_46 : decode b_M_turn 46 = .ok (.iconst 0, 1) := by decide +kernel
theorem d_M_turn_47 : decode b_M_turn 47 = .ok (.istore 4, 2) := by decide +kernel
theorem d_M_turn_49 : decode b_M_turn 49 = .ok (.iload 4, 2) := by decide +kernel
theorem d_M_turn_51 : decode b_M_turn 51 = .ok (.bipush 8, 2) := by decide +kernel
theorem d_M_turn_53 : decode b_M_turn 53 = .ok (.if_icmp .ge 25, 3) := by decide +kernel
theorem d_M_turn_56 : decode b_M_turn 56 = .ok (.aload_n 0, 1) := by decide +kernel
theorem d_M_turn_57 : decode b_M_turn 57 = .ok (.getfield 21, 3) := by decide +kernel
theorem d_M_turn_60 : decode b_M_turn 60 = .ok (.iload 4, 2) := by decide +kernel
theorem d_M_turn_62 : decode b_M_turn 62 = .ok (.aload_n 0, 1) := by decide +kernel
theorem d_M_turn_63 : decode b_M_turn 63 = .ok (.getfield 21, 3) := by decide +kernel
theorem d_M_turn_66 : decode b_M_turn 66 = .ok (.iload 4, 2) := by decide +kernel
theorem d_M_turn_68 : decode b_M_turn 68 = .ok (.iaload, 1) := by decide +kernel
theorem d_M_turn_69 : decode b_M_turn 69 = .ok (.iconst (-1), 1) := by decide +kernel
theorem d_M_turn_70 : decode b_M_turn 70 = .ok (.ixor, 1) := by decide +kernel
theorem d_M_turn_71 : decode b_M_turn 71 = .ok (.iastore, 1) := by decide +kernel
theorem d_M_turn_72 : decode b_M_turn 72 = .ok (.iinc 4 1, 3) := by decide +kernel
theorem d_M_turn_75 : decode b_M_turn 75 = .ok (.goto (-26), 3) := by decide +kernel
theorem d_M_turn_78 : decode b_M_turn 78 = .ok (.goto 11, 3) := by decide +kernel
theorem d_M_turn_81 : decode b_M_turn 81 = .ok (.aload_n 0, 1) := by decide +kernel
theorem d_M_turn_82 : decode b_M_turn 82 = .ok (.aload_n 0, 1) := by decide +kernel
theorem d_M_turn_83 : decode b_M_turn 83 = .ok (.getfield 21, 3) := by decide +kernel
theorem d_M_turn_86 : decode b_M_turn 86 = .ok (.invokevirtual 62, 3) := by decide +kernel
theorem d_M_turn_89 : decode b_M_turn 89 = .ok (.aload_n 0, 1) := by decide +kernel
theorem d_M_turn_90 : decode b_M_turn 90 = .ok (.getfield 9, 3) := by decide +kernel
theorem d_M_turn_93 : decode b_M_turn 93 = .ok (.iload_n 1, 1) := by decide +kernel
theorem d_M_turn_94 : decode b_M_turn 94 = .ok (.aaload, 1) := by decide +kernel
theorem d_M_turn_95 : decode b_M_turn 95 = .ok (.aload_n 0, 1) := by decide +kernel
theorem d_M_turn_96 : decode b_M_turn 96 = .ok (.getfield 21, 3) := by decide +kernel
theorem d_M_turn_99 : decode b_M_turn 99 = .ok (.invokestatic 58, 3) := by decide +kernel
theorem d_M_turn_102 : decode b_M_turn 102 = .ok (.return_, 1) := by decide +kernel
theorem d_M_compare_0 : decode b_M_compare 0 = .ok (.aload_n 0, 1) := by decide +kernel
theorem d_M_compare_1 : decode b_M_compare 1 = .ok (.iconst 0, 1) := by decide +kernel
theorem d_M_compare_2 : decode b_M_compare 2 = .ok (.putfield 36, 3) := by decide +kernel
theorem d_M_compare_5 : decode b_M_compare 5 = .ok (.aload_n 0, 1) := by decide +kernel
theorem d_M_compare_6 : decode b_M_compare 6 = .ok (.iload_n 1, 1) := by decide +kernel
theorem d_M_compare_7 : decode b_M_compare 7 = .ok (.invokevirtual 90, 3) := by decide +kernel
theorem d_M_compare_10 : decode b_M_compare 10 = .ok (.ifCond .ne 11, 3) := by decide +kernel
theorem d_M_compare_13 : decode b_M_compare 13 = .ok (.aload_n 0, 1) := by decide +kernel
theorem d_M_compare_14 : decode b_M_compare 14 = .ok (.iload_n 2, 1) := by decide +kernel
theorem d_M_compare_15 : decode b_M_compare 15 = .ok (.invokevirtual 90, 3) := by decide +kernel
theorem d_M_compare_18 : decode b_M_compare 18 = .ok (.ifCond .eq 9, 3) := by decide +kernel
theorem d_M_compare_21 : decode b_M_compare 21 = .ok (.aload_n 0, 1) := by decide +kernel
theorem d_M_compare_22 : decode b_M_compare 22 = .ok (.iconst 1, 1) := by decide +kernel
theorem d_M_compare_23 : decode b_M_compare 23 = .ok (.invokevirtual 94, 3) := by decide +kernel
theorem d_M_compare_26 : decode b_M_compare 26 = .ok (.ireturn, 1) := by decide +kernel
theorem d_M_compare_27 : decode b_M_compare 27 = .ok (.aload_n 0, 1) := by decide +kernel
theorem d_M_compare_28 : decode b_M_compare 28 = .ok (.getfield 14, 3) := by decide +kernel
theorem d_M_compare_31 : decode b_M_compare 31 = .ok (.aload_n 0, 1) := by decide +kernel
theorem d_M_compare_32 : decode b_M_compare 32 = .ok (.getfield 9, 3) := by decide +kernel
theorem d_M_compare_35 : decode b_M_compare 35 = .ok (.iload_n 1, 1) := by decide +kernel
theorem d_M_compare_36 : decode b_M_compare 36 = .ok (.aaload, 1) := by decide +kernel
theorem d_M_compare_37 : decode b_M_compare 37 = .ok (.invokestatic 58, 3) := by decide +kernel
theorem d_M_compare_40 : decode b_M_compare 40 = .ok (.aload_n 0, 1) := by decide +kernel
theorem d_M_compare_41 : decode b_M_compare 41 = .ok (.getfield 18, 3) := by decide +kernel
theorem d_M_compare_44 : decode b_M_compare 44 = .ok (.aload_n 0, 1) := by decide +kernel
theorem d_M_compare_45 : decode b_M_compare 45 = .ok (.getfield 9, 3) := by decide +kernel
theorem d_M_compare_48 : decode b_M_compare 48 = .ok (.iload_n 2, 1) := by decide +kernel
theorem d_M_compare_49 : decode b_M_compare 49 = .ok (.aaload, 1) := by decide +kernel
theorem d_M_compare_50 : decode b_M_compare 50 = .ok (.invokestatic 58, 3) := by decide +kernel
theorem d_M_compare_53 : decode b_M_compare 53 = .ok (.iload_n 3, 1) := by decide +kernel
theorem d_M_compare_54 : decode b_M_compare 54 = .ok (.ifCond .eq 27, 3) := by decide +kernel
theorem d_M_compare_57 : decode b_M_compare 57 = .ok (.aload_n 0, 1) := by decide +kernel
theorem d_M_compare_58 : decode b_M_compare 58 = .ok (.getfield 14, 3) := by decide +kernel
theorem d_M_compare_61 : decode b_M_compare 61 = .ok (.bipush 7, 2) := by decide +kernel
theorem d_M_compare_63 : decode b_M_compare 63 = .ok (.dup2, 1) := by decide +kernel
theorem d_M_compare_64 : decode b_M_compare 64 = .ok (.iaload, 1) := by decide +kernel
theorem d_M_compare_65 : decode b_M_compare 65 = .ok (.ldc 129, 2) := by decide +kernel
theorem d_M_compare_67 : decode b_M_compare 67 = .ok (.ixor, 1) := by decide +kernel
theorem d_M_compare_68 : decode b_M_compare 68 = .ok (.iastore, 1) := by decide +kernel
theorem d_M_compare_69 : decode b_M_compare 69 = .ok (.aload_n 0, 1) := by decide +kernel
theorem d_M_compare_70 : decode b_M_compare 70 = .ok (.getfield 18, 3) := by decide +kernel
theorem d_M_compare_73 : decode b_M_compare 73 = .ok (.bipush 7, 2) := by decide +kernel
theorem d_M_compare_75 : decode b_M_compare 75 = .ok (.dup2, 1) := by decide +kernel
theorem d_M_compare_76 : decode b_M_compare 76 = .ok (.iaload, 1) := by decide +kernel
theorem d_M_compare_77 : decode b_M_compare 77 = .ok (.ldc 129, 2) := by decide +kernel
theorem d_M_compare_79 : decode b_M_compare 79 = .ok (.ixor, 1) := by decide +kernel
theorem d_M_compare_80 : decode b_M_compare 80 = .ok (.iastore, 1) := by decide +kernel
theorem d_M_compare_81 : decode b_M_compare 81 = .ok (.aload_n 0, 1) := by decide +kernel
theorem d_M_compare_82 : decode b_M_compare 82 = .ok (.getfield 14, 3) := by decide +kernel
theorem d_M_compare_85 : decode b_M_compare 85 = .ok (.aload_n 0, 1) := by decide +kernel
theorem d_M_compare_86 : decode b_M_compare 86 = .ok (.getfield 18, 3) := by decide +kernel
theorem d_M_compare_89 : decode b_M_compare 89 = .ok (.invokestatic 130, 3) := by decide +kernel
theorem d_M_compare_92 : decode b_M_compare 92 = .ok (.ifCond .eq 7, 3) := by decide +kernel
theorem d_M_compare_95 : decode b_M_compare 95 = .ok (.iconst (-1), 1) := by decide +kernel
theorem d_M_compare_96 : decode b_M_compare 96 = .ok (.goto 22, 3) := by decide +kernel
theorem d_M_compare_99 : decode b_M_compare 99 = .ok (.aload_n 0, 1) := by decide +kernel
theorem d_M_compare_100 : decode b_M_compare 100 = .ok (.getfield 18, 3) := by decide +kernel
theorem d_M_compare_103 : decode b_M_compare 103 = .ok (.aload_n 0, 1) := by decide +kernel
theorem d_M_compare_104 : decode b_M_compare 104 = .ok (.getfield 14, 3) := by decide +kernel
theorem d_M_compare_107 : decode b_M_compare 107 = .ok (.invokestatic 130, 3) := by decide +kernel
theorem d_M_compare_110 : decode b_M_compare 110 = .ok (.ifCond .eq 7, 3) := by decide +kernel
theorem d_M_compare_113 : decode b_M_compare 113 = .ok (.iconst 1, 1) := by decide +kernel
theorem d_M_compare_114 : decode b_M_compare 114 = .ok (.goto 4, 3) := by decide +kernel
theorem d_M_compare_117 : decode b_M_compare 117 = .ok (.iconst 0, 1) := by decide +kernel
theorem d_M_compare_118 : decode b_M_compare 118 = .ok (.ireturn, 1) := by decide +kernel
theorem d_M_less_0 : decode b_M_less 0 = .ok (.bipush 7, 2) := by decide +kernel
theorem d_M_less_2 : decode b_M_less 2 = .ok (.istore_n 2, 1) := by decide +kernel
theorem d_M_less_3 : decode b_M_less 3 = .ok (.iload_n 2, 1) := by decide +kernel
theorem d_M_less_4 : decode b_M_less 4 = .ok (.ifCond .lt 44, 3) := by decide +kernel
theorem d_M_less_7 : decode b_M_less 7 = .ok (.aload_n 0, 1) := by decide +kernel
theorem d_M_less_8 : decode b_M_less 8 = .ok (.iload_n 2, 1) := by decide +kernel
theorem d_M_less_9 : decode b_M_less 9 = .ok (.iaload, 1) := by decide +kernel
theorem d_M_less_10 : decode b_M_less 10 = .ok (.aload_n 1, 1) := by decide +kernel
theorem d_M_less_11 : decode b_M_less 11 = .ok (.iload_n 2, 1) := by decide +kernel
theorem d_M_less_12 : decode b_M_less 12 = .ok (.iaload, 1) := by decide +kernel
theorem d_M_less_13 : decode b_M_less 13 = .ok (.if_icmp .eq 29, 3) := by decide +kernel
theorem d_M_less_16 : decode b_M_less 16 = .ok (.aload_n 0, 1) := by decide +kernel
theorem d_M_less_17 : decode b_M_less 17 = .ok (.iload_n 2, 1) := by decide +kernel
theorem d_M_less_18 : decode b_M_less 18 = .ok (.iaload, 1) := by decide +kernel
theorem d_M_less_19 : decode b_M_less 19 = .ok (.i2l, 1) := by decide +kernel
theorem d_M_less_20 : decode b_M_less 20 = .ok (.ldc2_w 40, 3) := by decide +kernel
theorem d_M_less_23 : decode b_M_less 23 = .ok (.land, 1) := by decide +kernel
theorem d_M_less_24 : decode b_M_less 24 = .ok (.aload_n 1, 1) := by decide +kernel
theorem d_M_less_25 : decode b_M_less 25 = .ok (.iload_n 2, 1) := by decide +kernel
theorem d_M_less_26 : decode b_M_less 26 = .ok (.iaload, 1) := by decide +kernel
theorem d_M_less_27 : decode b_M_less 27 = .ok (.i2l, 1) := by decide +kernel
theorem d_M_less_28 : decode b_M_less 28 = .ok (.ldc2_w 40, 3) := by decide +kernel
theorem d_M_less_31 : decode b_M_less 31 = .ok (.land, 1) := by decide +kernel
theorem d_M_less_32 : decode b_M_less 32 = .ok (.lcmp, 1) := by decide +kernel
theorem d_M_less_33 : decode b_M_less 33 = .ok (.ifCond .ge 7, 3) := by decide +kernel
theorem d_M_less_36 : decode b_M_less 36 = .ok (.iconst 1, 1) := by decide +kernel
theorem d_M_less_37 : decode b_M_less 37 = .ok (.goto 4, 3) := by decide +kernel
theorem d_M_less_40 : decode b_M_less 40 = .ok (.iconst 0, 1) := by decide +kernel
theorem d_M_less_41 : decode b_M_less 41 = .ok (.ireturn, 1) := by decide +kernel
theorem d_M_less_42 : decode b_M_less 42 = .ok (.iinc 2 (-1), 3) := by decide +kernel
theorem d_M_less_45 : decode b_M_less 45 = .ok (.goto (-42), 3) := by decide +kernel
theorem d_M_less_48 : decode b_M_less 48 = .ok (.iconst 0, 1) := by decide +kernel
theorem d_M_less_49 : decode b_M_less 49 = .ok (.ireturn, 1) := by decide +kernel
theorem d_M_bytes_0 : decode b_M_bytes 0 = .ok (.aload_n 0, 1) := by decide +kernel
theorem d_M_bytes_1 : decode b_M_bytes 1 = .ok (.iconst 0, 1) := by decide +kernel
theorem d_M_bytes_2 : decode b_M_bytes 2 = .ok (.putfield 36, 3) := by decide +kernel
theorem d_M_bytes_5 : decode b_M_bytes 5 = .ok (.aload_n 0, 1) := by decide +kernel
theorem d_M_bytes_6 : decode b_M_bytes 6 = .ok (.iload_n 1, 1) := by decide +kernel
theorem d_M_bytes_7 : decode b_M_bytes 7 = .ok (.invokevirtual 90, 3) := by decide +kernel
theorem d_M_bytes_10 : decode b_M_bytes 10 = .ok (.ifCond .eq 9, 3) := by decide +kernel
theorem d_M_bytes_13 : decode b_M_bytes 13 = .ok (.aload_n 0, 1) := by decide +kernel
theorem d_M_bytes_14 : decode b_M_bytes 14 = .ok (.iconst 1, 1) := by decide +kernel
theorem d_M_bytes_15 : decode b_M_bytes 15 = .ok (.invokevirtual 94, 3) := by decide +kernel
theorem d_M_bytes_18 : decode b_M_bytes 18 = .ok (.ireturn, 1) := by decide +kernel
theorem d_M_bytes_19 : decode b_M_bytes 19 = .ok (.iconst 0, 1) := by decide +kernel
theorem d_M_bytes_20 : decode b_M_bytes 20 = .ok (.istore_n 2, 1) := by decide +kernel
theorem d_M_bytes_21 : decode b_M_bytes 21 = .ok (.iconst 0, 1) := by decide +kernel
theorem d_M_bytes_22 : decode b_M_bytes 22 = .ok (.istore_n 3, 1) := by decide +kernel
theorem d_M_bytes_23 : decode b_M_bytes 23 = .ok (.iload_n 3, 1) := by decide +kernel
theorem d_M_bytes_24 : decode b_M_bytes 24 = .ok (.bipush 32, 2) := by decide +kernel
theorem d_M_bytes_26 : decode b_M_bytes 26 = .ok (.if_icmp .ge 37, 3) := by decide +kernel
theorem d_M_bytes_29 : decode b_M_bytes 29 = .ok (.aload_n 0, 1) := by decide +kernel
theorem d_M_bytes_30 : decode b_M_bytes 30 = .ok (.getfield 9, 3) := by decide +kernel
theorem d_M_bytes_33 : decode b_M_bytes 33 = .ok (.iload_n 1, 1) := by decide +kernel
theorem d_M_bytes_34 : decode b_M_bytes 34 = .ok (.aaload, 1) := by decide +kernel
theorem d_M_bytes_35 : decode b_M_bytes 35 = .ok (.iload_n 3, 1) := by decide +kernel
theorem d_M_bytes_36 : decode b_M_bytes 36 = .ok (.iconst 4, 1) := by decide +kernel
theorem d_M_bytes_37 : decode b_M_bytes 37 = .ok (.idiv, 1) := by decide +kernel
theorem d_M_bytes_38 : decode b_M_bytes 38 = .ok (.iaload, 1) := by decide +kernel
theorem d_M_bytes_39 : decode b_M_bytes 39 = .ok (.bipush 8, 2) := by decide +kernel
theorem d_M_bytes_41 : decode b_M_bytes 41 = .ok (.iload_n 3, 1) := by decide +kernel
theorem d_M_bytes_42 : decode b_M_bytes 42 = .ok (.iconst 4, 1) := by decide +kernel
theorem d_M_bytes_43 : decode b_M_bytes 43 = .ok (.irem, 1) := by decide +kernel
theorem d_M_bytes_44 : decode b_M_bytes 44 = .ok (.imul, 1) := by decide +kernel
theorem d_M_bytes_45 : decode b_M_bytes 45 = .ok (.iushr, 1) := by decide +kernel
theorem d_M_bytes_46 : decode b_M_bytes 46 = .ok (.sipush 255, 3) := by decide +kernel
theorem d_M_bytes_49 : decode b_M_bytes 49 = .ok (.iand, 1) := by decide +kernel
theorem d_M_bytes_50 : decode b_M_bytes 50 = .ok (.ifCond .eq 7, 3) := by decide +kernel
theorem d_M_bytes_53 : decode b_M_bytes 53 = .ok (.iload_n 3, 1) := by decide +kernel
theorem d_M_bytes_54 : decode b_M_bytes 54 = .ok (.iconst 1, 1) := by decide +kernel
theorem d_M_bytes_55 : decode b_M_bytes 55 = .ok (.iadd, 1) := by decide +kernel
theorem d_M_bytes_56 : decode b_M_bytes 56 = .ok (.istore_n 2, 1) := by decide +kernel
theorem d_M_bytes_57 : decode b_M_bytes 57 = .ok (.iinc 3 1, 3) := by decide +kernel
theorem d_M_bytes_60 : decode b_M_bytes 60 = .ok (.goto (-37), 3) := by decide +kernel
theorem d_M_bytes_63 : decode b_M_bytes 63 = .ok (.iload_n 2, 1) := by decide +kernel
theorem d_M_bytes_64 : decode b_M_bytes 64 = .ok (.ireturn, 1) := by decide +kernel
end
section
-- decode rows
theorem d_J_init_Object_0 : decode b_J_init_Object 0 = .ok (.return_, 1) := by decide +kernel
theorem d_J_init_Throwable_V_0 : decode b_J_init_Throwable_V 0 = .ok (.aload_n 0, 1) := by decide +kernel
theorem d_J_init_Throwable_V_1 : decode b_J_init_Throwable_V 1 = .ok (.invokespecial 1, 3) := by decide +kernel
theorem d_J_init_Throwable_V_4 : decode b_J_init_Throwable_V 4 = .ok (.aload_n 0, 1) := by decide +kernel
theorem d_J_init_Throwable_V_5 : decode b_J_init_Throwable_V 5 = .ok (.aload_n 0, 1) := by decide +kernel
theorem d_J_init_Throwable_V_6 : decode b_J_init_Throwable_V 6 = .ok (.putfield 7, 3) := by decide +kernel
theorem d_J_init_Throwable_V_9 : decode b_J_init_Throwable_V 9 = .ok (.aload_n 0, 1) := by decide +kernel
theorem d_J_init_Throwable_V_10 : decode b_J_init_Throwable_V 10 = .ok (.getstatic 13, 3) := by decide +kernel
theorem d_J_init_Throwable_V_13 : decode b_J_init_Throwable_V 13 = .ok (.putfield 17, 3) := by decide +kernel
theorem d_J_init_Throwable_V_16 : decode b_J_init_Throwable_V 16 = .ok (.aload_n 0, 1) := by decide +kernel
theorem d_J_init_Throwable_V_17 : decode b_J_init_Throwable_V 17 = .ok (.getstatic 20, 3) := by decide +kernel
theorem d_J_init_Throwable_V_20 : decode b_J_init_Throwable_V 20 = .ok (.putfield 24, 3) := by decide +kernel
theorem d_J_init_Throwable_V_23 : decode b_J_init_Throwable_V 23 = .ok (.aload_n 0, 1) := by decide +kernel
theorem d_J_init_Throwable_V_24 : decode b_J_init_Throwable_V 24 = .ok (.invokevirtual 27, 3) := by decide +kernel
theorem d_J_init_Throwable_V_27 : decode b_J_init_Throwable_V 27 = .ok (.pop, 1) := by decide +kernel
theorem d_J_init_Throwable_V_28 : decode b_J_init_Throwable_V 28 = .ok (.return_, 1) := by decide +kernel
theorem d_J_init_IllegalArgumentException_0 : decode b_J_init_IllegalArgumentException 0 = .ok (.aload_n 0, 1) := by decide +kernel
theorem d_J_init_IllegalArgumentException_1 : decode b_J_init_IllegalArgumentException 1 = .ok (.aload_n 1, 1) := by decide +kernel
theorem d_J_init_IllegalArgumentException_2 : decode b_J_init_IllegalArgumentException 2 = .ok (.invokespecial 7, 3) := by decide +kernel
theorem d_J_init_IllegalArgumentException_5 : decode b_J_init_IllegalArgumentException 5 = .ok (.return_, 1) := by decide +kernel
theorem d_J_init_RuntimeException_0 : decode b_J_init_RuntimeException 0 = .ok (.aload_n 0, 1) := by decide +kernel
theorem d_J_init_RuntimeException_1 : decode b_J_init_RuntimeException 1 = .ok (.aload_n 1, 1) := by decide +kernel
theorem d_J_init_RuntimeException_2 : decode b_J_init_RuntimeException 2 = .ok (.invokespecial 7, 3) := by decide +kernel
theorem d_J_init_RuntimeException_5 : decode b_J_init_RuntimeException 5 = .ok (.return_, 1) := by decide +kernel
theorem d_J_init_Exception_0 : decode b_J_init_Exception 0 = .ok (.aload_n 0, 1) := by decide +kernel
theorem d_J_init_Exception_1 : decode b_J_init_Exception 1 = .ok (.aload_n 1, 1) := by decide +kernel
theorem d_J_init_Exception_2 : decode b_J_init_Exception 2 = .ok (.invokespecial 7, 3) := by decide +kernel
theorem d_J_init_Exception_5 : decode b_J_init_Exception 5 = .ok (.return_, 1) := by decide +kernel
theorem d_J_init_Throwable_LjavalangStringV_0 : decode b_J_init_Throwable_LjavalangStringV 0 = .ok (.aload_n 0, 1) := by decide +kernel
theorem d_J_init_Throwable_LjavalangStringV_1 : decode b_J_init_Throwable_LjavalangStringV 1 = .ok (.invokespecial 1, 3) := by decide +kernel
theorem d_J_init_Throwable_LjavalangStringV_4 : decode b_J_init_Throwable_LjavalangStringV 4 = .ok (.aload_n 0, 1) := by decide +kernel
theorem d_J_init_Throwable_LjavalangStringV_5 : decode b_J_init_Throwable_LjavalangStringV 5 = .ok (.aload_n 0, 1) := by decide +kernel
theorem d_J_init_Throwable_LjavalangStringV_6 : decode b_J_init_Throwable_LjavalangStringV 6 = .ok (.putfield 7, 3) := by decide +kernel
theorem d_J_init_Throwable_LjavalangStringV_9 : decode b_J_init_Throwable_LjavalangStringV 9 = .ok (.aload_n 0, 1) := by decide +kernel
theorem d_J_init_Throwable_LjavalangStringV_10 : decode b_J_init_Throwable_LjavalangStringV 10 = .ok (.getstatic 13, 3) := by decide +kernel
theorem d_J_init_Throwable_LjavalangStringV_13 : decode b_J_init_Throwable_LjavalangStringV 13 = .ok (.putfield 17, 3) := by decide +kernel
theorem d_J_init_Throwable_LjavalangStringV_16 : decode b_J_init_Throwable_LjavalangStringV 16 = .ok (.aload_n 0, 1) := by decide +kernel
theorem d_J_init_Throwable_LjavalangStringV_17 : decode b_J_init_Throwable_LjavalangStringV 17 = .ok (.getstatic 20, 3) := by decide +kernel
theorem d_J_init_Throwable_LjavalangStringV_20 : decode b_J_init_Throwable_LjavalangStringV 20 = .ok (.putfield 24, 3) := by decide +kernel
theorem d_J_init_Throwable_LjavalangStringV_23 : decode b_J_init_Throwable_LjavalangStringV 23 = .ok (.aload_n 0, 1) := by decide +kernel
theorem d_J_init_Throwable_LjavalangStringV_24 : decode b_J_init_Throwable_LjavalangStringV 24 = .ok (.invokevirtual 27, 3) := by decide +kernel
theorem d_J_init_Throwable_LjavalangStringV_27 : decode b_J_init_Throwable_LjavalangStringV 27 = .ok (.pop, 1) := by decide +kernel
theorem d_J_init_Throwable_LjavalangStringV_28 : decode b_J_init_Throwable_LjavalangStringV 28 = .ok (.aload_n 0, 1) := by decide +kernel
theorem d_J_init_Throwable_LjavalangStringV_29 : decode b_J_init_Throwable_LjavalangStringV 29 = .ok (.aload_n 1, 1) := by decide +kernel
theorem d_J_init_Throwable_LjavalangStringV_30 : decode b_J_init_Throwable_LjavalangStringV 30 = .ok (.putfield 31, 3) := by decide +kernel
theorem d_J_init_Throwable_LjavalangStringV_33 : decode b_J_init_Throwable_LjavalangStringV 33 = .ok (.return_, 1) := by decide +kernel
theorem d_J_fill_Arrays_0 : decode b_J_fill_Arrays 0 = .ok (.iconst 0, 1) := by decide +kernel
theorem d_J_fill_Arrays_1 : decode b_J_fill_Arrays 1 = .ok (.istore_n 3, 1) := by decide +kernel
theorem d_J_fill_Arrays_2 : decode b_J_fill_Arrays 2 = .ok (.aload_n 0, 1) := by decide +kernel
theorem d_J_fill_Arrays_3 : decode b_J_fill_Arrays 3 = .ok (.arraylength, 1) := by decide +kernel
theorem d_J_fill_Arrays_4 : decode b_J_fill_Arrays 4 = .ok (.istore 4, 2) := by decide +kernel
theorem d_J_fill_Arrays_6 : decode b_J_fill_Arrays 6 = .ok (.iload_n 3, 1) := by decide +kernel
theorem d_J_fill_Arrays_7 : decode b_J_fill_Arrays 7 = .ok (.iload 4, 2) := by decide +kernel
theorem d_J_fill_Arrays_9 : decode b_J_fill_Arrays 9 = .ok (.if_icmp .ge 13, 3) := by decide +kernel
theorem d_J_fill_Arrays_12 : decode b_J_fill_Arrays 12 = .ok (.aload_n 0, 1) := by decide +kernel
theorem d_J_fill_Arrays_13 : decode b_J_fill_Arrays 13 = .ok (.iload_n 3, 1) := by decide +kernel
theorem d_J_fill_Arrays_14 : decode b_J_fill_Arrays 14 = .ok (.lload_n 1, 1) := by decide +kernel
theorem d_J_fill_Arrays_15 : decode b_J_fill_Arrays 15 = .ok (.lastore, 1) := by decide +kernel
theorem d_J_fill_Arrays_16 : decode b_J_fill_Arrays 16 = .ok (.iinc 3 1, 3) := by decide +kernel
theorem d_J_fill_Arrays_19 : decode b_J_fill_Arrays 19 = .ok (.goto (-13), 3) := by decide +kernel
theorem d_J_fill_Arrays_22 : decode b_J_fill_Arrays 22 = .ok (.return_, 1) := by decide +kernel
theorem d_J_numberOfLeadingZeros_Integer_0 : decode b_J_numberOfLeadingZeros_Integer 0 = .ok (.iload_n 0, 1) := by decide +kernel
theorem d_J_numberOfLeadingZeros_Integer_1 : decode b_J_numberOfLeadingZeros_Integer 1 = .ok (.ifCond .gt 14, 3) := by decide +kernel
theorem d_J_numberOfLeadingZeros_Integer_4 : decode b_J_numberOfLeadingZeros_Integer 4 = .ok (.iload_n 0, 1) := by decide +kernel
theorem d_J_numberOfLeadingZeros_Integer_5 : decode b_J_numberOfLeadingZeros_Integer 5 = .ok (.ifCond .ne 8, 3) := by decide +kernel
theorem d_J_numberOfLeadingZeros_Integer_8 : decode b_J_numberOfLeadingZeros_Integer 8 = .ok (.bipush 32, 2) := by decide +kernel
theorem d_J_numberOfLeadingZeros_Integer_10 : decode b_J_numberOfLeadingZeros_Integer 10 = .ok (.goto 4, 3) := by decide +kernel
theorem d_J_numberOfLeadingZeros_Integer_13 : decode b_J_numberOfLeadingZeros_Integer 13 = .ok (.iconst 0, 1) := by decide +kernel
theorem d_J_numberOfLeadingZeros_Integer_14 : decode b_J_numberOfLeadingZeros_Integer 14 = .ok (.ireturn, 1) := by decide +kernel
theorem d_J_numberOfLeadingZeros_Integer_15 : decode b_J_numberOfLeadingZeros_Integer 15 = .ok (.bipush 31, 2) := by decide +kernel
theorem d_J_numberOfLeadingZeros_Integer_17 : decode b_J_numberOfLeadingZeros_Integer 17 = .ok (.istore_n 1, 1) := by decide +kernel
theorem d_J_numberOfLeadingZeros_Integer_18 : decode b_J_numberOfLeadingZeros_Integer 18 = .ok (.iload_n 0, 1) := by decide +kernel
theorem d_J_numberOfLeadingZeros_Integer_19 : decode b_J_numberOfLeadingZeros_Integer 19 = .ok (.ldc_w 264, 3) := by decide +kernel
theorem d_J_numberOfLeadingZeros_Integer_22 : decode b_J_numberOfLeadingZeros_Integer 22 = .ok (.if_icmp .lt 11, 3) := by decide +kernel
theorem d_J_numberOfLeadingZeros_Integer_25 : decode b_J_numberOfLeadingZeros_Integer 25 = .ok (.iinc 1 (-16), 3) := by decide +kernel
theorem d_J_numberOfLeadingZeros_Integer_28 : decode b_J_numberOfLeadingZeros_Integer 28 = .ok (.iload_n 0, 1) := by decide +kernel
theorem d_J_numberOfLeadingZeros_Integer_29 : decode b_J_numberOfLeadingZeros_Integer 29 = .ok (.bipush 16, 2) := by decide +kernel
theorem d_J_numberOfLeadingZeros_Integer_31 : decode b_J_numberOfLeadingZeros_Integer 31 = .ok (.iushr, 1) := by decide +kernel
theorem d_J_numberOfLeadingZeros_Integer_32 : decode b_J_numberOfLeadingZeros_Integer 32 = .ok (.istore_n 0, 1) := by decide +kernel
theorem d_J_numberOfLeadingZeros_Integer_33 : decode b_J_numberOfLeadingZeros_Integer 33 = .ok (.iload_n 0, 1) := by decide +kernel
theorem d_J_numberOfLeadingZeros_Integer_34 : decode b_J_numberOfLeadingZeros_Integer 34 = .ok (.sipush 256, 3) := by decide +kernel
theorem d_J_numberOfLeadingZeros_Integer_37 : decode b_J_numberOfLeadingZeros_Integer 37 = .ok (.if_icmp .lt 11, 3) := by decide +kernel
theorem d_J_numberOfLeadingZeros_Integer_40 : decode b_J_numberOfLeadingZeros_Integer 40 = .ok (.iinc 1 (-8), 3) := by decide +kernel
theorem d_J_numberOfLeadingZeros_Integer_43 : decode b_J_numberOfLeadingZeros_Integer 43 = .ok (.iload_n 0, 1) := by decide +kernel
theorem d_J_numberOfLeadingZeros_Integer_44 : decode b_J_numberOfLeadingZeros_Integer 44 = .ok (.bipush 8, 2) := by decide +kernel
theorem d_J_numberOfLeadingZeros_Integer_46 : decode b_J_numberOfLeadingZeros_Integer 46 = .ok (.iushr, 1) := by decide +kernel
theorem d_J_numberOfLeadingZeros_Integer_47 : decode b_J_numberOfLeadingZeros_Integer 47 = .ok (.istore_n 0, 1) := by decide +kernel
theorem d_J_numberOfLeadingZeros_Integer_48 : decode b_J_numberOfLeadingZeros_Integer 48 = .ok (.iload_n 0, 1) := by decide +kernel
theorem d_J_numberOfLeadingZeros_Integer_49 : decode b_J_numberOfLeadingZeros_Integer 49 = .ok (.bipush 16, 2) := by decide +kernel
theorem d_J_numberOfLeadingZeros_Integer_51 : decode b_J_numberOfLeadingZeros_Integer 51 = .ok (.if_icmp .lt 10, 3) := by decide +kernel
theorem d_J_numberOfLeadingZeros_Integer_54 : decode b_J_numberOfLeadingZeros_Integer 54 = .ok (.iinc 1 (-4), 3) := by decide +kernel
theorem d_J_numberOfLeadingZeros_Integer_57 : decode b_J_numberOfLeadingZeros_Integer 57 = .ok (.iload_n 0, 1) := by decide +kernel
theorem d_J_numberOfLeadingZeros_Integer_58 : decode b_J_numberOfLeadingZeros_Integer 58 = .ok (.iconst 4, 1) := by decide +kernel
theorem d_J_numberOfLeadingZeros_Integer_59 : decode b_J_numberOfLeadingZeros_Integer 59 = .ok (.iushr, 1) := by decide +kernel
theorem d_J_numberOfLeadingZeros_Integer_60 : decode b_J_numberOfLeadingZeros_Integer 60 = .ok (.istore_n 0, 1) := by decide +kernel
theorem d_J_numberOfLeadingZeros_Integer_61 : decode b_J_numberOfLeadingZeros_Integer 61 = .ok (.iload_n 0, 1) := by decide +kernel
theorem d_J_numberOfLeadingZeros_Integer_62 : decode b_J_numberOfLeadingZeros_Integer 62 = .ok (.iconst 4, 1) := by decide +kernel
theorem d_J_numberOfLeadingZeros_Integer_63 : decode b_J_numberOfLeadingZeros_Integer 63 = .ok (.if_icmp .lt 10, 3) := by decide +kernel
theorem d_J_numberOfLeadingZeros_Integer_66 : decode b_J_numberOfLeadingZeros_Integer 66 = .ok (.iinc 1 (-2), 3) := by decide +kernel
theorem d_J_numberOfLeadingZeros_Integer_69 : decode b_J_numberOfLeadingZeros_Integer 69 = .ok (.iload_n 0, 1) := by decide +kernel
theorem d_J_numberOfLeadingZeros_Integer_70 : decode b_J_numberOfLeadingZeros_Integer 70 = .ok (.iconst 2, 1) := by decide +kernel
theorem d_J_numberOfLeadingZeros_Integer_71 : decode b_J_numberOfLeadingZeros_Integer 71 = .ok (.iushr, 1) := by decide +kernel
theorem d_J_numberOfLeadingZeros_Integer_72 : decode b_J_numberOfLeadingZeros_Integer 72 = .ok (.istore_n 0, 1) := by decide +kernel
theorem d_J_numberOfLeadingZeros_Integer_73 : decode b_J_numberOfLeadingZeros_Integer 73 = .ok (.iload_n 1, 1) := by decide +kernel
theorem d_J_numberOfLeadingZeros_Integer_74 : decode b_J_numberOfLeadingZeros_Integer 74 = .ok (.iload_n 0, 1) := by decide +kernel
theorem d_J_numberOfLeadingZeros_Integer_75 : decode b_J_numberOfLeadingZeros_Integer 75 = .ok (.iconst 1, 1) := by decide +kernel
theorem d_J_numberOfLeadingZeros_Integer_76 : decode b_J_numberOfLeadingZeros_Integer 76 = .ok (.iushr, 1) := by decide +kernel
theorem d_J_numberOfLeadingZeros_Integer_77 : decode b_J_numberOfLeadingZeros_Integer 77 = .ok (.isub, 1) := by decide +kernel
theorem d_J_numberOfLeadingZeros_Integer_78 : decode b_J_numberOfLeadingZeros_Integer 78 = .ok (.ireturn, 1) := by decide +kernel
end
section
-- decode rows
theorem d_L_set_0 : decode b_L_set 0 = .ok (.aload_n 0, 1) := by decide +kernel
theorem d_L_set_1 : decode b_L_set 1 = .ok (.iload_n 1, 1) := by decide +kernel
theorem d_L_set_2 : decode b_L_set 2 = .ok (.lload_n 2, 1) := by decide +kernel
theorem d_L_set_3 : decode b_L_set 3 = .ok (.lload 4, 2) := by decide +kernel
theorem d_L_set_5 : decode b_L_set 5 = .ok (.lload 6, 2) := by decide +kernel
theorem d_L_set_7 : decode b_L_set 7 = .ok (.lload 8, 2) := by decide +kernel
theorem d_L_set_9 : decode b_L_set 9 = .ok (.invokevirtual 7, 3) := by decide +kernel
theorem d_L_set_12 : decode b_L_set 12 = .ok (.goto 7, 3) := by decide +kernel
theorem d_L_set_15 : decode b_L_set 15 = .ok (.astore 10, 2) := by decide +kernel
theorem d_L_set_17 : decode b_L_set 17 = .ok (.iconst 1, 1) := by decide +kernel
theorem d_L_set_18 : decode b_L_set 18 = .ok (.ireturn, 1) := by decide +kernel
theorem d_L_set_19 : decode b_L_set 19 = .ok (.iconst 0, 1) := by decide +kernel
theorem d_L_set_20 : decode b_L_set 20 = .ok (.ireturn, 1) := by decide +kernel
theorem d_L_get_0 : decode b_L_get 0 = .ok (.aload_n 3, 1) := by decide +kernel
theorem d_L_get_1 : decode b_L_get 1 = .ok (.iconst 0, 1) := by decide +kernel
theorem d_L_get_2 : decode b_L_get 2 = .ok (.aload_n 0, 1) := by decide +kernel
theorem d_L_get_3 : decode b_L_get 3 = .ok (.iload_n 1, 1) := by decide +kernel
theorem d_L_get_4 : decode b_L_get 4 = .ok (.iload_n 2, 1) := by decide +kernel
theorem d_L_get_5 : decode b_L_get 5 = .ok (.invokevirtual 15, 3) := by decide +kernel
theorem d_L_get_8 : decode b_L_get 8 = .ok (.lastore, 1) := by decide +kernel
theorem d_L_get_9 : decode b_L_get 9 = .ok (.goto 7, 3) := by decide +kernel
theorem d_L_get_12 : decode b_L_get 12 = .ok (.astore 4, 2) := by decide +kernel
theorem d_L_get_14 : decode b_L_get 14 = .ok (.iconst 1, 1) := by decide +kernel
theorem d_L_get_15 : decode b_L_get 15 = .ok (.ireturn, 1) := by decide +kernel
theorem d_L_get_16 : decode b_L_get 16 = .ok (.iconst 0, 1) := by decide +kernel
theorem d_L_get_17 : decode b_L_get 17 = .ok (.ireturn, 1) := by decide +kernel
theorem d_L_two_0 : decode b_L_two 0 = .ok (.aload_n 0, 1) := by decide +kernel
theorem d_L_two_1 : decode b_L_two 1 = .ok (.iload_n 1, 1) := by decide +kernel
theorem d_L_two_2 : decode b_L_two 2 = .ok (.iload_n 2, 1) := by decide +kernel
theorem d_L_two_3 : decode b_L_two 3 = .ok (.iload_n 3, 1) := by decide +kernel
theorem d_L_two_4 : decode b_L_two 4 = .ok (.iload 4, 2) := by decide +kernel
theorem d_L_two_6 : decode b_L_two 6 = .ok (.invokevirtual 19, 3) := by decide +kernel
theorem d_L_two_9 : decode b_L_two 9 = .ok (.goto 7, 3) := by decide +kernel
theorem d_L_two_12 : decode b_L_two 12 = .ok (.astore 5, 2) := by decide +kernel
theorem d_L_two_14 : decode b_L_two 14 = .ok (.iconst 1, 1) := by decide +kernel
theorem d_L_two_15 : decode b_L_two 15 = .ok (.ireturn, 1) := by decide +kernel
theorem d_L_two_16 : decode b_L_two 16 = .ok (.iconst 0, 1) := by decide +kernel
theorem d_L_two_17 : decode b_L_two 17 = .ok (.ireturn, 1) := by decide +kernel
theorem d_L_modular_0 : decode b_L_modular 0 = .ok (.aload_n 0, 1) := by decide +kernel
theorem d_L_modular_1 : decode b_L_modular 1 = .ok (.iload_n 1, 1) := by decide +kernel
theorem d_L_modular_2 : decode b_L_modular 2 = .ok (.iload_n 2, 1) := by decide +kernel
theorem d_L_modular_3 : decode b_L_modular 3 = .ok (.iload_n 3, 1) := by decide +kernel
theorem d_L_modular_4 : decode b_L_modular 4 = .ok (.iload 4, 2) := by decide +kernel
theorem d_L_modular_6 : decode b_L_modular 6 = .ok (.iload 5, 2) := by decide +kernel
theorem d_L_modular_8 : decode b_L_modular 8 = .ok (.invokevirtual 23, 3) := by decide +kernel
theorem d_L_modular_11 : decode b_L_modular 11 = .ok (.goto 7, 3) := by decide +kernel
theorem d_L_modular_14 : decode b_L_modular 14 = .ok (.astore 6, 2) := by decide +kernel
theorem d_L_modular_16 : decode b_L_modular 16 = .ok (.iconst 1, 1) := by decide +kernel
theorem d_L_modular_17 : decode b_L_modular 17 = .ok (.ireturn, 1) := by decide +kernel
theorem d_L_modular_18 : decode b_L_modular 18 = .ok (.iconst 0, 1) := by decide +kernel
theorem d_L_modular_19 : decode b_L_modular 19 = .ok (.ireturn, 1) := by decide +kernel
theorem d_L_turn_0 : decode b_L_turn 0 = .ok (.aload_n 0, 1) := by decide +kernel
theorem d_L_turn_1 : decode b_L_turn 1 = .ok (.iload_n 1, 1) := by decide +kernel
theorem d_L_turn_2 : decode b_L_turn 2 = .ok (.iload_n 2, 1) := by decide +kernel
theorem d_L_turn_3 : decode b_L_turn 3 = .ok (.iload_n 3, 1) := by decide +kernel
theorem d_L_turn_4 : decode b_L_turn 4 = .ok (.invokevirtual 27, 3) := by decide +kernel
theorem d_L_turn_7 : decode b_L_turn 7 = .ok (.goto 7, 3) := by decide +kernel
theorem d_L_turn_10 : decode b_L_turn 10 = .ok (.astore 4, 2) := by decide +kernel
theorem d_L_turn_12 : decode b_L_turn 12 = .ok (.iconst 1, 1) := by decide +kernel
theorem d_L_turn_13 : decode b_L_turn 13 = .ok (.ireturn, 1) := by decide +kernel
theorem d_L_turn_14 : decode b_L_turn 14 = .ok (.iconst 0, 1) := by decide +kernel
theorem d_L_turn_15 : decode b_L_turn 15 = .ok (.ireturn, 1) := by decide +kernel
theorem d_L_compare_0 : decode b_L_compare 0 = .ok (.aload 4, 2) := by decide +kernel
theorem d_L_compare_2 : decode b_L_compare 2 = .ok (.iconst 0, 1) := by decide +kernel
theorem d_L_compare_3 : decode b_L_compare 3 = .ok (.aload_n 0, 1) := by decide +kernel
theorem d_L_compare_4 : decode b_L_compare 4 = .ok (.iload_n 1, 1) := by decide +kernel
theorem d_L_compare_5 : decode b_L_compare 5 = .ok (.iload_n 2, 1) := by decide +kernel
theorem d_L_compare_6 : decode b_L_compare 6 = .ok (.iload_n 3, 1) := by decide +kernel
theorem d_L_compare_7 : decode b_L_compare 7 = .ok (.invokevirtual 31, 3) := by decide +kernel
theorem d_L_compare_10 : decode b_L_compare 10 = .ok (.i2l, 1) := by decide +kernel
theorem d_L_compare_11 : decode b_L_compare 11 = .ok (.lastore, 1) := by decide +kernel
theorem d_L_compare_12 : decode b_L_compare 12 = .ok (.goto 7, 3) := by decide +kernel
theorem d_L_compare_15 : decode b_L_compare 15 = .ok (.astore 5, 2) := by decide +kernel
theorem d_L_compare_17 : decode b_L_compare 17 = .ok (.iconst 1, 1) := by decide +kernel
theorem d_L_compare_18 : decode b_L_compare 18 = .ok (.ireturn, 1) := by decide +kernel
theorem d_L_compare_19 : decode b_L_compare 19 = .ok (.iconst 0, 1) := by decide +kernel
theorem d_L_compare_20 : decode b_L_compare 20 = .ok (.ireturn, 1) := by decide +kernel
theorem d_L_bytes_0 : decode b_L_bytes 0 = .ok (.aload_n 2, 1) := by decide +kernel
theorem d_L_bytes_1 : decode b_L_bytes 1 = .ok (.iconst 0, 1) := by decide +kernel
theorem d_L_bytes_2 : decode b_L_bytes 2 = .ok (.aload_n 0, 1) := by decide +kernel
theorem d_L_bytes_3 : decode b_L_bytes 3 = .ok (.iload_n 1, 1) := by decide +kernel
theorem d_L_bytes_4 : decode b_L_bytes 4 = .ok (.invokevirtual 35, 3) := by decide +kernel
theorem d_L_bytes_7 : decode b_L_bytes 7 = .ok (.i2l, 1) := by decide +kernel
theorem d_L_bytes_8 : decode b_L_bytes 8 = .ok (.lastore, 1) := by decide +kernel
theorem d_L_bytes_9 : decode b_L_bytes 9 = .ok (.goto 6, 3) := by decide +kernel
theorem d_L_bytes_12 : decode b_L_bytes 12 = .ok (.astore_n 3, 1) := by decide +kernel
theorem d_L_bytes_13 : decode b_L_bytes 13 = .ok (.iconst 1, 1) := by decide +kernel
theorem d_L_bytes_14 : decode b_L_bytes 14 = .ok (.ireturn, 1) := by decide +kernel
theorem d_L_bytes_15 : decode b_L_bytes 15 = .ok (.iconst 0, 1) := by decide +kernel
theorem d_L_bytes_16 : decode b_L_bytes 16 = .ok (.ireturn, 1) := by decide +kernel
theorem d_L_law_0 : decode b_L_law 0 = .ok (.new 8, 3) := by decide +kernel
theorem d_L_law_3 : decode b_L_law 3 = .ok (.dup, 1) := by decide +kernel
theorem d_L_law_4 : decode b_L_law 4 = .ok (.invokespecial 39, 3) := by decide +kernel
theorem d_L_law_7 : decode b_L_law 7 = .ok (.astore_n 1, 1) := by decide +kernel
theorem d_L_law_8 : decode b_L_law 8 = .ok (.new 40, 3) := by decide +kernel
theorem d_L_law_11 : decode b_L_law 11 = .ok (.dup, 1) := by decide +kernel
theorem d_L_law_12 : decode b_L_law 12 = .ok (.invokespecial 42, 3) := by decide +kernel
theorem d_L_law_15 : decode b_L_law 15 = .ok (.astore_n 2, 1) := by decide +kernel
theorem d_L_law_16 : decode b_L_law 16 = .ok (.iconst 1, 1) := by decide +kernel
theorem d_L_law_17 : decode b_L_law 17 = .ok (.newarray .long, 2) := by decide +kernel
theorem d_L_law_19 : decode b_L_law 19 = .ok (.astore_n 3, 1) := by decide +kernel
theorem d_L_law_20 : decode b_L_law 20 = .ok (.iconst 0, 1) := by decide +kernel
theorem d_L_law_21 : decode b_L_law 21 = .ok (.istore 4, 2) := by decide +kernel
theorem d_L_law_23 : decode b_L_law 23 = .ok (.iload 4, 2) := by decide +kernel
theorem d_L_law_25 : decode b_L_law 25 = .ok (.aload_n 0, 1) := by decide +kernel
theorem d_L_law_26 : decode b_L_law 26 = .ok (.arraylength, 1) := by decide +kernel
theorem d_L_law_27 : decode b_L_law 27 = .ok (.bipush 10, 2) := by decide +kernel
theorem d_L_law_29 : decode b_L_law 29 = .ok (.isub, 1) := by decide +kernel
theorem d_L_law_30 : decode b_L_law 30 = .ok (.if_icmp .gt 747, 3) := by decide +kernel
theorem d_L_law_33 : decode b_L_law 33 = .ok (.aload_n 0, 1) := by decide +kernel
theorem d_L_law_34 : decode b_L_law 34 = .ok (.iload 4, 2) := by decide +kernel
theorem d_L_law_36 : decode b_L_law 36 = .ok (.iaload, 1) := by decide +kernel
theorem d_L_law_37 : decode b_L_law 37 = .ok (.bipush 7, 2) := by decide +kernel
theorem d_L_law_39 : decode b_L_law 39 = .ok (.iand, 1) := by decide +kernel
theorem d_L_law_40 : decode b_L_law 40 = .ok (.tableswitch 731 0 6 #[44, 264, 331, 403, 503, 579, 675], 44) := by decide +kernel
theorem d_L_law_84 : decode b_L_law 84 = .ok (.aload_n 1, 1) := by decide +kernel
theorem d_L_law_85 : decode b_L_law 85 = .ok (.aload_n 0, 1) := by decide +kernel
theorem d_L_law_86 : decode b_L_law 86 = .ok (.iload 4, 2) := by decide +kernel
theorem d_L_law_88 : decode b_L_law 88 = .ok (.iconst 1, 1) := by decide +kernel
theorem d_L_law_89 : decode b_L_law 89 = .ok (.iadd, 1) := by decide +kernel
theorem d_L_law_90 : decode b_L_law 90 = .ok (.iaload, 1) := by decide +kernel
theorem d_L_law_91 : decode b_L_law 91 = .ok (.aload_n 0, 1) := by decide +kernel
theorem d_L_law_92 : decode b_L_law 92 = .ok (.iload 4, 2) := by decide +kernel
theorem d_L_law_94 : decode b_L_law 94 = .ok (.iconst 2, 1) := by decide +kernel
theorem d_L_law_95 : decode b_L_law 95 = .ok (.iadd, 1) := by decide +kernel
theorem d_L_law_96 : decode b_L_law 96 = .ok (.iaload, 1) := by decide +kernel
theorem d_L_law_97 : decode b_L_law 97 = .ok (.i2l, 1) := by decide +kernel
theorem d_L_law_98 : decode b_L_law 98 = .ok (.bipush 32, 2) := by decide +kernel
theorem d_L_law_100 : decode b_L_law 100 = .ok (.lshl, 1) := by decide +kernel
theorem d_L_law_101 : decode b_L_law 101 = .ok (.aload_n 0, 1) := by decide +kernel
theorem d_L_law_102 : decode b_L_law 102 = .ok (.iload 4, 2) := by decide +kernel
theorem d_L_law_104 : decode b_L_law 104 = .ok (.iconst 3, 1) := by decide +kernel
theorem d_L_law_105 : decode b_L_law 105 = .ok (.iadd, 1) := by decide +kernel
theorem d_L_law_106 : decode b_L_law 106 = .ok (.iaload, 1) := by decide +kernel
theorem d_L_law_107 : decode b_L_law 107 = .ok (.i2l, 1) := by decide +kernel
theorem d_L_law_108 : decode b_L_law 108 = .ok (.ldc2_w 43, 3) := by decide +kernel
theorem d_L_law_111 : decode b_L_law 111 = .ok (.land, 1) := by decide +kernel
theorem d_L_law_112 : decode b_L_law 112 = .ok (.lor, 1) := by decide +kernel
theorem d_L_law_113 : decode b_L_law 113 = .ok (.aload_n 0, 1) := by decide +kernel
theorem d_L_law_114 : decode b_L_law 114 = .ok (.iload 4, 2) := by decide +kernel
theorem d_L_law_116 : decode b_L_law 116 = .ok (.iconst 4, 1) := by decide +kernel
theorem d_L_law_117 : decode b_L_law 117 = .ok (.iadd, 1) := by decide +kernel
theorem d_L_law_118 : decode b_L_law 118 = .ok (.iaload, 1) := by decide +kernel
theorem d_L_law_119 : decode b_L_law 119 = .ok (.i2l, 1) := by decide +kernel
theorem d_L_law_120 : decode b_L_law 120 = .ok (.bipush 32, 2) := by decide +kernel
theorem d_L_law_122 : decode b_L_law 122 = .ok (.lshl, 1) := by decide +kernel
theorem d_L_law_123 : decode b_L_law 123 = .ok (.aload_n 0, 1) := by decide +kernel
theorem d_L_law_124 : decode b_L_law 124 = .ok (.iload 4, 2) := by decide +kernel
theorem d_L_law_126 : decode b_L_law 126 = .ok (.iconst 5, 1) := by decide +kernel
theorem d_L_law_127 : decode b_L_law 127 = .ok (.iadd, 1) := by decide +kernel
theorem d_L_law_128 : decode b_L_law 128 = .ok (.iaload, 1) := by decide +kernel
theorem d_L_law_129 : decode b_L_law 129 = .ok (.i2l, 1) := by decide +kernel
theorem d_L_law_130 : decode b_L_law 130 = .ok (.ldc2_w 43, 3) := by decide +kernel
theorem d_L_law_133 : decode b_L_law 133 = .ok (.land, 1) := by decide +kernel
theorem d_L_law_134 : decode b_L_law 134 = .ok (.lor, 1) := by decide +kernel
theorem d_L_law_135 : decode b_L_law 135 = .ok (.aload_n 0, 1) := by decide +kernel
theorem d_L_law_136 : decode b_L_law 136 = .ok (.iload 4, 2) := by decide +kernel
theorem d_L_law_138 : decode b_L_law 138 = .ok (.bipush 6, 2) := by decide +kernel
theorem d_L_law_140 : decode b_L_law 140 = .ok (.iadd, 1) := by decide +kernel
theorem d_L_law_141 : decode b_L_law 141 = .ok (.iaload, 1) := by decide +kernel
theorem d_L_law_142 : decode b_L_law 142 = .ok (.i2l, 1) := by decide +kernel
theorem d_L_law_143 : decode b_L_law 143 = .ok (.bipush 32, 2) := by decide +kernel
theorem d_L_law_145 : decode b_L_law 145 = .ok (.lshl, 1) := by decide +kernel
theorem d_L_law_146 : decode b_L_law 146 = .ok (.aload_n 0, 1) := by decide +kernel
theorem d_L_law_147 : decode b_L_law 147 = .ok (.iload 4, 2) := by decide +kernel
theorem d_L_law_149 : decode b_L_law 149 = .ok (.bipush 7, 2) := by decide +kernel
theorem d_L_law_151 : decode b_L_law 151 = .ok (.iadd, 1) := by decide +kernel
theorem d_L_law_152 : decode b_L_law 152 = .ok (.iaload, 1) := by decide +kernel
theorem d_L_law_153 : decode b_L_law 153 = .ok (.i2l, 1) := by decide +kernel
theorem d_L_law_154 : decode b_L_law 154 = .ok (.ldc2_w 43, 3) := by decide +kernel
theorem d_L_law_157 : decode b_L_law 157 = .ok (.land, 1) := by decide +kernel
theorem d_L_law_158 : decode b_L_law 158 = .ok (.lor, 1) := by decide +kernel
theorem d_L_law_159 : decode b_L_law 159 = .ok (.aload_n 0, 1) := by decide +kernel
theorem d_L_law_160 : decode b_L_law 160 = .ok (.iload 4, 2) := by decide +kernel
theorem d_L_law_162 : decode b_L_law 162 = .ok (.bipush 8, 2) := by decide +kernel
theorem d_L_law_164 : decode b_L_law 164 = .ok (.iadd, 1) := by decide +kernel
theorem d_L_law_165 : decode b_L_law 165 = .ok (.iaload, 1) := by decide +kernel
theorem d_L_law_166 : decode b_L_law 166 = .ok (.i2l, 1) := by decide +kernel
theorem d_L_law_167 : decode b_L_law 167 = .ok (.bipush 32, 2) := by decide +kernel
theorem d_L_law_169 : decode b_L_law 169 = .ok (.lshl, 1) := by decide +kernel
theorem d_L_law_170 : decode b_L_law 170 = .ok (.aload_n 0, 1) := by decide +kernel
theorem d_L_law_171 : decode b_L_law 171 = .ok (.iload 4, 2) := by decide +kernel
theorem d_L_law_173 : decode b_L_law 173 = .ok (.bipush 9, 2) := by decide +kernel
theorem d_L_law_175 : decode b_L_law 175 = .ok (.iadd, 1) := by decide +kernel
theorem d_L_law_176 : decode b_L_law 176 = .ok (.iaload, 1) := by decide +kernel
theorem d_L_law_177 : decode b_L_law 177 = .ok (.i2l, 1) := by decide +kernel
theorem d_L_law_178 : decode b_L_law 178 = .ok (.ldc2_w 43, 3) := by decide +kernel
theorem d_L_law_181 : decode b_L_law 181 = .ok (.land, 1) := by decide +kernel
theorem d_L_law_182 : decode b_L_law 182 = .ok (.lor, 1) := by decide +kernel
theorem d_L_law_183 : decode b_L_law 183 = .ok (.invokestatic 45, 3) := by decide +kernel
theorem d_L_law_186 : decode b_L_law 186 = .ok (.istore 5, 2) := by decide +kernel
theorem d_L_law_188 : decode b_L_law 188 = .ok (.aload_n 2, 1) := by decide +kernel
theorem d_L_law_189 : decode b_L_law 189 = .ok (.aload_n 0, 1) := by decide +kernel
theorem d_L_law_190 : decode b_L_law 190 = .ok (.iload 4, 2) := by decide +kernel
theorem d_L_law_192 : decode b_L_law 192 = .ok (.iconst 1, 1) := by decide +kernel
theorem d_L_law_193 : decode b_L_law 193 = .ok (.iadd, 1) := by decide +kernel
theorem d_L_law_194 : decode b_L_law 194 = .ok (.iaload, 1) := by decide +kernel
theorem d_L_law_195 : decode b_L_law 195 = .ok (.aload_n 0, 1) := by decide +kernel
theorem d_L_law_196 : decode b_L_law 196 = .ok (.iload 4, 2) := by decide +kernel
theorem d_L_law_198 : decode b_L_law 198 = .ok (.iconst 2, 1) := by decide +kernel
theorem d_L_law_199 : decode b_L_law 199 = .ok (.iadd, 1) := by decide +kernel
theorem d_L_law_200 : decode b_L_law 200 = .ok (.iaload, 1) := by decide +kernel
theorem d_L_law_201 : decode b_L_law 201 = .ok (.i2l, 1) := by decide +kernel
theorem d_L_law_202 : decode b_L_law 202 = .ok (.bipush 32, 2) := by decide +kernel
theorem d_L_law_204 : decode b_L_law 204 = .ok (.lshl, 1) := by decide +kernel
theorem d_L_law_205 : decode b_L_law 205 = .ok (.aload_n 0, 1) := by decide +kernel
theorem d_L_law_206 : decode b_L_law 206 = .ok (.iload 4, 2) := by decide +kernel
theorem d_L_law_208 : decode b_L_law 208 = .ok (.iconst 3, 1) := by decide +kernel
theorem d_L_law_209 : decode b_L_law 209 = .ok (.iadd, 1) := by decide +kernel
theorem d_L_law_210 : decode b_L_law 210 = .ok (.iaload, 1) := by decide +kernel
theorem d_L_law_211 : decode b_L_law 211 = .ok (.i2l, 1) := by decide +kernel
theorem d_L_law_212 : decode b_L_law 212 = .ok (.ldc2_w 43, 3) := by decide +kernel
theorem d_L_law_215 : decode b_L_law 215 = .ok (.land, 1) := by decide +kernel
theorem d_L_law_216 : decode b_L_law 216 = .ok (.lor, 1) := by decide +kernel
theorem d_L_law_217 : decode b_L_law 217 = .ok (.aload_n 0, 1) := by decide +kernel
theorem d_L_law_218 : decode b_L_law 218 = .ok (.iload 4, 2) := by decide +kernel
theorem d_L_law_220 : decode b_L_law 220 = .ok (.iconst 4, 1) := by decide +kernel
theorem d_L_law_221 : decode b_L_law 221 = .ok (.iadd, 1) := by decide +kernel
theorem d_L_law_222 : decode b_L_law 222 = .ok (.iaload, 1) := by decide +kernel
theorem d_L_law_223 : decode b_L_law 223 = .ok (.i2l, 1) := by decide +kernel
theorem d_L_law_224 : decode b_L_law 224 = .ok (.bipush 32, 2) := by decide +kernel
theorem d_L_law_226 : decode b_L_law 226 = .ok (.lshl, 1) := by decide +kernel
theorem d_L_law_227 : decode b_L_law 227 = .ok (.aload_n 0, 1) := by decide +kernel
theorem d_L_law_228 : decode b_L_law 228 = .ok (.iload 4, 2) := by decide +kernel
theorem d_L_law_230 : decode b_L_law 230 = .ok (.iconst 5, 1) := by decide +kernel
theorem d_L_law_231 : decode b_L_law 231 = .ok (.iadd, 1) := by decide +kernel
theorem d_L_law_232 : decode b_L_law 232 = .ok (.iaload, 1) := by decide +kernel
theorem d_L_law_233 : decode b_L_law 233 = .ok (.i2l, 1) := by decide +kernel
theorem d_L_law_234 : decode b_L_law 234 = .ok (.ldc2_w 43, 3) := by decide +kernel
theorem d_L_law_237 : decode b_L_law 237 = .ok (.land, 1) := by decide +kernel
theorem d_L_law_238 : decode b_L_law 238 = .ok (.lor, 1) := by decide +kernel
theorem d_L_law_239 : decode b_L_law 239 = .ok (.aload_n 0, 1) := by decide +kernel
theorem d_L_law_240 : decode b_L_law 240 = .ok (.iload 4, 2) := by decide +kernel
theorem d_L_law_242 : decode b_L_law 242 = .ok (.bipush 6, 2) := by decide +kernel
theorem d_L_law_244 : decode b_L_law 244 = .ok (.iadd, 1) := by decide +kernel
theorem d_L_law_245 : decode b_L_law 245 = .ok (.iaload, 1) := by decide +kernel
theorem d_L_law_246 : decode b_L_law 246 = .ok (.i2l, 1) := by decide +kernel
theorem d_L_law_247 : decode b_L_law 247 = .ok (.bipush 32, 2) := by decide +kernel
theorem d_L_law_249 : decode b_L_law 249 = .ok (.lshl, 1) := by decide +kernel
theorem d_L_law_250 : decode b_L_law 250 = .ok (.aload_n 0, 1) := by decide +kernel
theorem d_L_law_251 : decode b_L_law 251 = .ok (.iload 4, 2) := by decide +kernel
theorem d_L_law_253 : decode b_L_law 253 = .ok (.bipush 7, 2) := by decide +kernel
theorem d_L_law_255 : decode b_L_law 255 = .ok (.iadd, 1) := by decide +kernel
theorem d_L_law_256 : decode b_L_law 256 = .ok (.iaload, 1) := by decide +kernel
theorem d_L_law_257 : decode b_L_law 257 = .ok (.i2l, 1) := by decide +kernel
theorem d_L_law_258 : decode b_L_law 258 = .ok (.ldc2_w 43, 3) := by decide +kernel
theorem d_L_law_261 : decode b_L_law 261 = .ok (.land, 1) := by decide +kernel
theorem d_L_law_262 : decode b_L_law 262 = .ok (.lor, 1) := by decide +kernel
theorem d_L_law_263 : decode b_L_law 263 = .ok (.aload_n 0, 1) := by decide +kernel
theorem d_L_law_264 : decode b_L_law 264 = .ok (.iload 4, 2) := by decide +kernel
theorem d_L_law_266 : decode b_L_law 266 = .ok (.bipush 8, 2) := by decide +kernel
theorem d_L_law_268 : decode b_L_law 268 = .ok (.iadd, 1) := by decide +kernel
theorem d_L_law_269 : decode b_L_law 269 = .ok (.iaload, 1) := by decide +kernel
theorem d_L_law_270 : decode b_L_law 270 = .ok (.i2l, 1) := by decide +kernel
theorem d_L_law_271 : decode b_L_law 271 = .ok (.bipush 32, 2) := by decide +kernel
theorem d_L_law_273 : decode b_L_law 273 = .ok (.lshl, 1) := by decide +kernel
theorem d_L_law_274 : decode b_L_law 274 = .ok (.aload_n 0, 1) := by decide +kernel
theorem d_L_law_275 : decode b_L_law 275 = .ok (.iload 4, 2) := by decide +kernel
theorem d_L_law_277 : decode b_L_law 277 = .ok (.bipush 9, 2) := by decide +kernel
theorem d_L_law_279 : decode b_L_law 279 = .ok (.iadd, 1) := by decide +kernel
theorem d_L_law_280 : decode b_L_law 280 = .ok (.iaload, 1) := by decide +kernel
theorem d_L_law_281 : decode b_L_law 281 = .ok (.i2l, 1) := by decide +kernel
theorem d_L_law_282 : decode b_L_law 282 = .ok (.ldc2_w 43, 3) := by decide +kernel
theorem d_L_law_285 : decode b_L_law 285 = .ok (.land, 1) := by decide +kernel
theorem d_L_law_286 : decode b_L_law 286 = .ok (.lor, 1) := by decide +kernel
theorem d_L_law_287 : decode b_L_law 287 = .ok (.invokevirtual 50, 3) := by decide +kernel
theorem d_L_law_290 : decode b_L_law 290 = .ok (.aload_n 2, 1) := by decide +kernel
theorem d_L_law_291 : decode b_L_law 291 = .ok (.invokevirtual 51, 3) := by decide +kernel
theorem d_L_law_294 : decode b_L_law 294 = .ok (.iload 5, 2) := by decide +kernel
theorem d_L_law_296 : decode b_L_law 296 = .ok (.if_icmp .eq 5, 3) := by decide +kernel
theorem d_L_law_299 : decode b_L_law 299 = .ok (.iconst 0, 1) := by decide +kernel
theorem d_L_law_300 : decode b_L_law 300 = .ok (.ireturn, 1) := by decide +kernel
theorem d_L_law_301 : decode b_L_law 301 = .ok (.goto 470, 3) := by decide +kernel
theorem d_L_law_304 : decode b_L_law 304 = .ok (.aload_n 1, 1) := by decide +kernel
theorem d_L_law_305 : decode b_L_law 305 = .ok (.aload_n 0, 1) := by decide +kernel
theorem d_L_law_306 : decode b_L_law 306 = .ok (.iload 4, 2) := by decide +kernel
theorem d_L_law_308 : decode b_L_law 308 = .ok (.iconst 1, 1) := by decide +kernel
theorem d_L_law_309 : decode b_L_law 309 = .ok (.iadd, 1) := by decide +kernel
theorem d_L_law_310 : decode b_L_law 310 = .ok (.iaload, 1) := by decide +kernel
theorem d_L_law_311 : decode b_L_law 311 = .ok (.aload_n 0, 1) := by decide +kernel
theorem d_L_law_312 : decode b_L_law 312 = .ok (.iload 4, 2) := by decide +kernel
theorem d_L_law_314 : decode b_L_law 314 = .ok (.iconst 2, 1) := by decide +kernel
theorem d_L_law_315 : decode b_L_law 315 = .ok (.iadd, 1) := by decide +kernel
theorem d_L_law_316 : decode b_L_law 316 = .ok (.iaload, 1) := by decide +kernel
theorem d_L_law_317 : decode b_L_law 317 = .ok (.aload_n 3, 1) := by decide +kernel
theorem d_L_law_318 : decode b_L_law 318 = .ok (.invokestatic 55, 3) := by decide +kernel
theorem d_L_law_321 : decode b_L_law 321 = .ok (.istore 5, 2) := by decide +kernel
theorem d_L_law_323 : decode b_L_law 323 = .ok (.aload_n 2, 1) := by decide +kernel
theorem d_L_law_324 : decode b_L_law 324 = .ok (.aload_n 0, 1) := by decide +kernel
theorem d_L_law_325 : decode b_L_law 325 = .ok (.iload 4, 2) := by decide +kernel
theorem d_L_law_327 : decode b_L_law 327 = .ok (.iconst 1, 1) := by decide +kernel
theorem d_L_law_328 : decode b_L_law 328 = .ok (.iadd, 1) := by decide +kernel
theorem d_L_law_329 : decode b_L_law 329 = .ok (.iaload, 1) := by decide +kernel
theorem d_L_law_330 : decode b_L_law 330 = .ok (.aload_n 0, 1) := by decide +kernel
theorem d_L_law_331 : decode b_L_law 331 = .ok (.iload 4, 2) := by decide +kernel
theorem d_L_law_333 : decode b_L_law 333 = .ok (.iconst 2, 1) := by decide +kernel
theorem d_L_law_334 : decode b_L_law 334 = .ok (.iadd, 1) := by decide +kernel
theorem d_L_law_335 : decode b_L_law 335 = .ok (.iaload, 1) := by decide +kernel
theorem d_L_law_336 : decode b_L_law 336 = .ok (.invokevirtual 58, 3) := by decide +kernel
theorem d_L_law_339 : decode b_L_law 339 = .ok (.lstore 6, 2) := by decide +kernel
theorem d_L_law_341 : decode b_L_law 341 = .ok (.aload_n 2, 1) := by decide +kernel
theorem d_L_law_342 : decode b_L_law 342 = .ok (.invokevirtual 51, 3) := by decide +kernel
theorem d_L_law_345 : decode b_L_law 345 = .ok (.iload 5, 2) := by decide +kernel
theorem d_L_law_347 : decode b_L_law 347 = .ok (.if_icmp .eq 5, 3) := by decide +kernel
theorem d_L_law_350 : decode b_L_law 350 = .ok (.iconst 0, 1) := by decide +kernel
theorem d_L_law_351 : decode b_L_law 351 = .ok (.ireturn, 1) := by decide +kernel
theorem d_L_law_352 : decode b_L_law 352 = .ok (.iload 5, 2) := by decide +kernel
theorem d_L_law_354 : decode b_L_law 354 = .ok (.ifCond .ne 14, 3) := by decide +kernel
theorem d_L_law_357 : decode b_L_law 357 = .ok (.aload_n 3, 1) := by decide +kernel
theorem d_L_law_358 : decode b_L_law 358 = .ok (.iconst 0, 1) := by decide +kernel
theorem d_L_law_359 : decode b_L_law 359 = .ok (.laload, 1) := by decide +kernel
theorem d_L_law_360 : decode b_L_law 360 = .ok (.lload 6, 2) := by decide +kernel
theorem d_L_law_362 : decode b_L_law 362 = .ok (.lcmp, 1) := by decide +kernel
theorem d_L_law_363 : decode b_L_law 363 = .ok (.ifCond .eq 5, 3) := by decide +kernel
theorem d_L_law_366 : decode b_L_law 366 = .ok (.iconst 0, 1) := by decide +kernel
theorem d_L_law_367 : decode b_L_law 367 = .ok (.ireturn, 1) := by decide +kernel
theorem d_L_law_368 : decode b_L_law 368 = .ok (.goto 403, 3) := by decide +kernel
theorem d_L_law_371 : decode b_L_law 371 = .ok (.aload_n 1, 1) := by decide +kernel
theorem d_L_law_372 : decode b_L_law 372 = .ok (.aload_n 0, 1) := by decide +kernel
theorem d_L_law_373 : decode b_L_law 373 = .ok (.iload 4, 2) := by decide +kernel
theorem d_L_law_375 : decode b_L_law 375 = .ok (.iconst 1, 1) := by decide +kernel
theorem d_L_law_376 : decode b_L_law 376 = .ok (.iadd, 1) := by decide +kernel
theorem d_L_law_377 : decode b_L_law 377 = .ok (.iaload, 1) := by decide +kernel
theorem d_L_law_378 : decode b_L_law 378 = .ok (.aload_n 0, 1) := by decide +kernel
theorem d_L_law_379 : decode b_L_law 379 = .ok (.iload 4, 2) := by decide +kernel
theorem d_L_law_381 : decode b_L_law 381 = .ok (.iconst 2, 1) := by decide +kernel
theorem d_L_law_382 : decode b_L_law 382 = .ok (.iadd, 1) := by decide +kernel
theorem d_L_law_383 : decode b_L_law 383 = .ok (.iaload, 1) := by decide +kernel
theorem d_L_law_384 : decode b_L_law 384 = .ok (.aload_n 0, 1) := by decide +kernel
theorem d_L_law_385 : decode b_L_law 385 = .ok (.iload 4, 2) := by decide +kernel
theorem d_L_law_387 : decode b_L_law 387 = .ok (.iconst 3, 1) := by decide +kernel
theorem d_L_law_388 : decode b_L_law 388 = .ok (.iadd, 1) := by decide +kernel
theorem d_L_law_389 : decode b_L_law 389 = .ok (.iaload, 1) := by decide +kernel
theorem d_L_law_390 : decode b_L_law 390 = .ok (.aload_n 0, 1) := by decide +kernel
theorem d_L_law_391 : decode b_L_law 391 = .ok (.iload 4, 2) := by decide +kernel
theorem d_L_law_393 : decode b_L_law 393 = .ok (.iconst 4, 1) := by decide +kernel
theorem d_L_law_394 : decode b_L_law 394 = .ok (.iadd, 1) := by decide +kernel
theorem d_L_law_395 : decode b_L_law 395 = .ok (.iaload, 1) := by decide +kernel
theorem d_L_law_396 : decode b_L_law 396 = .ok (.invokestatic 59, 3) := by decide +kernel
theorem d_L_law_399 : decode b_L_law 399 = .ok (.istore 5, 2) := by decide +kernel
theorem d_L_law_401 : decode b_L_law 401 = .ok (.aload_n 2, 1) := by decide +kernel
theorem d_L_law_402 : decode b_L_law 402 = .ok (.aload_n 0, 1) := by decide +kernel
theorem d_L_law_403 : decode b_L_law 403 = .ok (.iload 4, 2) := by decide +kernel
theorem d_L_law_405 : decode b_L_law 405 = .ok (.iconst 1, 1) := by decide +kernel
theorem d_L_law_406 : decode b_L_law 406 = .ok (.iadd, 1) := by decide +kernel
theorem d_L_law_407 : decode b_L_law 407 = .ok (.iaload, 1) := by decide +kernel
theorem d_L_law_408 : decode b_L_law 408 = .ok (.aload_n 0, 1) := by decide +kernel
theorem d_L_law_409 : decode b_L_law 409 = .ok (.iload 4, 2) := by decide +kernel
theorem d_L_law_411 : decode b_L_law 411 = .ok (.iconst 2, 1) := by decide +kernel
theorem d_L_law_412 : decode b_L_law 412 = .ok (.iadd, 1) := by decide +kernel
theorem d_L_law_413 : decode b_L_law 413 = .ok (.iaload, 1) := by decide +kernel
theorem d_L_law_414 : decode b_L_law 414 = .ok (.aload_n 0, 1) := by decide +kernel
theorem d_L_law_415 : decode b_L_law 415 = .ok (.iload 4, 2) := by decide +kernel
theorem d_L_law_417 : decode b_L_law 417 = .ok (.iconst 3, 1) := by decide +kernel
theorem d_L_law_418 : decode b_L_law 418 = .ok (.iadd, 1) := by decide +kernel
theorem d_L_law_419 : decode b_L_law 419 = .ok (.iaload, 1) := by decide +kernel
theorem d_L_law_420 : decode b_L_law 420 = .ok (.aload_n 0, 1) := by decide +kernel
theorem d_L_law_421 : decode b_L_law 421 = .ok (.iload 4, 2) := by decide +kernel
theorem d_L_law_423 : decode b_L_law 423 = .ok (.iconst 4, 1) := by decide +kernel
theorem d_L_law_424 : decode b_L_law 424 = .ok (.iadd, 1) := by decide +kernel
theorem d_L_law_425 : decode b_L_law 425 = .ok (.iaload, 1) := by decide +kernel
theorem d_L_law_426 : decode b_L_law 426 = .ok (.invokevirtual 62, 3) := by decide +kernel
theorem d_L_law_429 : decode b_L_law 429 = .ok (.aload_n 2, 1) := by decide +kernel
theorem d_L_law_430 : decode b_L_law 430 = .ok (.invokevirtual 51, 3) := by decide +kernel
theorem d_L_law_433 : decode b_L_law 433 = .ok (.iload 5, 2) := by decide +kernel
theorem d_L_law_435 : decode b_L_law 435 = .ok (.if_icmp .eq 5, 3) := by decide +kernel
theorem d_L_law_438 : decode b_L_law 438 = .ok (.iconst 0, 1) := by decide +kernel
theorem d_L_law_439 : decode b_L_law 439 = .ok (.ireturn, 1) := by decide +kernel
theorem d_L_law_440 : decode b_L_law 440 = .ok (.goto 331, 3) := by decide +kernel
theorem d_L_law_443 : decode b_L_law 443 = .ok (.aload_n 1, 1) := by decide +kernel
theorem d_L_law_444 : decode b_L_law 444 = .ok (.aload_n 0, 1) := by decide +kernel
theorem d_L_law_445 : decode b_L_law 445 = .ok (.iload 4, 2) := by decide +kernel
theorem d_L_law_447 : decode b_L_law 447 = .ok (.iconst 1, 1) := by decide +kernel
theorem d_L_law_448 : decode b_L_law 448 = .ok (.iadd, 1) := by decide +kernel
theorem d_L_law_449 : decode b_L_law 449 = .ok (.iaload, 1) := by decide +kernel
theorem d_L_law_450 : decode b_L_law 450 = .ok (.aload_n 0, 1) := by decide +kernel
theorem d_L_law_451 : decode b_L_law 451 = .ok (.iload 4, 2) := by decide +kernel
theorem d_L_law_453 : decode b_L_law 453 = .ok (.iconst 2, 1) := by decide +kernel
theorem d_L_law_454 : decode b_L_law 454 = .ok (.iadd, 1) := by decide +kernel
theorem d_L_law_455 : decode b_L_law 455 = .ok (.iaload, 1) := by decide +kernel
theorem d_L_law_456 : decode b_L_law 456 = .ok (.aload_n 0, 1) := by decide +kernel
theorem d_L_law_457 : decode b_L_law 457 = .ok (.iload 4, 2) := by decide +kernel
theorem d_L_law_459 : decode b_L_law 459 = .ok (.iconst 3, 1) := by decide +kernel
theorem d_L_law_460 : decode b_L_law 460 = .ok (.iadd, 1) := by decide +kernel
theorem d_L_law_461 : decode b_L_law 461 = .ok (.iaload, 1) := by decide +kernel
theorem d_L_law_462 : decode b_L_law 462 = .ok (.aload_n 0, 1) := by decide +kernel
theorem d_L_law_463 : decode b_L_law 463 = .ok (.iload 4, 2) := by decide +kernel
theorem d_L_law_465 : decode b_L_law 465 = .ok (.iconst 4, 1) := by decide +kernel
theorem d_L_law_466 : decode b_L_law 466 = .ok (.iadd, 1) := by decide +kernel
theorem d_L_law_467 : decode b_L_law 467 = .ok (.iaload, 1) := by decide +kernel
theorem d_L_law_468 : decode b_L_law 468 = .ok (.aload_n 0, 1) := by decide +kernel
theorem d_L_law_469 : decode b_L_law 469 = .ok (.iload 4, 2) := by decide +kernel
theorem d_L_law_471 : decode b_L_law 471 = .ok (.iconst 5, 1) := by decide +kernel
theorem d_L_law_472 : decode b_L_law 472 = .ok (.iadd, 1) := by decide +kernel
theorem d_L_law_473 : decode b_L_law 473 = .ok (.iaload, 1) := by decide +kernel
theorem d_L_law_474 : decode b_L_law 474 = .ok (.ifCond .eq 7, 3) := by decide +kernel
theorem d_L_law_477 : decode b_L_law 477 = .ok (.iconst 1, 1) := by decide +kernel
theorem d_L_law_478 : decode b_L_law 478 = .ok (.goto 4, 3) := by decide +kernel
theorem d_L_law_481 : decode b_L_law 481 = .ok (.iconst 0, 1) := by decide +kernel
theorem d_L_law_482 : decode b_L_law 482 = .ok (.invokestatic 63, 3) := by decide +kernel
theorem d_L_law_485 : decode b_L_law 485 = .ok (.istore 5, 2) := by decide +kernel
theorem d_L_law_487 : decode b_L_law 487 = .ok (.aload_n 2, 1) := by decide +kernel
theorem d_L_law_488 : decode b_L_law 488 = .ok (.aload_n 0, 1) := by decide +kernel
theorem d_L_law_489 : decode b_L_law 489 = .ok (.iload 4, 2) := by decide +kernel
theorem d_L_law_491 : decode b_L_law 491 = .ok (.iconst 1, 1) := by decide +kernel
theorem d_L_law_492 : decode b_L_law 492 = .ok (.iadd, 1) := by decide +kernel
theorem d_L_law_493 : decode b_L_law 493 = .ok (.iaload, 1) := by decide +kernel
theorem d_L_law_494 : decode b_L_law 494 = .ok (.aload_n 0, 1) := by decide +kernel
theorem d_L_law_495 : decode b_L_law 495 = .ok (.iload 4, 2) := by decide +kernel
theorem d_L_law_497 : decode b_L_law 497 = .ok (.iconst 2, 1) := by decide +kernel
theorem d_L_law_498 : decode b_L_law 498 = .ok (.iadd, 1) := by decide +kernel
theorem d_L_law_499 : decode b_L_law 499 = .ok (.iaload, 1) := by decide +kernel
theorem d_L_law_500 : decode b_L_law 500 = .ok (.aload_n 0, 1) := by decide +kernel
theorem d_L_law_501 : decode b_L_law 501 = .ok (.iload 4, 2) := by decide +kernel
theorem d_L_law_503 : decode b_L_law 503 = .ok (.iconst 3, 1) := by decide +kernel
theorem d_L_law_504 : decode b_L_law 504 = .ok (.iadd, 1) := by decide +kernel
theorem d_L_law_505 : decode b_L_law 505 = .ok (.iaload, 1) := by decide +kernel
theorem d_L_law_506 : decode b_L_law 506 = .ok (.aload_n 0, 1) := by decide +kernel
theorem d_L_law_507 : decode b_L_law 507 = .ok (.iload 4, 2) := by decide +kernel
theorem d_L_law_509 : decode b_L_law 509 = .ok (.iconst 4, 1) := by decide +kernel
theorem d_L_law_510 : decode b_L_law 510 = .ok (.iadd, 1) := by decide +kernel
theorem d_L_law_511 : decode b_L_law 511 = .ok (.iaload, 1) := by decide +kernel
theorem d_L_law_512 : decode b_L_law 512 = .ok (.aload_n 0, 1) := by decide +kernel
theorem d_L_law_513 : decode b_L_law 513 = .ok (.iload 4, 2) := by decide +kernel
theorem d_L_law_515 : decode b_L_law 515 = .ok (.iconst 5, 1) := by decide +kernel
theorem d_L_law_516 : decode b_L_law 516 = .ok (.iadd, 1) := by decide +kernel
theorem d_L_law_517 : decode b_L_law 517 = .ok (.iaload, 1) := by decide +kernel
theorem d_L_law_518 : decode b_L_law 518 = .ok (.ifCond .eq 7, 3) := by decide +kernel
theorem d_L_law_521 : decode b_L_law 521 = .ok (.iconst 1, 1) := by decide +kernel
theorem d_L_law_522 : decode b_L_law 522 = .ok (.goto 4, 3) := by decide +kernel
theorem d_L_law_525 : decode b_L_law 525 = .ok (.iconst 0, 1) := by decide +kernel
theorem d_L_law_526 : decode b_L_law 526 = .ok (.invokevirtual 66, 3) := by decide +kernel
theorem d_L_law_529 : decode b_L_law 529 = .ok (.aload_n 2, 1) := by decide +kernel
theorem d_L_law_530 : decode b_L_law 530 = .ok (.invokevirtual 51, 3) := by decide +kernel
theorem d_L_law_533 : decode b_L_law 533 = .ok (.iload 5, 2) := by decide +kernel
theorem d_L_law_535 : decode b_L_law 535 = .ok (.if_icmp .eq 5, 3) := by decide +kernel
theorem d_L_law_538 : decode b_L_law 538 = .ok (.iconst 0, 1) := by decide +kernel
theorem d_L_law_539 : decode b_L_law 539 = .ok (.ireturn, 1) := by decide +kernel
theorem d_L_law_540 : decode b_L_law 540 = .ok (.goto 231, 3) := by decide +kernel
theorem d_L_law_543 : decode b_L_law 543 = .ok (.aload_n 1, 1) := by decide +kernel
theorem d_L_law_544 : decode b_L_law 544 = .ok (.aload_n 0, 1) := by decide +kernel
theorem d_L_law_545 : decode b_L_law 545 = .ok (.iload 4, 2) := by decide +kernel
theorem d_L_law_547 : decode b_L_law 547 = .ok (.iconst 1, 1) := by decide +kernel
theorem d_L_law_548 : decode b_L_law 548 = .ok (.iadd, 1) := by decide +kernel
theorem d_L_law_549 : decode b_L_law 549 = .ok (.iaload, 1) := by decide +kernel
theorem d_L_law_550 : decode b_L_law 550 = .ok (.aload_n 0, 1) := by decide +kernel
theorem d_L_law_551 : decode b_L_law 551 = .ok (.iload 4, 2) := by decide +kernel
theorem d_L_law_553 : decode b_L_law 553 = .ok (.iconst 2, 1) := by decide +kernel
theorem d_L_law_554 : decode b_L_law 554 = .ok (.iadd, 1) := by decide +kernel
theorem d_L_law_555 : decode b_L_law 555 = .ok (.iaload, 1) := by decide +kernel
theorem d_L_law_556 : decode b_L_law 556 = .ok (.aload_n 0, 1) := by decide +kernel
theorem d_L_law_557 : decode b_L_law 557 = .ok (.iload 4, 2) := by decide +kernel
theorem d_L_law_559 : decode b_L_law 559 = .ok (.iconst 3, 1) := by decide +kernel
theorem d_L_law_560 : decode b_L_law 560 = .ok (.iadd, 1) := by decide +kernel
theorem d_L_law_561 : decode b_L_law 561 = .ok (.iaload, 1) := by decide +kernel
theorem d_L_law_562 : decode b_L_law 562 = .ok (.ifCond .eq 7, 3) := by decide +kernel
theorem d_L_law_565 : decode b_L_law 565 = .ok (.iconst 1, 1) := by decide +kernel
theorem d_L_law_566 : decode b_L_law 566 = .ok (.goto 4, 3) := by decide +kernel
theorem d_L_law_569 : decode b_L_law 569 = .ok (.iconst 0, 1) := by decide +kernel
theorem d_L_law_570 : decode b_L_law 570 = .ok (.invokestatic 67, 3) := by decide +kernel
theorem d_L_law_573 : decode b_L_law 573 = .ok (.istore 5, 2) := by decide +kernel
theorem d_L_law_575 : decode b_L_law 575 = .ok (.aload_n 2, 1) := by decide +kernel
theorem d_L_law_576 : decode b_L_law 576 = .ok (.aload_n 0, 1) := by decide +kernel
theorem d_L_law_577 : decode b_L_law 577 = .ok (.iload 4, 2) := by decide +kernel
theorem d_L_law_579 : decode b_L_law 579 = .ok (.iconst 1, 1) := by decide +kernel
theorem d_L_law_580 : decode b_L_law 580 = .ok (.iadd, 1) := by decide +kernel
theorem d_L_law_581 : decode b_L_law 581 = .ok (.iaload, 1) := by decide +kernel
theorem d_L_law_582 : decode b_L_law 582 = .ok (.aload_n 0, 1) := by decide +kernel
theorem d_L_law_583 : decode b_L_law 583 = .ok (.iload 4, 2) := by decide +kernel
theorem d_L_law_585 : decode b_L_law 585 = .ok (.iconst 2, 1) := by decide +kernel
theorem d_L_law_586 : decode b_L_law 586 = .ok (.iadd, 1) := by decide +kernel
theorem d_L_law_587 : decode b_L_law 587 = .ok (.iaload, 1) := by decide +kernel
theorem d_L_law_588 : decode b_L_law 588 = .ok (.aload_n 0, 1) := by decide +kernel
theorem d_L_law_589 : decode b_L_law 589 = .ok (.iload 4, 2) := by decide +kernel
theorem d_L_law_591 : decode b_L_law 591 = .ok (.iconst 3, 1) := by decide +kernel
theorem d_L_law_592 : decode b_L_law 592 = .ok (.iadd, 1) := by decide +kernel
theorem d_L_law_593 : decode b_L_law 593 = .ok (.iaload, 1) := by decide +kernel
theorem d_L_law_594 : decode b_L_law 594 = .ok (.ifCond .eq 7, 3) := by decide +kernel
theorem d_L_law_597 : decode b_L_law 597 = .ok (.iconst 1, 1) := by decide +kernel
theorem d_L_law_598 : decode b_L_law 598 = .ok (.goto 4, 3) := by decide +kernel
theorem d_L_law_601 : decode b_L_law 601 = .ok (.iconst 0, 1) := by decide +kernel
theorem d_L_law_602 : decode b_L_law 602 = .ok (.invokevirtual 70, 3) := by decide +kernel
theorem d_L_law_605 : decode b_L_law 605 = .ok (.aload_n 2, 1) := by decide +kernel
theorem d_L_law_606 : decode b_L_law 606 = .ok (.invokevirtual 51, 3) := by decide +kernel
theorem d_L_law_609 : decode b_L_law 609 = .ok (.iload 5, 2) := by decide +kernel
theorem d_L_law_611 : decode b_L_law 611 = .ok (.if_icmp .eq 5, 3) := by decide +kernel
theorem d_L_law_614 : decode b_L_law 614 = .ok (.iconst 0, 1) := by decide +kernel
theorem d_L_law_615 : decode b_L_law 615 = .ok (.ireturn, 1) := by decide +kernel
theorem d_L_law_616 : decode b_L_law 616 = .ok (.goto 155, 3) := by decide +kernel
theorem d_L_law_619 : decode b_L_law 619 = .ok (.aload_n 1, 1) := by decide +kernel
theorem d_L_law_620 : decode b_L_law 620 = .ok (.aload_n 0, 1) := by decide +kernel
theorem d_L_law_621 : decode b_L_law 621 = .ok (.iload 4, 2) := by decide +kernel
theorem d_L_law_623 : decode b_L_law 623 = .ok (.iconst 1, 1) := by decide +kernel
theorem d_L_law_624 : decode b_L_law 624 = .ok (.iadd, 1) := by decide +kernel
theorem d_L_law_625 : decode b_L_law 625 = .ok (.iaload, 1) := by decide +kernel
theorem d_L_law_626 : decode b_L_law 626 = .ok (.aload_n 0, 1) := by decide +kernel
theorem d_L_law_627 : decode b_L_law 627 = .ok (.iload 4, 2) := by decide +kernel
theorem d_L_law_629 : decode b_L_law 629 = .ok (.iconst 2, 1) := by decide +kernel
theorem d_L_law_630 : decode b_L_law 630 = .ok (.iadd, 1) := by decide +kernel
theorem d_L_law_631 : decode b_L_law 631 = .ok (.iaload, 1) := by decide +kernel
theorem d_L_law_632 : decode b_L_law 632 = .ok (.aload_n 0, 1) := by decide +kernel
theorem d_L_law_633 : decode b_L_law 633 = .ok (.iload 4, 2) := by decide +kernel
theorem d_L_law_635 : decode b_L_law 635 = .ok (.iconst 3, 1) := by decide +kernel
theorem d_L_law_636 : decode b_L_law 636 = .ok (.iadd, 1) := by decide +kernel
theorem d_L_law_637 : decode b_L_law 637 = .ok (.iaload, 1) := by decide +kernel
theorem d_L_law_638 : decode b_L_law 638 = .ok (.ifCond .eq 7, 3) := by decide +kernel
theorem d_L_law_641 : decode b_L_law 641 = .ok (.iconst 1, 1) := by decide +kernel
theorem d_L_law_642 : decode b_L_law 642 = .ok (.goto 4, 3) := by decide +kernel
theorem d_L_law_645 : decode b_L_law 645 = .ok (.iconst 0, 1) := by decide +kernel
theorem d_L_law_646 : decode b_L_law 646 = .ok (.aload_n 3, 1) := by decide +kernel
theorem d_L_law_647 : decode b_L_law 647 = .ok (.invokestatic 71, 3) := by decide +kernel
theorem d_L_law_650 : decode b_L_law 650 = .ok (.istore 5, 2) := by decide +kernel
theorem d_L_law_652 : decode b_L_law 652 = .ok (.aload_n 2, 1) := by decide +kernel
theorem d_L_law_653 : decode b_L_law 653 = .ok (.aload_n 0, 1) := by decide +kernel
theorem d_L_law_654 : decode b_L_law 654 = .ok (.iload 4, 2) := by decide +kernel
theorem d_L_law_656 : decode b_L_law 656 = .ok (.iconst 1, 1) := by decide +kernel
theorem d_L_law_657 : decode b_L_law 657 = .ok (.iadd, 1) := by decide +kernel
theorem d_L_law_658 : decode b_L_law 658 = .ok (.iaload, 1) := by decide +kernel
theorem d_L_law_659 : decode b_L_law 659 = .ok (.aload_n 0, 1) := by decide +kernel
theorem d_L_law_660 : decode b_L_law 660 = .ok (.iload 4, 2) := by decide +kernel
theorem d_L_law_662 : decode b_L_law 662 = .ok (.iconst 2, 1) := by decide +kernel
theorem d_L_law_663 : decode b_L_law 663 = .ok (.iadd, 1) := by decide +kernel
theorem d_L_law_664 : decode b_L_law 664 = .ok (.iaload, 1) := by decide +kernel
theorem d_L_law_665 : decode b_L_law 665 = .ok (.aload_n 0, 1) := by decide +kernel
theorem d_L_law_666 : decode b_L_law 666 = .ok (.iload 4, 2) := by decide +kernel
theorem d_L_law_668 : decode b_L_law 668 = .ok (.iconst 3, 1) := by decide +kernel
theorem d_L_law_669 : decode b_L_law 669 = .ok (.iadd, 1) := by decide +kernel
theorem d_L_law_670 : decode b_L_law 670 = .ok (.iaload, 1) := by decide +kernel
theorem d_L_law_671 : decode b_L_law 671 = .ok (.ifCond .eq 7, 3) := by decide +kernel
theorem d_L_law_674 : decode b_L_law 674 = .ok (.iconst 1, 1) := by decide +kernel
theorem d_L_law_675 : decode b_L_law 675 = .ok (.goto 4, 3) := by decide +kernel
theorem d_L_law_678 : decode b_L_law 678 = .ok (.iconst 0, 1) := by decide +kernel
theorem d_L_law_679 : decode b_L_law 679 = .ok (.invokevirtual 74, 3) := by decide +kernel
theorem d_L_law_682 : decode b_L_law 682 = .ok (.istore 6, 2) := by decide +kernel
theorem d_L_law_684 : decode b_L_law 684 = .ok (.aload_n 2, 1) := by decide +kernel
theorem d_L_law_685 : decode b_L_law 685 = .ok (.invokevirtual 51, 3) := by decide +kernel
theorem d_L_law_688 : decode b_L_law 688 = .ok (.iload 5, 2) := by decide +kernel
theorem d_L_law_690 : decode b_L_law 690 = .ok (.if_icmp .eq 5, 3) := by decide +kernel
theorem d_L_law_693 : decode b_L_law 693 = .ok (.iconst 0, 1) := by decide +kernel
theorem d_L_law_694 : decode b_L_law 694 = .ok (.ireturn, 1) := by decide +kernel
theorem d_L_law_695 : decode b_L_law 695 = .ok (.iload 5, 2) := by decide +kernel
theorem d_L_law_697 : decode b_L_law 697 = .ok (.ifCond .ne 15, 3) := by decide +kernel
theorem d_L_law_700 : decode b_L_law 700 = .ok (.aload_n 3, 1) := by decide +kernel
theorem d_L_law_701 : decode b_L_law 701 = .ok (.iconst 0, 1) := by decide +kernel
theorem d_L_law_702 : decode b_L_law 702 = .ok (.laload, 1) := by decide +kernel
theorem d_L_law_703 : decode b_L_law 703 = .ok (.iload 6, 2) := by decide +kernel
theorem d_L_law_705 : decode b_L_law 705 = .ok (.i2l, 1) := by decide +kernel
theorem d_L_law_706 : decode b_L_law 706 = .ok (.lcmp, 1) := by decide +kernel
theorem d_L_law_707 : decode b_L_law 707 = .ok (.ifCond .eq 5, 3) := by decide +kernel
theorem d_L_law_710 : decode b_L_law 710 = .ok (.iconst 0, 1) := by decide +kernel
theorem d_L_law_711 : decode b_L_law 711 = .ok (.ireturn, 1) := by decide +kernel
theorem d_L_law_712 : decode b_L_law 712 = .ok (.goto 59, 3) := by decide +kernel
theorem d_L_law_715 : decode b_L_law 715 = .ok (.aload_n 1, 1) := by decide +kernel
theorem d_L_law_716 : decode b_L_law 716 = .ok (.aload_n 0, 1) := by decide +kernel
theorem d_L_law_717 : decode b_L_law 717 = .ok (.iload 4, 2) := by decide +kernel
theorem d_L_law_719 : decode b_L_law 719 = .ok (.iconst 1, 1) := by decide +kernel
theorem d_L_law_720 : decode b_L_law 720 = .ok (.iadd, 1) := by decide +kernel
theorem d_L_law_721 : decode b_L_law 721 = .ok (.iaload, 1) := by decide +kernel
theorem d_L_law_722 : decode b_L_law 722 = .ok (.aload_n 3, 1) := by decide +kernel
theorem d_L_law_723 : decode b_L_law 723 = .ok (.invokestatic 75, 3) := by decide +kernel
theorem d_L_law_726 : decode b_L_law 726 = .ok (.istore 5, 2) := by decide +kernel
theorem d_L_law_728 : decode b_L_law 728 = .ok (.aload_n 2, 1) := by decide +kernel
theorem d_L_law_729 : decode b_L_law 729 = .ok (.aload_n 0, 1) := by decide +kernel
theorem d_L_law_730 : decode b_L_law 730 = .ok (.iload 4, 2) := by decide +kernel
theorem d_L_law_732 : decode b_L_law 732 = .ok (.iconst 1, 1) := by decide +kernel
theorem d_L_law_733 : decode b_L_law 733 = .ok (.iadd, 1) := by decide +kernel
theorem d_L_law_734 : decode b_L_law 734 = .ok (.iaload, 1) := by decide +kernel
theorem d_L_law_735 : decode b_L_law 735 = .ok (.invokevirtual 78, 3) := by decide +kernel
theorem d_L_law_738 : decode b_L_law 738 = .ok (.istore 6, 2) := by decide +kernel
theorem d_L_law_740 : decode b_L_law 740 = .ok (.aload_n 2, 1) := by decide +kernel
theorem d_L_law_741 : decode b_L_law 741 = .ok (.invokevirtual 51, 3) := by decide +kernel
theorem d_L_law_744 : decode b_L_law 744 = .ok (.iload 5, 2) := by decide +kernel
theorem d_L_law_746 : decode b_L_law 746 = .ok (.if_icmp .eq 5, 3) := by decide +kernel
theorem d_L_law_749 : decode b_L_law 749 = .ok (.iconst 0, 1) := by decide +kernel
theorem d_L_law_750 : decode b_L_law 750 = .ok (.ireturn, 1) := by decide +kernel
theorem d_L_law_751 : decode b_L_law 751 = .ok (.iload 5, 2) := by decide +kernel
theorem d_L_law_753 : decode b_L_law 753 = .ok (.ifCond .ne 15, 3) := by decide +kernel
theorem d_L_law_756 : decode b_L_law 756 = .ok (.aload_n 3, 1) := by decide +kernel
theorem d_L_law_757 : decode b_L_law 757 = .ok (.iconst 0, 1) := by decide +kernel
theorem d_L_law_758 : decode b_L_law 758 = .ok (.laload, 1) := by decide +kernel
theorem d_L_law_759 : decode b_L_law 759 = .ok (.iload 6, 2) := by decide +kernel
theorem d_L_law_761 : decode b_L_law 761 = .ok (.i2l, 1) := by decide +kernel
theorem d_L_law_762 : decode b_L_law 762 = .ok (.lcmp, 1) := by decide +kernel
theorem d_L_law_763 : decode b_L_law 763 = .ok (.ifCond .eq 5, 3) := by decide +kernel
theorem d_L_law_766 : decode b_L_law 766 = .ok (.iconst 0, 1) := by decide +kernel
theorem d_L_law_767 : decode b_L_law 767 = .ok (.ireturn, 1) := by decide +kernel
theorem d_L_law_768 : decode b_L_law 768 = .ok (.goto 3, 3) := by decide +kernel
theorem d_L_law_771 : decode b_L_law 771 = .ok (.iinc 4 10, 3) := by decide +kernel
theorem d_L_law_774 : decode b_L_law 774 = .ok (.goto (-751), 3) := by decide +kernel
theorem d_L_law_777 : decode b_L_law 777 = .ok (.iconst 1, 1) := by decide +kernel
theorem d_L_law_778 : decode b_L_law 778 = .ok (.ireturn, 1) := by decide +kernel
end
section
/-! ===== BEGIN exceptions that leave a method, and their catching by the caller (launches without stack traces) ===== -/
section VXA
/-! The laws vx_back, vx_callV, vx_callS, vx_callSW, vx_throw0, vx_throwS follow proofs of the library, with one case more: JvmDerived/Free/Laws.lean (Back.of_free), Shelf42/LK1.lean (callV, callS), Shelf/KitTraced.lean (throwNew0V, throwNewS). -/
/-- where a method has thrown q: the class by its name, the cell, what was written, the world -/
def vx_T (XC : String → State → State → Prop) (st : State) (q : Addr) (t : State) (mc ms : Nat) (free : Addr → Prop) : Prop :=
  ∃ (E : String) (ce : Cell) (L : List Loc), XC E st t ∧ t.heap[q]? = some ce ∧ ce.vm = .none ∧ st.vm.findClass E = some ce.cls ∧ st.WarmedH t.vm ∧ st.sameButNew ({ t with vm := st.vm } : State) L mc ms ∧ ∀ z ∈ L, free z.base
def vx_Q (Qc : Array Value → State → Outcome → State → Prop) (XC : String → State → State → Prop) (mc ms : Nat) (free : Addr → Prop) : Array Value → State → Outcome → State → Prop := fun a st o t =>
  (Qc a st o t ∧ ∃ L, FrameEnd st o t L mc ms ∧ ∀ q ∈ L, free q.base) ∨ ∃ q, o = .threw q ∧ vx_T XC st q t mc ms free
/-- a callee that returns or throws -/
def vx_Met (l : Launch) (y : MethodName) (ws : List Cond) (rm : Room) (Pc : Array Value → State → Prop) (Qc : Array Value → State → Outcome → State → Prop) (XC : String → State → State → Prop) (mc ms : Nat) (free : Addr → Prop) : Prop :=
  MetFree l y (headSpec ws rm) Pc (fun _ _ _ _ _ => True) (vx_Q Qc XC mc ms free)
def vx_Post (XC : String → State → State → Prop) (mc ms : Nat) (free : Addr → Prop) : Pt → Array Value → Addr → Pt → Prop := fun A a q B =>
  ∃ (g : JFrame) (mk : MethodId) (t : State) (L : List Loc) (E : String) (ce : Cell), B.U.heap = t.heap ∧ B.U.vm = t.vm ∧ XC E (A.U.calling g mk a) t ∧ t.heap[q]? = some ce ∧ ce.vm = .none ∧ A.U.vm.findClass E = some ce.cls ∧ B.locs = A.locs ++ L ∧ (∀ z ∈ L, free z.base) ∧ B.cells = A.cells + mc ∧ B.slots = A.slots + ms
def vx_Back (l : Launch) (R : Room) (p : Program) (e : Env) (below : List Frame) (s : State) (sargs : Array Value) (y : MethodName) (len W9 : Nat)
    (Pre : Pt → Array Value → Prop) (Post : Pt → Array Value → Option Value → Pt → Prop) (PostX : Pt → Array Value → Addr → Pt → Prop) : Prop :=
  ∀ (m : MethodId) (meth : Method) (c : Code) (A : Pt) (g : JFrame) (ig : Instr) (mk : MethodId) (a : Array Value),
    Stand p l e R s m sargs below meth c A.U A.locs A.cells A.slots → g.method = m → g.locals.size = c.maxLocals → decode c.code g.pc = .ok (ig, len) →
    2 * g.monitorRoom + (g.stack.map fun v => v.category).sum ≤ W9 → A.U.methodNamed? y = some mk → Pre A a →
    (∃ (v : Option Value) (B : Pt), Stand p l e R s m sargs below meth c B.U B.locs B.cells B.slots ∧ Post A a v B ∧
      Steps p.tables e below (doInvoke e (A.U.setTop g) [] mk a).1 (B.U.setTop { g with pc := g.pc + len, stack := v.toList ++ g.stack })) ∨
    (∃ (q : Addr) (B : Pt), Stand p l e R s m sargs below meth c B.U B.locs B.cells B.slots ∧ PostX A a q B ∧
      Steps p.tables e below (doInvoke e (A.U.setTop g) [] mk a).1 ((B.U.setTop g).pushFrame (.throwing q)))
section Payer
variable {l : Launch} {R : Room} {p : Program} {e : Env} {below : List Frame} {s : State} {sargs : Array Value} {y : MethodName} {len W9 : Nat}
theorem vx_back {ws : List Cond} {rm : Room} {Pc : Array Value → State → Prop} {Qc : Array Value → State → Outcome → State → Prop} {XC : String → State → State → Prop} {mc ms : Nat} {free : Addr → Prop} {bytes : ByteArray} {maxL : Nat} {ret : Option FieldType}
    (hM : vx_Met l y ws rm Pc Qc XC mc ms free) (hblind : FrameBlind Pc) (hrc : rm.cells = mc) (hrs : rm.slots = ms)
    (hframes : rm.frames + 1 ≤ R.frames) (hlocals : W9 + (maxL + 11) + rm.locals ≤ R.locals)
    (hws : ∀ w ∈ ws, ∀ a' U, s.WarmedH U.vm → w.before a' U = true) (hcode : Cond.code y bytes maxL ret ∈ ws) (hinit : ∀ a' U, s.WarmedH U.vm → (Cond.initialized y.cls).before a' U = true) :
    vx_Back l R p e below s sargs y len W9 (PreOf R mc ms Pc) (PostOf Qc mc ms free) (vx_Post XC mc ms free) := by
  intro m meth c A g ig mk a X hg hsize hdg hW hn hp
  have h1 : (headSpec ws rm).pre.before a A.U = true := atoms_intro fun w hw => hws w hw _ _ X.warmed
  have h2 : (Cond.code y bytes maxL ret).before a A.U = true := hws _ hcode _ _ X.warmed
  have h3 : (Cond.initialized y.cls).before a A.U = true := hinit _ _ X.warmed
  have h4 : A.cells + (headSpec ws rm).room.cells ≤ R.cells := by rw [show (headSpec ws rm).room.cells = mc from hrc]; exact hp.1
  have h5 : A.slots + (headSpec ws rm).room.slots ≤ R.slots := by rw [show (headSpec ws rm).room.slots = ms from hrs]; exact hp.2.1
  have hPc : Pc a (A.U.calling g mk a) := hblind _ _ _ _ hp.2.2
  obtain ⟨U, Ls, c0, s0⟩ := A
  dsimp only [Pt.U, Pt.locs, Pt.cells, Pt.slots] at h1 h2 h3 h4 h5 X hn hPc ⊢
  obtain ⟨methY, cY, hmY, hcY, -, hlY, -, -, -, -⟩ := Cond.code_spec hn h2
  obtain ⟨kY, hkY, -⟩ := className_of_methodNamed hn
  have hinitY : kY.init = .initialized := Cond.initialized_spec (findClass_of_methodNamed hn) hkY h3
  have h : At U g.method c below := by rw [hg]; exact X.here
  have hlocals9 : W9 + (maxL + 11) + (headSpec ws rm).room.locals ≤ R.locals := hlocals
  have happ : (headSpec ws rm).appliesLoose y e.platform (U.calling g mk a) = true :=
    Spec.appliesLoose_calling (g := g) h hdg hn hkY hinitY
      (X.room_calling (g := g) (R' := (headSpec ws rm).room) hsize hmY hcY hframes (by rw [hlY]; omega) h4 h5) h1
  obtain ⟨mid, hmid⟩ := h.above
  have hfr : (U.setTop g).frames = (.java g :: mid) ++ below := by rw [State.frames_setTop' g h.top, hmid]; rfl
  obtain ⟨o, s₂, hsteps, -, hend, hq⟩ := Steps.callFree hM p X.admits X.cas X.clock (acts := []) hfr happ hPc trivial
  have hq' : vx_Q Qc XC mc ms free a (U.calling g mk a) o s₂ := hq
  rw [State.frames_setTop' g h.top] at hend
  obtain ⟨g₀, hg0⟩ := Option.isSome_iff_exists.mp h.top
  obtain ⟨r, hr⟩ := State.topJava?_eq_some.mp hg0
  have hr' : (({ U with heap := s₂.heap, slotsUsed := s₂.slotsUsed } : State).setVm s₂.vm).frames = .java g₀ :: r := hr
  rcases hq' with ⟨hqc, L, hfe, hL⟩ | ⟨q, rfl, E, ce, L, hx, hce, hcv, hcl, hW₂, hsm, hL⟩
  · obtain ⟨⟨v, rfl⟩, hW₂, e2, q2, q3, q4, q5, q6⟩ := id hfe
    have e3 : s₂ = ({ (U.calling g mk a).setFrames s₂.frames with heap := s₂.heap, slotsUsed := s₂.slotsUsed } : State).setVm s₂.vm := by
      have : s₂ = ({ s₂ with vm := (U.calling g mk a).vm } : State).setVm s₂.vm := rfl
      rw [e2] at this
      exact this
    obtain ⟨c₂, i₂, len₂, hc₂, hd₂, hf₂⟩ := hend
    have hW' : U.WarmedH s₂.vm := hW₂
    have hcc : c₂ = c := by
      have h1 : s₂.code? g.method = U.code? g.method := by
        rw [State.code?_eq, State.code?_eq, hW'.alike.method?]
      exact Option.some.inj (hc₂.symm.trans (h1.trans h.code))
    subst hcc
    have hlen : len₂ = len := by rw [hdg] at hd₂; cases hd₂; rfl
    subst hlen
    have hs₂ : s₂ = (({ U with heap := s₂.heap, slotsUsed := s₂.slotsUsed } : State).setVm s₂.vm).setTop { g with pc := g.pc + len₂, stack := v.toList ++ g.stack } := by
      refine e3.trans ?_
      rw [hf₂, State.calling_eq h.top, State.setFrames_setFrames, State.setTop_of_frames _ hr', hr]
      rfl
    have hsame : U.sameButNew ({ U with heap := s₂.heap, slotsUsed := s₂.slotsUsed } : State) L mc ms := by
      refine ⟨?_, q2, q3, q4, q5, q6⟩
      obtain ⟨t, ht, -⟩ := State.frames_cons hr
      show ({ U with heap := s₂.heap, slotsUsed := s₂.slotsUsed } : State) = { U.setFrames U.frames with heap := s₂.heap, slotsUsed := s₂.slotsUsed }
      rw [State.setFrames_self ht]
    subst hg
    refine Or.inl ⟨v, ⟨(({ U with heap := s₂.heap, slotsUsed := s₂.slotsUsed } : State).setVm s₂.vm), Ls ++ L, c0 + mc, s0 + ms⟩,
      ⟨X.admits, X.cas, X.clock, X.frames, X.room, X.hears, X.method, X.code, (X.here.setHeapUsed s₂.heap s₂.slotsUsed).setVm hW'.alike, X.tail, State.WarmedH.trans X.warmed hW', X.limits, X.bytes, X.same.trans (hsame.setVm s.vm)⟩,
      ⟨g, mk, s₂, L, rfl, rfl, hqc, rfl, hL, rfl, rfl⟩, ?_⟩
    show Steps p.tables e below _ ((({ U with heap := s₂.heap, slotsUsed := s₂.slotsUsed } : State).setVm s₂.vm).setTop { g with pc := g.pc + len₂, stack := v.toList ++ g.stack })
    rw [← hs₂]
    exact hsteps
  · obtain ⟨e2, q2, q3, q4, q5, q6⟩ := id hsm
    have e3 : s₂ = ({ (U.calling g mk a).setFrames s₂.frames with heap := s₂.heap, slotsUsed := s₂.slotsUsed } : State).setVm s₂.vm := by
      have : s₂ = ({ s₂ with vm := (U.calling g mk a).vm } : State).setVm s₂.vm := rfl
      rw [e2] at this
      exact this
    have hf₂ : s₂.frames = .throwing q :: .java g :: U.frames.tail := hend
    have hW' : U.WarmedH s₂.vm := hW₂
    have hs₂ : s₂ = ((({ U with heap := s₂.heap, slotsUsed := s₂.slotsUsed } : State).setVm s₂.vm).setTop g).pushFrame (.throwing q) := by
      refine e3.trans ?_
      rw [hf₂, State.calling_eq h.top, State.setFrames_setFrames, State.pushFrame, State.frames_setTop _ hr', State.setTop_of_frames _ hr', State.setFrames_setFrames, hr]
      rfl
    have hsame : U.sameButNew ({ U with heap := s₂.heap, slotsUsed := s₂.slotsUsed } : State) L mc ms := by
      refine ⟨?_, q2, q3, q4, q5, q6⟩
      obtain ⟨t, ht, -⟩ := State.frames_cons hr
      show ({ U with heap := s₂.heap, slotsUsed := s₂.slotsUsed } : State) = { U.setFrames U.frames with heap := s₂.heap, slotsUsed := s₂.slotsUsed }
      rw [State.setFrames_self ht]
    subst hg
    refine Or.inr ⟨q, ⟨(({ U with heap := s₂.heap, slotsUsed := s₂.slotsUsed } : State).setVm s₂.vm), Ls ++ L, c0 + mc, s0 + ms⟩,
      ⟨X.admits, X.cas, X.clock, X.frames, X.room, X.hears, X.method, X.code, (X.here.setHeapUsed s₂.heap s₂.slotsUsed).setVm hW'.alike, X.tail, State.WarmedH.trans X.warmed hW', X.limits, X.bytes, X.same.trans (hsame.setVm s.vm)⟩,
      ⟨g, mk, s₂, L, E, ce, rfl, rfl, hx, hce, hcv, hcl, rfl, hL, rfl, rfl⟩, ?_⟩
    show Steps p.tables e below _ (((({ U with heap := s₂.heap, slotsUsed := s₂.slotsUsed } : State).setVm s₂.vm).setTop g).pushFrame (.throwing q))
    rw [← hs₂]
    exact hsteps
end Payer
section Calls
variable {p : Program} {l : Launch} {e : Env} {R : Room} {s : State} {m : MethodId} {args : Array Value} {below : List Frame} {meth : Method} {c : Code} {T : State} {locs : List Loc} {cells slots : Nat}
theorem vx_callV (X : Stand p l e R s m args below meth c T locs cells slots) (hexec : p.tables.exec = Jvm.exec) {own C : String} {index : Nat} {y : MethodName} {bytes : ByteArray} {maxL : Nat} {ret : Option FieldType}
    (hown : s.vm.findClass own = some m.cls) (hlink : (Cond.methodLink own index y).before args s = true) (hinst : (Cond.instanceMethod y).before args s = true) (hsel : (Cond.selects C y y).before args s = true)
    (hcode : (Cond.code y bytes maxL ret).before args s = true) (hy : y.cls ≠ "java/lang/invoke/MethodHandle" ∧ y.cls ≠ "java/lang/invoke/VarHandle")
    {W9 : Nat} {Pre : Pt → Array Value → Prop} {Post : Pt → Array Value → Option Value → Pt → Prop} {PostX : Pt → Array Value → Addr → Pt → Prop} (hK : vx_Back l R p e below s args y 3 W9 Pre Post PostX)
    {b : Addr} {cellB : Cell} (hcell : T.heap[b]? = some cellB) (hobj : cellB.vm.isStatics = false) (hcls : s.vm.findClass C = some cellB.cls)
    {g : JFrame} (hg : g.method = m) (hsize : g.locals.size = c.maxLocals) {argsL rest : List Value} (hlen : ∀ sig, parseMethodDescriptor y.desc = some sig → argsL.length = sig.parameters.length)
    (hstack : g.stack = argsL.reverse ++ .ref b :: rest) (hW : 2 * g.monitorRoom + (rest.map fun v => v.category).sum ≤ W9) (hdg : decode c.code g.pc = .ok (.invokevirtual index, 3))
    (hpre : ∀ vm₁, s.WarmedH vm₁ → Pre ⟨T.setVm vm₁, locs, cells, slots⟩ (Value.ref b :: argsL).toArray) :
    (∃ (v : Option Value) (vm₁ : Vm) (B : Pt), s.WarmedH vm₁ ∧ Stand p l e R s m args below meth c B.U B.locs B.cells B.slots ∧ Post ⟨T.setVm vm₁, locs, cells, slots⟩ (Value.ref b :: argsL).toArray v B ∧
      ∀ target, Steps p.tables e below (B.U.setTop { g with pc := g.pc + 3, stack := v.toList ++ rest }) target → Steps p.tables e below (T.setTop g) target) ∨
    (∃ (q : Addr) (vm₁ : Vm) (B : Pt), s.WarmedH vm₁ ∧ Stand p l e R s m args below meth c B.U B.locs B.cells B.slots ∧ PostX ⟨T.setVm vm₁, locs, cells, slots⟩ (Value.ref b :: argsL).toArray q B ∧
      Steps p.tables e below (T.setTop g) ((B.U.setTop { g with stack := rest }).pushFrame (.throwing q))) := by
  obtain ⟨mk, methM, hnamed, hmethM, hstM, habM⟩ := Cond.instanceMethod_spec hinst
  obtain ⟨methM', cM, hmethM', -, -, -, -, -, -, hsigM⟩ := Cond.code_spec hnamed hcode
  cases hmethM.symm.trans hmethM'
  obtain ⟨c2, r2, m2, q1, q2, q3, q4, kP, hkP, hkPi⟩ := Cond.selects_spec hsel
  cases hcls.symm.trans q1
  cases (State.methodFound?_of_named hnamed hy).symm.trans q2
  cases hnamed.symm.trans q3
  have hselP : selectMethod e.platform s.vm cellB.cls mk = .method mk := by rw [Launch.admits_selectMethod X.admits]; exact q4
  obtain ⟨vm₁, X₁, hstep₁⟩ := X.invokevirtual hexec hown hlink hnamed hmethM hstM hkP hkPi hy (a := b) (cell := cellB) hcell
    (fun z h => by rw [h] at hobj; cases hobj) hselP hmethM habM hkP hkPi (g := g) hg (argsL := argsL) (rest := rest) (hlen _ hsigM) hstack hdg
  rcases hK m meth c ⟨T.setVm vm₁, locs, cells, slots⟩ { g with stack := rest } (.invokevirtual index) mk (Value.ref b :: argsL).toArray X₁ hg hsize hdg hW (X₁.named hnamed) (hpre vm₁ X₁.warmed) with ⟨v, B, X', hpost, hsteps⟩ | ⟨q, B, X', hpost, hsteps⟩
  · exact Or.inl ⟨v, vm₁, B, X₁.warmed, X', hpost, fun target h => hstep₁ _ fun acts => by rw [doInvoke_state]; exact hsteps.trans h⟩
  · exact Or.inr ⟨q, vm₁, B, X₁.warmed, X', hpost, hstep₁ _ fun acts => by rw [doInvoke_state]; exact hsteps⟩
theorem vx_callS (X : Stand p l e R s m args below meth c T locs cells slots) (hexec : p.tables.exec = Jvm.exec) {own : String} {index : Nat} {y : MethodName} {bytes : ByteArray} {maxL : Nat} {ret : Option FieldType}
    (hown : s.vm.findClass own = some m.cls) (hlink : (Cond.methodLink own index y).before args s = true) (hstat : (Cond.static y).before args s = true) (hinit : (Cond.initialized y.cls).before args s = true)
    (hcode : (Cond.code y bytes maxL ret).before args s = true) (hy : y.cls ≠ "java/lang/invoke/MethodHandle" ∧ y.cls ≠ "java/lang/invoke/VarHandle")
    {W9 : Nat} {Pre : Pt → Array Value → Prop} {Post : Pt → Array Value → Option Value → Pt → Prop} {PostX : Pt → Array Value → Addr → Pt → Prop} (hK : vx_Back l R p e below s args y 3 W9 Pre Post PostX)
    {g : JFrame} (hg : g.method = m) (hsize : g.locals.size = c.maxLocals) {argsL rest : List Value} (hlen : ∀ sig, parseMethodDescriptor y.desc = some sig → argsL.length = sig.parameters.length)
    (hstack : g.stack = argsL.reverse ++ rest) (hW : 2 * g.monitorRoom + (rest.map fun v => v.category).sum ≤ W9) (hdg : decode c.code g.pc = .ok (.invokestatic index, 3))
    (hpre : ∀ vm₁, s.WarmedH vm₁ → Pre ⟨T.setVm vm₁, locs, cells, slots⟩ argsL.toArray) :
    (∃ (v : Option Value) (vm₁ : Vm) (B : Pt), s.WarmedH vm₁ ∧ Stand p l e R s m args below meth c B.U B.locs B.cells B.slots ∧ Post ⟨T.setVm vm₁, locs, cells, slots⟩ argsL.toArray v B ∧
      ∀ target, Steps p.tables e below (B.U.setTop { g with pc := g.pc + 3, stack := v.toList ++ rest }) target → Steps p.tables e below (T.setTop g) target) ∨
    (∃ (q : Addr) (vm₁ : Vm) (B : Pt), s.WarmedH vm₁ ∧ Stand p l e R s m args below meth c B.U B.locs B.cells B.slots ∧ PostX ⟨T.setVm vm₁, locs, cells, slots⟩ argsL.toArray q B ∧
      Steps p.tables e below (T.setTop g) ((B.U.setTop { g with stack := rest }).pushFrame (.throwing q))) := by
  obtain ⟨mk, hnamed⟩ := Cond.code_named hcode
  obtain ⟨methM, cM, hmethM, -, -, -, -, -, -, hsigM⟩ := Cond.code_spec hnamed hcode
  have hstatic : methM.isStatic = true := Cond.static_spec hnamed hmethM hstat
  obtain ⟨kP, hkP, -⟩ := className_of_methodNamed hnamed
  have hinitP : kP.init = .initialized := Cond.initialized_spec (findClass_of_methodNamed hnamed) hkP hinit
  obtain ⟨vm₁, X₁, hstep₁⟩ := X.invokestatic hexec hown hlink hnamed hmethM hstatic hkP hinitP hy (g := g) hg (argsL := argsL) (rest := rest) (hlen _ hsigM) hstack hdg
  rcases hK m meth c ⟨T.setVm vm₁, locs, cells, slots⟩ { g with stack := rest } (.invokestatic index) mk argsL.toArray X₁ hg hsize hdg hW (X₁.named hnamed) (hpre vm₁ X₁.warmed) with ⟨v, B, X', hpost, hsteps⟩ | ⟨q, B, X', hpost, hsteps⟩
  · exact Or.inl ⟨v, vm₁, B, X₁.warmed, X', hpost, fun target h => hstep₁ _ fun acts => by rw [doInvoke_state]; exact hsteps.trans h⟩
  · exact Or.inr ⟨q, vm₁, B, X₁.warmed, X', hpost, hstep₁ _ fun acts => by rw [doInvoke_state]; exact hsteps⟩
end Calls
theorem vx_cls {s : State} {T : State} {vm₁ : Vm} {E : String} {k : ClassId} (hW : s.WarmedH vm₁) (h : (T.setVm vm₁).vm.findClass E = some k) : s.vm.findClass E = some k := by
  have h1 : vm₁.findClass E = some k := h
  rw [hW.alike.findClass] at h1
  exact h1
/-- the method's frame g, with q thrown over it -/
def vx_W (p : Program) (l : Launch) (e : Env) (R : Room) (s : State) (m : MethodId) (args : Array Value) (below : List Frame) (meth : Method) (c : Code) (H : Heap) (locs : List Loc) (cells slots : Nat) (Q : State → Prop) (g : JFrame) (q : Addr) : Prop :=
  ∀ T : State, T.heap = H → Stand p l e R s m args below meth c T locs cells slots → ∃ t, Steps p.tables e below ((T.setTop g).pushFrame (.throwing q)) t ∧ Q t
def vx_Run (p : Program) (l : Launch) (e : Env) (R : Room) (s : State) (m : MethodId) (args : Array Value) (below : List Frame) (meth : Method) (c : Code) (H : Heap) (locs : List Loc) (cells slots mc ms : Nat) (g : JFrame) (rest : List Value) (Qa : State → Outcome → State → Prop) (XC : String → State → State → Prop) (free : Addr → Prop) : Prop :=
  ∀ T : State, T.heap = H → Stand p l e R s m args below meth c T locs cells slots →
    (∃ (v : Option Value) (st₀ t T' : State) (L : List Loc), st₀.heap = H ∧ Stand p l e R s m args below meth c T' (locs ++ L) (cells + mc) (slots + ms) ∧ (∀ q ∈ L, free q.base) ∧ T'.heap = t.heap ∧ T'.vm = t.vm ∧ Qa st₀ (.returned v) t ∧
      Goes p e below T g T' { g with pc := g.pc + 3, stack := v.toList ++ rest }) ∨
    (∃ (q : Addr) (st₀ t T' : State) (L : List Loc) (E : String) (ce : Cell), st₀.heap = H ∧ Stand p l e R s m args below meth c T' (locs ++ L) (cells + mc) (slots + ms) ∧ (∀ z ∈ L, free z.base) ∧ T'.heap = t.heap ∧ T'.vm = t.vm ∧ XC E st₀ t ∧ t.heap[q]? = some ce ∧ ce.vm = .none ∧ s.vm.findClass E = some ce.cls ∧
      Steps p.tables e below (T.setTop g) ((T'.setTop { g with stack := rest }).pushFrame (.throwing q)))
def vx_X {S : Type} (px : S → Prop) (B : String → S → State → Prop) (A : Nat → Prop) : String → State → State → Prop := fun E st t => ∃ u : S, px u ∧ B E u t ∧ va_F A st t
section Runs
variable {p : Program} {l : Launch} {e : Env} {R : Room} {s : State} {m : MethodId} {args : Array Value} {below : List Frame} {meth : Method} {c : Code} {H : Heap} {locs : List Loc} {cells slots : Nat}
variable {y : MethodName} {bytes cc : ByteArray} {maxL nL mc ms n index : Nat} {ret : Option FieldType} {ws : List Cond} {rm : Room} {Pc : Array Value → State → Prop} {Qc : Array Value → State → Outcome → State → Prop} {XC : String → State → State → Prop} {free : Addr → Prop} {Ts : List Cond} {own C : String} {b : Addr} {As rest : List Value} {g : JFrame}
theorem vx_callBack (cb : CallB R s args own index y bytes maxL ret ws rm mc ms n) (hM : vx_Met l y ws rm Pc Qc XC mc ms free) (hbl : FrameBlind Pc) : vx_Back l R p e below s args y 3 8 (PreOf R mc ms Pc) (PostOf Qc mc ms free) (vx_Post XC mc ms free) := by
  obtain ⟨hrc, hrs, hfr, hlo, hws, hcw, -, hini, -⟩ := cb
  exact vx_back (bytes := bytes) (maxL := maxL) (ret := ret) hM hbl hrc hrs hfr hlo hws hcw (fun a' U hW => word_at hW (Or.inl (by first | rfl | simp [Cond.onTables, Cond.keeps, Cond.steady])) hini)
theorem vx_runV (S : CallFix p m c cc nL s args Ts own) (hM : vx_Met l y ws rm Pc Qc XC mc ms free) (cw : CallW R s args own C index y bytes maxL ret ws rm mc ms n) (hp : PreV s H C b Pc As)
    (hg : g.method = m) (hn : As.length = n) (hsize : g.locals.size = nL) (hstack : g.stack = As.reverse ++ .ref b :: rest) (hW : 2 * g.monitorRoom + (rest.map fun v => v.category).sum ≤ 8) (hdg : decode cc g.pc = .ok (.invokevirtual index, 3)) (hf : cells + mc ≤ R.cells ∧ slots + ms ≤ R.slots) :
    vx_Run p l e R s m args below meth c H locs cells slots mc ms g rest (Qc (Value.ref b :: As).toArray) XC free := by
  have hK : vx_Back l R p e below s args y 3 8 (PreOf R mc ms Pc) (PostOf Qc mc ms free) (vx_Post XC mc ms free) := vx_callBack cw.1 hM hp.1
  obtain ⟨⟨-, -, -, -, -, -, hcode, -, hy, hlen, hl⟩, hin, hse⟩ := cw
  obtain ⟨hx, hb, hml, ho, -⟩ := S
  obtain ⟨-, ⟨cellB, hcB, hoB, hclB⟩, hPc⟩ := hp
  intro T hT X
  rcases vx_callV X hx (C := C) (bytes := bytes) (maxL := maxL) (ret := ret) ho hl hin hse hcode hy hK (by rw [hT]; exact hcB) hoB hclB hg (hsize.trans hml.symm) (argsL := As) (rest := rest) (fun sig h => hn.trans (hlen sig h)) hstack hW (by rw [hb]; exact hdg)
    (fun vm₁ hW₁ => ⟨hf.1, hf.2, hPc (T.setVm vm₁) hT hW₁⟩) with ⟨v, vm₁, ⟨U', l2, c2, s2⟩, hW₁, X', ⟨g', mk, t, L, e1, e2, hq, h1, hL, h2, h3⟩, st⟩ | ⟨q, vm₁, ⟨U', l2, c2, s2⟩, hW₁, X', ⟨g', mk, t, L, E, ce, e1, e2, hq, hce, hcv, hcl, h1, hL, h2, h3⟩, st⟩
  · dsimp only [Pt.U, Pt.locs, Pt.cells, Pt.slots] at X' e1 e2 h1 h2 h3 st
    subst h1; subst h2; subst h3
    exact Or.inl ⟨v, (T.setVm vm₁).calling g' mk (Value.ref b :: As).toArray, t, U', L, hT, X', hL, e1, e2, hq, st⟩
  · dsimp only [Pt.U, Pt.locs, Pt.cells, Pt.slots] at X' e1 e2 h1 h2 h3 st hcl
    subst h1; subst h2; subst h3
    exact Or.inr ⟨q, (T.setVm vm₁).calling g' mk (Value.ref b :: As).toArray, t, U', L, E, ce, hT, X', hL, e1, e2, hq, hce, hcv, vx_cls hW₁ hcl, st⟩
theorem vx_runS (S : CallFix p m c cc nL s args Ts own) (hM : vx_Met l y ws rm Pc Qc XC mc ms free) (cw : CallB R s args own index y bytes maxL ret ws rm mc ms n ∧ (Cond.static y).before args s = true) (hp : PreS s H Pc As)
    (hg : g.method = m) (hn : As.length = n) (hsize : g.locals.size = nL) (hstack : g.stack = As.reverse ++ rest) (hW : 2 * g.monitorRoom + (rest.map fun v => v.category).sum ≤ 8) (hdg : decode cc g.pc = .ok (.invokestatic index, 3)) (hf : cells + mc ≤ R.cells ∧ slots + ms ≤ R.slots) :
    vx_Run p l e R s m args below meth c H locs cells slots mc ms g rest (Qc As.toArray) XC free := by
  have hK : vx_Back l R p e below s args y 3 8 (PreOf R mc ms Pc) (PostOf Qc mc ms free) (vx_Post XC mc ms free) := vx_callBack cw.1 hM hp.1
  obtain ⟨⟨-, -, -, -, -, -, hcode, hini, hy, hlen, hl⟩, hstt⟩ := cw
  obtain ⟨hx, hb, hml, ho, -⟩ := S
  intro T hT X
  rcases vx_callS X hx (bytes := bytes) (maxL := maxL) (ret := ret) ho hl hstt hini hcode hy hK hg (hsize.trans hml.symm) (argsL := As) (rest := rest) (fun sig h => hn.trans (hlen sig h)) hstack hW (by rw [hb]; exact hdg)
    (fun vm₁ hW₁ => ⟨hf.1, hf.2, hp.2 (T.setVm vm₁) hT hW₁⟩) with ⟨v, vm₁, ⟨U', l2, c2, s2⟩, hW₁, X', ⟨g', mk, t, L, e1, e2, hq, h1, hL, h2, h3⟩, st⟩ | ⟨q, vm₁, ⟨U', l2, c2, s2⟩, hW₁, X', ⟨g', mk, t, L, E, ce, e1, e2, hq, hce, hcv, hcl, h1, hL, h2, h3⟩, st⟩
  · dsimp only [Pt.U, Pt.locs, Pt.cells, Pt.slots] at X' e1 e2 h1 h2 h3 st
    subst h1; subst h2; subst h3
    exact Or.inl ⟨v, (T.setVm vm₁).calling g' mk As.toArray, t, U', L, hT, X', hL, e1, e2, hq, st⟩
  · dsimp only [Pt.U, Pt.locs, Pt.cells, Pt.slots] at X' e1 e2 h1 h2 h3 st hcl
    subst h1; subst h2; subst h3
    exact Or.inr ⟨q, (T.setVm vm₁).calling g' mk As.toArray, t, U', L, E, ce, hT, X', hL, e1, e2, hq, hce, hcv, vx_cls hW₁ hcl, st⟩
end Runs
section Rows
variable {p : Program} {l : Launch} {e : Env} {R : Room} {s : State} {m : MethodId} {args : Array Value} {below : List Frame} {meth : Method} {c : Code} {H : Heap} {locs : List Loc} {cells slots : Nat} {Q : State → Prop}
variable {mc ms : Nat} {free : Addr → Prop} {A0 A1 : Nat → Prop} {H0 : Heap} {a : Array Value} {pc : Nat} {ls : Array Slot} {st0 rest : List Value}
theorem vx_keep {st₀ t T' : State} {L : List Loc} (h0 : st₀.heap = H) (e1 : T'.heap = t.heap) (hS : va_S A0 H0 H locs) (hA : ∀ q, q < H.size → A1 q → A0 q) (hf : ∀ q, free q → A0 q) (hL : ∀ q ∈ L, free q.base) (hF : va_F A1 st₀ t) :
    H.size ≤ T'.heap.size ∧ (∀ q : Nat, q < H.size → ¬ A1 q → T'.heap[q]? = H[q]?) ∧ va_S A0 H0 T'.heap (locs ++ L) := by
  obtain ⟨hz, hk⟩ := hF
  rw [h0] at hz hk
  exact ⟨by rw [e1]; exact hz, fun q h1 h2 => by rw [e1]; exact hk q h1 h2,
    ⟨Nat.le_trans hS.1 (by rw [e1]; exact hz), fun q h1 h2 => by rw [e1, hk q (Nat.lt_of_lt_of_le h1 hS.1) (fun z => h2 (hA q (Nat.lt_of_lt_of_le h1 hS.1) z))]; exact hS.2.1 q h1 h2, fun q hq => by
      rcases List.mem_append.mp hq with h | h
      · exact hS.2.2 q h
      · exact hf _ (hL q h)⟩⟩
theorem vx_calli {S SX : Type} {post : Int32 → S → Prop} {px : SX → Prop} {B : S → State → Prop} {BX : String → SX → State → Prop} {AX : Nat → Prop} (hr : vx_Run p l e R s m args below meth c H locs cells slots mc ms (F0 m pc ls st0) rest (va_Qi post B A1 a) (vx_X px BX AX) free) (hS : va_S A0 H0 H locs) (hA : ∀ q, q < H.size → A1 q → A0 q) (hf : ∀ q, free q → A0 q) (hAX : ∀ q, q < H.size → AX q → A0 q)
    (kx : ∀ (E : String) (ce : Cell) (q9 : Addr) (u : SX) (t : State) (H1 : Heap) (locs1 : List Loc), t.heap = H1 → s.vm.Alike t.vm → px u → BX E u t → H.size ≤ H1.size → (∀ q : Nat, q < H.size → ¬ AX q → H1[q]? = H[q]?) → va_S A0 H0 H1 locs1 → H1[q9]? = some ce → ce.vm = .none → s.vm.findClass E = some ce.cls → vx_W p l e R s m args below meth c H1 locs1 (cells + mc) (slots + ms) Q (F0 m pc ls rest) q9)
    (kk : ∀ (r : Int32) (u : S) (t : State) (H1 : Heap) (locs1 : List Loc), t.heap = H1 → s.vm.Alike t.vm → post r u → B u t → H.size ≤ H1.size → (∀ q : Nat, q < H.size → ¬ A1 q → H1[q]? = H[q]?) → va_S A0 H0 H1 locs1 → W p l e R s m args below meth c H1 locs1 (cells + mc) (slots + ms) Q (F0 m (pc + 3) ls (.int r :: rest))) : W p l e R s m args below meth c H locs cells slots Q (F0 m pc ls st0) := by
  intro T hT X
  rcases hr T hT X with ⟨v, st₀, t, T', L, h0, X', hL, e1, e2, ⟨⟨r, u, hv, hp, hb⟩, hF⟩, st⟩ | ⟨q, st₀, t, T', L, E, ce, h0, X', hL, e1, e2, ⟨u, hp, hb, hF⟩, hce, hcv, hcl, st⟩
  · cases hv
    obtain ⟨k1, k2, k3⟩ := vx_keep h0 e1 hS hA hf hL hF
    obtain ⟨t2, a1, b1⟩ := kk r u t T'.heap (locs ++ L) e1.symm (by rw [← e2]; exact X'.warmed.alike) hp hb k1 k2 k3 T' rfl X'
    exact ⟨t2, st t2 a1, b1⟩
  · obtain ⟨k1, k2, k3⟩ := vx_keep h0 e1 hS hAX hf hL hF
    obtain ⟨t2, a1, b1⟩ := kx E ce q u t T'.heap (locs ++ L) e1.symm (by rw [← e2]; exact X'.warmed.alike) hp hb k1 k2 k3 (by rw [e1]; exact hce) hcv hcl T' rfl X'
    exact ⟨t2, st.trans a1, b1⟩
theorem vx_calll {S SX : Type} {post : Int64 → S → Prop} {px : SX → Prop} {B : S → State → Prop} {BX : String → SX → State → Prop} {AX : Nat → Prop} (hr : vx_Run p l e R s m args below meth c H locs cells slots mc ms (F0 m pc ls st0) rest (va_Ql post B A1 a) (vx_X px BX AX) free) (hS : va_S A0 H0 H locs) (hA : ∀ q, q < H.size → A1 q → A0 q) (hf : ∀ q, free q → A0 q) (hAX : ∀ q, q < H.size → AX q → A0 q)
    (kx : ∀ (E : String) (ce : Cell) (q9 : Addr) (u : SX) (t : State) (H1 : Heap) (locs1 : List Loc), t.heap = H1 → s.vm.Alike t.vm → px u → BX E u t → H.size ≤ H1.size → (∀ q : Nat, q < H.size → ¬ AX q → H1[q]? = H[q]?) → va_S A0 H0 H1 locs1 → H1[q9]? = some ce → ce.vm = .none → s.vm.findClass E = some ce.cls → vx_W p l e R s m args below meth c H1 locs1 (cells + mc) (slots + ms) Q (F0 m pc ls rest) q9)
    (kk : ∀ (r : Int64) (u : S) (t : State) (H1 : Heap) (locs1 : List Loc), t.heap = H1 → s.vm.Alike t.vm → post r u → B u t → H.size ≤ H1.size → (∀ q : Nat, q < H.size → ¬ A1 q → H1[q]? = H[q]?) → va_S A0 H0 H1 locs1 → W p l e R s m args below meth c H1 locs1 (cells + mc) (slots + ms) Q (F0 m (pc + 3) ls (.long r :: rest))) : W p l e R s m args below meth c H locs cells slots Q (F0 m pc ls st0) := by
  intro T hT X
  rcases hr T hT X with ⟨v, st₀, t, T', L, h0, X', hL, e1, e2, ⟨⟨r, u, hv, hp, hb⟩, hF⟩, st⟩ | ⟨q, st₀, t, T', L, E, ce, h0, X', hL, e1, e2, ⟨u, hp, hb, hF⟩, hce, hcv, hcl, st⟩
  · cases hv
    obtain ⟨k1, k2, k3⟩ := vx_keep h0 e1 hS hA hf hL hF
    obtain ⟨t2, a1, b1⟩ := kk r u t T'.heap (locs ++ L) e1.symm (by rw [← e2]; exact X'.warmed.alike) hp hb k1 k2 k3 T' rfl X'
    exact ⟨t2, st t2 a1, b1⟩
  · obtain ⟨k1, k2, k3⟩ := vx_keep h0 e1 hS hAX hf hL hF
    obtain ⟨t2, a1, b1⟩ := kx E ce q u t T'.heap (locs ++ L) e1.symm (by rw [← e2]; exact X'.warmed.alike) hp hb k1 k2 k3 (by rw [e1]; exact hce) hcv hcl T' rfl X'
    exact ⟨t2, st.trans a1, b1⟩
theorem vx_callf {S SX : Type} {post : UInt32 → S → Prop} {px : SX → Prop} {B : S → State → Prop} {BX : String → SX → State → Prop} {AX : Nat → Prop} (hr : vx_Run p l e R s m args below meth c H locs cells slots mc ms (F0 m pc ls st0) rest (va_Qf post B A1 a) (vx_X px BX AX) free) (hS : va_S A0 H0 H locs) (hA : ∀ q, q < H.size → A1 q → A0 q) (hf : ∀ q, free q → A0 q) (hAX : ∀ q, q < H.size → AX q → A0 q)
    (kx : ∀ (E : String) (ce : Cell) (q9 : Addr) (u : SX) (t : State) (H1 : Heap) (locs1 : List Loc), t.heap = H1 → s.vm.Alike t.vm → px u → BX E u t → H.size ≤ H1.size → (∀ q : Nat, q < H.size → ¬ AX q → H1[q]? = H[q]?) → va_S A0 H0 H1 locs1 → H1[q9]? = some ce → ce.vm = .none → s.vm.findClass E = some ce.cls → vx_W p l e R s m args below meth c H1 locs1 (cells + mc) (slots + ms) Q (F0 m pc ls rest) q9)
    (kk : ∀ (r : UInt32) (u : S) (t : State) (H1 : Heap) (locs1 : List Loc), t.heap = H1 → s.vm.Alike t.vm → post r u → B u t → H.size ≤ H1.size → (∀ q : Nat, q < H.size → ¬ A1 q → H1[q]? = H[q]?) → va_S A0 H0 H1 locs1 → W p l e R s m args below meth c H1 locs1 (cells + mc) (slots + ms) Q (F0 m (pc + 3) ls (.float r :: rest))) : W p l e R s m args below meth c H locs cells slots Q (F0 m pc ls st0) := by
  intro T hT X
  rcases hr T hT X with ⟨v, st₀, t, T', L, h0, X', hL, e1, e2, ⟨⟨r, u, hv, hp, hb⟩, hF⟩, st⟩ | ⟨q, st₀, t, T', L, E, ce, h0, X', hL, e1, e2, ⟨u, hp, hb, hF⟩, hce, hcv, hcl, st⟩
  · cases hv
    obtain ⟨k1, k2, k3⟩ := vx_keep h0 e1 hS hA hf hL hF
    obtain ⟨t2, a1, b1⟩ := kk r u t T'.heap (locs ++ L) e1.symm (by rw [← e2]; exact X'.warmed.alike) hp hb k1 k2 k3 T' rfl X'
    exact ⟨t2, st t2 a1, b1⟩
  · obtain ⟨k1, k2, k3⟩ := vx_keep h0 e1 hS hAX hf hL hF
    obtain ⟨t2, a1, b1⟩ := kx E ce q u t T'.heap (locs ++ L) e1.symm (by rw [← e2]; exact X'.warmed.alike) hp hb k1 k2 k3 (by rw [e1]; exact hce) hcv hcl T' rfl X'
    exact ⟨t2, st.trans a1, b1⟩
theorem vx_calld {S SX : Type} {post : UInt64 → S → Prop} {px : SX → Prop} {B : S → State → Prop} {BX : String → SX → State → Prop} {AX : Nat → Prop} (hr : vx_Run p l e R s m args below meth c H locs cells slots mc ms (F0 m pc ls st0) rest (va_Qd post B A1 a) (vx_X px BX AX) free) (hS : va_S A0 H0 H locs) (hA : ∀ q, q < H.size → A1 q → A0 q) (hf : ∀ q, free q → A0 q) (hAX : ∀ q, q < H.size → AX q → A0 q)
    (kx : ∀ (E : String) (ce : Cell) (q9 : Addr) (u : SX) (t : State) (H1 : Heap) (locs1 : List Loc), t.heap = H1 → s.vm.Alike t.vm → px u → BX E u t → H.size ≤ H1.size → (∀ q : Nat, q < H.size → ¬ AX q → H1[q]? = H[q]?) → va_S A0 H0 H1 locs1 → H1[q9]? = some ce → ce.vm = .none → s.vm.findClass E = some ce.cls → vx_W p l e R s m args below meth c H1 locs1 (cells + mc) (slots + ms) Q (F0 m pc ls rest) q9)
    (kk : ∀ (r : UInt64) (u : S) (t : State) (H1 : Heap) (locs1 : List Loc), t.heap = H1 → s.vm.Alike t.vm → post r u → B u t → H.size ≤ H1.size → (∀ q : Nat, q < H.size → ¬ A1 q → H1[q]? = H[q]?) → va_S A0 H0 H1 locs1 → W p l e R s m args below meth c H1 locs1 (cells + mc) (slots + ms) Q (F0 m (pc + 3) ls (.double r :: rest))) : W p l e R s m args below meth c H locs cells slots Q (F0 m pc ls st0) := by
  intro T hT X
  rcases hr T hT X with ⟨v, st₀, t, T', L, h0, X', hL, e1, e2, ⟨⟨r, u, hv, hp, hb⟩, hF⟩, st⟩ | ⟨q, st₀, t, T', L, E, ce, h0, X', hL, e1, e2, ⟨u, hp, hb, hF⟩, hce, hcv, hcl, st⟩
  · cases hv
    obtain ⟨k1, k2, k3⟩ := vx_keep h0 e1 hS hA hf hL hF
    obtain ⟨t2, a1, b1⟩ := kk r u t T'.heap (locs ++ L) e1.symm (by rw [← e2]; exact X'.warmed.alike) hp hb k1 k2 k3 T' rfl X'
    exact ⟨t2, st t2 a1, b1⟩
  · obtain ⟨k1, k2, k3⟩ := vx_keep h0 e1 hS hAX hf hL hF
    obtain ⟨t2, a1, b1⟩ := kx E ce q u t T'.heap (locs ++ L) e1.symm (by rw [← e2]; exact X'.warmed.alike) hp hb k1 k2 k3 (by rw [e1]; exact hce) hcv hcl T' rfl X'
    exact ⟨t2, st.trans a1, b1⟩
theorem vx_callv {S SX : Type} {post : S → Prop} {px : SX → Prop} {B : S → State → Prop} {BX : String → SX → State → Prop} {AX : Nat → Prop} (hr : vx_Run p l e R s m args below meth c H locs cells slots mc ms (F0 m pc ls st0) rest (va_Qv post B A1 a) (vx_X px BX AX) free) (hS : va_S A0 H0 H locs) (hA : ∀ q, q < H.size → A1 q → A0 q) (hf : ∀ q, free q → A0 q) (hAX : ∀ q, q < H.size → AX q → A0 q)
    (kx : ∀ (E : String) (ce : Cell) (q9 : Addr) (u : SX) (t : State) (H1 : Heap) (locs1 : List Loc), t.heap = H1 → s.vm.Alike t.vm → px u → BX E u t → H.size ≤ H1.size → (∀ q : Nat, q < H.size → ¬ AX q → H1[q]? = H[q]?) → va_S A0 H0 H1 locs1 → H1[q9]? = some ce → ce.vm = .none → s.vm.findClass E = some ce.cls → vx_W p l e R s m args below meth c H1 locs1 (cells + mc) (slots + ms) Q (F0 m pc ls rest) q9)
    (kk : ∀ (u : S) (t : State) (H1 : Heap) (locs1 : List Loc), t.heap = H1 → s.vm.Alike t.vm → post u → B u t → H.size ≤ H1.size → (∀ q : Nat, q < H.size → ¬ A1 q → H1[q]? = H[q]?) → va_S A0 H0 H1 locs1 → W p l e R s m args below meth c H1 locs1 (cells + mc) (slots + ms) Q (F0 m (pc + 3) ls (rest))) : W p l e R s m args below meth c H locs cells slots Q (F0 m pc ls st0) := by
  intro T hT X
  rcases hr T hT X with ⟨v, st₀, t, T', L, h0, X', hL, e1, e2, ⟨⟨u, hv, hp, hb⟩, hF⟩, st⟩ | ⟨q, st₀, t, T', L, E, ce, h0, X', hL, e1, e2, ⟨u, hp, hb, hF⟩, hce, hcv, hcl, st⟩
  · cases hv
    obtain ⟨k1, k2, k3⟩ := vx_keep h0 e1 hS hA hf hL hF
    obtain ⟨t2, a1, b1⟩ := kk u t T'.heap (locs ++ L) e1.symm (by rw [← e2]; exact X'.warmed.alike) hp hb k1 k2 k3 T' rfl X'
    exact ⟨t2, st t2 a1, b1⟩
  · obtain ⟨k1, k2, k3⟩ := vx_keep h0 e1 hS hAX hf hL hF
    obtain ⟨t2, a1, b1⟩ := kx E ce q u t T'.heap (locs ++ L) e1.symm (by rw [← e2]; exact X'.warmed.alike) hp hb k1 k2 k3 (by rw [e1]; exact hce) hcv hcl T' rfl X'
    exact ⟨t2, st.trans a1, b1⟩
/-- caught by the row x of this method's table; the rows ahead don't take it -/
theorem vx_catch {own name : String} {E : String} {ce : Cell} {q : Addr} (hown : s.vm.findClass own = some m.cls) (pre : List ExceptionTableEntry) (x : ExceptionTableEntry) (suf : List ExceptionTableEntry) (hsplit : c.exceptionTable.toList = pre ++ x :: suf)
    (hpass : ∀ z ∈ pre, covers z pc = false ∨ (z.catchType ≠ 0 ∧ ∃ nm : String, (Cond.classLink own z.catchType nm).before args s = true ∧ va_Nc E nm s)) (hx : covers x pc = true) (h0 : x.catchType ≠ 0)
    (hlink : (Cond.classLink own x.catchType name).before args s = true) (hcast : (Cond.castable E name).before args s = true) (hcell : H[q]? = some ce) (hv : ce.vm = .none) (hcl : s.vm.findClass E = some ce.cls)
    (kk : W p l e R s m args below meth c H locs cells slots Q (F0 m x.handlerPc ls [.ref q])) : vx_W p l e R s m args below meth c H locs cells slots Q (F0 m pc ls rest) q := by
  intro T hT X
  have hpl : e.platform.magicAccessors = ({} : Platform).magicAccessors := by rw [X.admits.platform]
  obtain ⟨c3, c4, hc3, hc4, hasg⟩ := Cond.castable_spec hcast
  cases Option.some.inj (hc3.symm.trans hcl)
  obtain ⟨c5, hc5, hcl5⟩ := Cond.classLink_spec hown hlink e.platform hpl
  cases Option.some.inj (hc4.symm.trans hc5)
  obtain ⟨vm', X', st⟩ := X.thenCaughtThrough q (g := F0 m pc ls rest) rfl (Steps.refl _) (by rw [hT]; exact hcell) (by rw [hv]; rfl) (by obtain ⟨k9, h9, -⟩ := Vm.findClass_spec hcl; exact ⟨k9, h9⟩) pre x suf hsplit
    (fun z hz => by
      rcases hpass z hz with h | ⟨hz0, nm, hl1, hn1⟩
      · exact Or.inl h
      · obtain ⟨c6, hc6, hcl6⟩ := Cond.classLink_spec hown hl1 e.platform hpl
        obtain ⟨a8, b8, h1, h2, h3⟩ := hn1
        cases Option.some.inj (h1.symm.trans hcl)
        cases Option.some.inj (h2.symm.trans hc6)
        exact Or.inr ⟨hz0, _, hcl6, h3⟩) hx (Or.inr ⟨h0, c4, hcl5, hasg⟩)
  obtain ⟨t, a1, b1⟩ := kk (T.setVm vm') hT X'
  exact ⟨t, st.trans a1, b1⟩
end Rows
section Ends
variable {p : Program} {l : Launch} {e : Env} {R : Room} {s : State} {m : MethodId} {args : Array Value} {below : List Frame} {meth : Method} {c : Code} {H : Heap} {locs : List Loc} {cells slots : Nat} {Q : State → Prop}
variable {mc ms : Nat} {free : Addr → Prop} {A0 A1 : Nat → Prop} {H0 : Heap} {a : Array Value} {ls : Array Slot} {st0 rest : List Value}
variable {Qc : Array Value → State → Outcome → State → Prop} {XC : String → State → State → Prop}
/-- what a body that may throw owes at its end -/
def vx_MQ (below : List Frame) (Qc : Array Value → State → Outcome → State → Prop) (XC : String → State → State → Prop) (a : Array Value) (s : State) (mc ms : Nat) (free : Addr → Prop) : State → Prop := fun t =>
  ∃ o, t.status = .running ∧ Ended t below o ∧ vx_Q Qc XC mc ms free a s o t
theorem vx_ret {g : JFrame} {mc ms : Nat} (k : W p l e R s m args below meth c H locs cells slots (MQ below Qc args s mc ms free) g) : W p l e R s m args below meth c H locs cells slots (vx_MQ below Qc XC args s mc ms free) g := by
  intro T hT X
  obtain ⟨t, a1, o, b1, b2, b3, b4⟩ := k T hT X
  exact ⟨t, a1, o, b1, b2, Or.inl ⟨b3, b4⟩⟩
/-- not caught here: it goes on to the caller -/
theorem vx_widen {g : JFrame} {q : Addr} {k n : Nat} (h1 : cells ≤ k) (h2 : slots ≤ n) (kk : vx_W p l e R s m args below meth c H locs k n Q g q) : vx_W p l e R s m args below meth c H locs cells slots Q g q := fun T hT X => kk T hT (stand_widen X h1 h2)
theorem vx_out {pc : Nat} {E : String} {ce : Cell} {q : Addr} {mc ms : Nat} (hout : ∀ x ∈ c.exceptionTable.toList, covers x pc = false) (hlocks : meth.locks = false) (hcell : H[q]? = some ce) (hv : ce.vm = .none) (hcl : s.vm.findClass E = some ce.cls)
    (hx : ∀ t : State, t.heap = H → s.vm.Alike t.vm → XC E s t) (hf : ∀ z ∈ locs, free z.base) (hc : cells ≤ mc) (hs : slots ≤ ms) :
    vx_W p l e R s m args below meth c H locs cells slots (vx_MQ below Qc XC args s mc ms free) (F0 m pc ls rest) q := by
  intro T hT X
  obtain ⟨st1, hrun, hend, hW, hsm⟩ := X.leaveThrown q (g := F0 m pc ls rest) rfl rfl rfl hout hlocks
  have hcell9 : (T.setFrames (.throwing q :: below)).heap[q]? = some ce := by
    show T.heap[q]? = some ce
    rw [hT]; exact hcell
  exact ⟨_, st1, .threw q, hrun, hend, Or.inr ⟨q, rfl, E, ce, locs, hx _ hT hW.alike, hcell9, hv, hcl, hW, hsm.mono hc hs, hf⟩⟩
theorem vx_frame {U : State} {k n : Nat} (h : s.sameButNew ({ U with vm := s.vm } : State) locs k n) : s.heap.size ≤ U.heap.size ∧ ∀ q : Nat, q < s.heap.size → (∀ z ∈ locs, z.base ≠ q) → U.heap[q]? = s.heap[q]? := by
  obtain ⟨-, h2, -, -, -, h6⟩ := h
  refine ⟨h2, fun q hq hz => ?_⟩
  obtain ⟨c9, e1, e2, e3, e4⟩ := h6 q _ (Array.getElem?_eq_getElem hq)
  have hs : c9.slots = (s.heap[q]).slots := Array.ext_getElem? fun i => e4 i fun hm => hz _ hm rfl
  have h9 : c9 = s.heap[q] := by
    rw [hs] at e2
    exact e2
  have e5 : U.heap[q]? = some c9 := e1
  rw [e5, h9, Array.getElem?_eq_getElem hq]
/-- the words of a throw but the four that speak of the heap -/
def vx_no (w : Cond) : Bool := decide (w ≠ .isRef (.static Bundle.tN "UNASSIGNED_STACK" Bundle.steD)) && decide (w ≠ .isRef (.static Bundle.tN "SUPPRESSED_SENTINEL" Bundle.listD)) && decide (w ≠ .laysStatic Bundle.tN "UNASSIGNED_STACK" Bundle.steD) && decide (w ≠ .laysStatic Bundle.tN "SUPPRESSED_SENTINEL" Bundle.listD)
def vx_at0 (own : String) (ic : Nat) (X : String) (names : List String) : List Cond := (Bundle.ownAtoms0 own ic X names).filter vx_no
def vx_atS (own : String) (ic : Nat) (X : String) (names : List String) : List Cond := (Bundle.ownAtoms own ic X names).filter vx_no
/-- a word that the tables alone decide, or a good one -/
def vx_ot (w : Cond) : Bool := w.onTables || goodWord w
theorem vx_ot_at {args a' : Array Value} {s U : State} {w : Cond} (hW : s.WarmedH U.vm) (hvm : s.vm = U.vm) (hg : vx_ot w = true) (h : w.before args s = true) : w.before a' U = true := by
  simp only [vx_ot, Bool.or_eq_true] at hg
  rcases hg with hg | hg
  · exact va_tabs hg hvm h
  · exact word_at hW (good_of_word hg) h
/-- a list's words: the good ones out of the method's own list, the others by premises of their own -/
theorem vx_hat {args : Array Value} {s : State} {L B : List Cond} (h1 : ∀ w ∈ L.filter goodWord, w.before args s = true) (h2 : ∀ w ∈ L.filter (fun w => !goodWord w), w ∈ B) (h3 : ∀ w ∈ B, w.before args s = true) : ∀ w ∈ L, w.before args s = true := by
  intro w hw
  by_cases g : goodWord w = true
  · exact h1 w (List.mem_filter.mpr ⟨hw, g⟩)
  · refine h3 w (h2 w (List.mem_filter.mpr ⟨hw, ?_⟩))
    show (!goodWord w) = true
    cases hgw : goodWord w
    · rfl
    · exact absurd hgw g
theorem vx_c {args : Array Value} {s : State} {w : Cond} {B : List Cond} (h : w.before args s = true) (t : ∀ w ∈ B, w.before args s = true) : ∀ w' ∈ w :: B, w'.before args s = true := fun w' h' => (List.mem_cons.mp h').elim (fun e => by rw [e]; exact h) (t w')
theorem vx_n {args : Array Value} {s : State} : ∀ w ∈ ([] : List Cond), w.before args s = true := fun _ h => nomatch h
theorem vx_own {args : Array Value} {s : State} {L : List Cond} (h1 : ∀ w ∈ L.filter vx_no, w.before args s = true)
    (hU : (Cond.isRef (.static Bundle.tN "UNASSIGNED_STACK" Bundle.steD)).before args s = true) (hN : (Cond.isRef (.static Bundle.tN "SUPPRESSED_SENTINEL" Bundle.listD)).before args s = true)
    (lU : (Cond.laysStatic Bundle.tN "UNASSIGNED_STACK" Bundle.steD).before args s = true) (lN : (Cond.laysStatic Bundle.tN "SUPPRESSED_SENTINEL" Bundle.listD).before args s = true) : ∀ w ∈ L, w.before args s = true := by
  intro w hw
  by_cases e1 : w = .isRef (.static Bundle.tN "UNASSIGNED_STACK" Bundle.steD)
  · rw [e1]; exact hU
  · by_cases e2 : w = .isRef (.static Bundle.tN "SUPPRESSED_SENTINEL" Bundle.listD)
    · rw [e2]; exact hN
    · by_cases e3 : w = .laysStatic Bundle.tN "UNASSIGNED_STACK" Bundle.steD
      · rw [e3]; exact lU
      · by_cases e4 : w = .laysStatic Bundle.tN "SUPPRESSED_SENTINEL" Bundle.listD
        · rw [e4]; exact lN
        · exact h1 w (List.mem_filter.mpr ⟨hw, by unfold vx_no; rw [decide_eq_true e1, decide_eq_true e2, decide_eq_true e3, decide_eq_true e4]; rfl⟩)
/-- where a static field lies, its class's statics cell in H -/
def vx_L (C n d : String) (A : Nat → Prop) (U : State) (H : Heap) : Prop := ∃ (c : ClassId) (k : Class) (i : Nat) (f : Field) (a : Nat) (cell : Cell), U.vm.findClass C = some c ∧ U.fieldFound? C n d = some (c, k, i, f) ∧ f.isStatic = true ∧ k.statics = some a ∧ H[a]? = some cell ∧ cell.vm.isStatics = true ∧ cell.cls = c ∧ f.slot < cell.slots.size ∧ k.staticTypes[f.slot]? = some f.type ∧ ¬ A a
theorem vx_L.moved {C n d : String} {A : Nat → Prop} {u U : State} {H : Heap} (hvm : u.vm.Alike U.vm) (h : vx_L C n d A u H) : vx_L C n d A U H := by
  obtain ⟨c, k, i, f, a, cell, h1, h2, h3, h4, h5, h6, h7, h8, h9, h10⟩ := h
  obtain ⟨k', hi', he⟩ := State.fieldFound?_setVm hvm h2
  exact ⟨c, k', i, f, a, cell, by rw [hvm.findClass]; exact h1, hi', h3, by rw [he]; exact h4, h5, h6, h7, h8, by rw [he]; exact h9, h10⟩
theorem vx_L.kept {C n d : String} {A : Nat → Prop} {U : State} {H H1 : Heap} (h : vx_L C n d A U H) (hq : ∀ a : Nat, a < H.size → ¬ A a → H1[a]? = H[a]?) : vx_L C n d A U H1 := by
  obtain ⟨c, k, i, f, a, cell, h1, h2, h3, h4, h5, h6, h7, h8, h9, h10⟩ := h
  exact ⟨c, k, i, f, a, cell, h1, h2, h3, h4, by rw [hq a (Array.getElem?_eq_some_iff.mp h5).1 h10]; exact h5, h6, h7, h8, h9, h10⟩
theorem vx_L.narrow {C n d : String} {A B : Nat → Prop} {U : State} {H : Heap} (h : vx_L C n d A U H) (hAB : ∀ q, B q → A q) : vx_L C n d B U H := by
  obtain ⟨c, k, i, f, a, cell, h1, h2, h3, h4, h5, h6, h7, h8, h9, h10⟩ := h
  exact ⟨c, k, i, f, a, cell, h1, h2, h3, h4, h5, h6, h7, h8, h9, fun z => h10 (hAB _ z)⟩
theorem vx_L.word {C n d : String} {A : Nat → Prop} {s : State} {args : Array Value} (h : vx_L C n d A s s.heap) : (Cond.laysStatic C n d).before args s = true := by
  obtain ⟨c, k, i, f, a, cell, h1, h2, h3, h4, h5, h6, h7, h8, h9, -⟩ := h
  show (Cond.laysStatic C n d).holds args s none s [] = true
  exact Cond.laysStatic_of h1 h2 h3 h4 h5 h6 h7 h8 h9
/-- .. and what it holds: null or some reference -/
def vx_Zq (C n d : String) (A : Nat → Prop) (U : State) (H : Heap) : Prop := va_Zq C n d A U H ∧ vx_L C n d A U H
theorem vx_Zq.moved {C n d : String} {A : Nat → Prop} {u U : State} {H : Heap} (hvm : u.vm.Alike U.vm) (h : vx_Zq C n d A u H) : vx_Zq C n d A U H := ⟨va_Zq.moved hvm h.1, vx_L.moved hvm h.2⟩
theorem vx_Zq.kept {C n d : String} {A : Nat → Prop} {U : State} {H H1 : Heap} (h : vx_Zq C n d A U H) (hq : ∀ a : Nat, a < H.size → ¬ A a → H1[a]? = H[a]?) : vx_Zq C n d A U H1 := ⟨va_Zq.kept h.1 hq, vx_L.kept h.2 hq⟩
theorem vx_Zq.narrow {C n d : String} {A B : Nat → Prop} {U : State} {H : Heap} (h : vx_Zq C n d A U H) (hAB : ∀ q, B q → A q) : vx_Zq C n d B U H := ⟨va_Zq.narrow h.1 hAB, vx_L.narrow h.2 hAB⟩
theorem vx_Zqof {args : Array Value} {s : State} {C n d : String} {A : Nat → Prop} (hl : (Cond.laysStatic C n d).before args s = true) (hini : (Cond.initialized C).before args s = true) (h : (Cond.isRef (.static C n d)).before args s = true) (hA : ∀ a : Nat, a < s.heap.size → ¬ A a) : vx_Zq C n d A s s.heap := by
  refine ⟨va_Zqof hl hini h hA, ?_⟩
  obtain ⟨c, k, i, f, a, cell, h1, h2, h3, h4, h5, h6, h7, h8, h9⟩ := Cond.laysStatic_spec hl
  exact ⟨c, k, i, f, a, cell, h1, h2, h3, h4, h5, h6, h7, h8, h9, hA a (Array.getElem?_eq_some_iff.mp h5).1⟩
theorem vx_isRef {C n d : String} {v : Value} {A : Nat → Prop} {s : State} {args : Array Value} (h : va_Z C n d v A s s.heap) (hv : v.isRef = true) : (Cond.isRef (.static C n d)).before args s = true := by
  obtain ⟨cf, kf, fi, f, a, cell, h1, h2, h3, h4, h5, h6, h7, -⟩ := h
  have he : (Term.static C n d).eval args s none [] s = some v := by
    simp [Term.eval, State.fieldNamed?, h1, h2, h4, h5, h6, h7]
  simp only [Cond.before, Cond.holds, Cond.value, he]
  cases v <;> simp_all [Value.isRef]
theorem vx_isRefq {C n d : String} {A : Nat → Prop} {s : State} {args : Array Value} (h : va_Zq C n d A s s.heap) : (Cond.isRef (.static C n d)).before args s = true := by
  rcases h with h | ⟨t, h⟩
  · exact vx_isRef h rfl
  · exact vx_isRef h rfl
/-- the same frame, seen from here: as if the method were called anew in this heap -/
theorem vx_rebase {T : State} (X : Stand p l e R s m args below meth c T locs cells slots) {R' : Room} (hf : R'.frames ≤ R.frames) (hl : R'.locals ≤ R.locals) (hc : cells + R'.cells ≤ R.cells) (hs : slots + R'.slots ≤ R.slots) :
    Stand p l e R' ((T.setVm s.vm).setFrames (.invoking m args :: below)) m args below meth c T [] 0 0 := by
  have htop : (T.setVm s.vm).topJava?.isSome := X.here.top
  have hF : ((T.setVm s.vm).setFrames (.invoking m args :: below)).frames = .invoking m args :: below := State.frames_setFrames _ (State.cur_lt_of_top htop)
  obtain ⟨g₀, hg0⟩ := Option.isSome_iff_exists.mp htop
  obtain ⟨r, hr⟩ := State.topJava?_eq_some.mp hg0
  have hl9 : e.platform.stackLimits (T.setVm s.vm).me = e.platform.stackLimits s.me := X.limits
  have hb9 : (T.setVm s.vm).me.stackBytes = s.me.stackBytes := X.bytes
  refine ⟨X.admits, X.cas, X.clock, hF, ?_, X.hears, X.method, X.code, X.here, X.tail, X.warmed, ?_, ?_, ?_⟩
  · have h := X.room
    have hU : ((T.setVm s.vm).setFrames (.invoking m args :: below)).localsInUse = s.localsInUse := by
      rw [State.localsInUse_invoking hF (meth := meth) (c := c) X.method X.code, State.localsInUse_invoking X.frames X.method X.code]
    simp only [State.hasRoom, Bool.and_eq_true, decide_eq_true_eq] at h ⊢
    obtain ⟨⟨⟨⟨h1, h2, h3, h4, h5, h6⟩, h7⟩, h8⟩, h9⟩ := h
    rw [X.frames, List.length_cons] at h2 h3
    have q1 := X.heapSize
    have q2 := X.used
    simp only [hF, hU, List.length_cons, State.stackLimits_setFrames, State.stackBytes_setFrames, hl9, hb9]
    refine ⟨⟨⟨⟨by omega, by omega, by omega, by omega, by omega, h6⟩, ?_⟩, ?_⟩, X.book⟩
    · show T.heap.size + R'.cells ≤ e.platform.maxCells
      omega
    · show T.slotsUsed + R'.slots ≤ e.platform.maxSlots
      omega
  · rw [State.stackLimits_setFrames]; rfl
  · rw [State.stackBytes_setFrames]; rfl
  · refine ⟨?_, Nat.le_refl _, Nat.le_refl _, ?_, ?_, fun a c9 h9 => ⟨c9, h9, rfl, rfl, fun _ _ => rfl⟩⟩
    · obtain ⟨t, ht, -⟩ := State.frames_cons hr
      show T.setVm s.vm = { ((T.setVm s.vm).setFrames (.invoking m args :: below)).setFrames (T.setVm s.vm).frames with heap := T.heap, slotsUsed := T.slotsUsed }
      rw [State.setFrames_setFrames, State.setFrames_self ht]
      rfl
    · show T.slotsUsed = T.slotsUsed + ((T.heap.toList.drop T.heap.size).map (·.slots.size)).sum
      rw [List.drop_eq_nil_of_le (Nat.le_of_eq Array.length_toList)]
      rfl
    · show ((T.heap.toList.drop T.heap.size).map (·.slots.size)).sum ≤ 0
      rw [List.drop_eq_nil_of_le (Nat.le_of_eq Array.length_toList)]
      exact Nat.le_refl _
/-- 'throw new E()': new; dup; invokespecial; athrow -/
theorem vx_throw0 {cc : ByteArray} {pc : Nat} (hexec : p.tables.exec = Jvm.exec) (hb : c.code = cc) (hl : l.stackTraces = false) {own cls : String} {names : List String} {ik ic mc ms : Nat} {A : Nat → Prop}
    (hown : s.vm.findClass own = some m.cls) (hcls : Bundle.fit cls = true) (hnames : ∀ n ∈ names, Bundle.fit n = true)
    (hk : (Cond.classLink own ik cls).before args s = true) (hini : (Cond.initialized cls).before args s = true) (hat : ∀ w ∈ vx_at0 own ic cls names, w.before args s = true)
    (hgood : ∀ w ∈ Cond.classLink own ik cls :: Cond.initialized cls :: vx_at0 own ic cls names, vx_ot w = true)
    (hU : vx_Zq Bundle.tN "UNASSIGNED_STACK" Bundle.steD A s s.heap) (hN : vx_Zq Bundle.tN "SUPPRESSED_SENTINEL" Bundle.listD A s s.heap) (hS : va_S A s.heap H locs) (hsize : ls.size = c.maxLocals)
    (d0 : decode cc pc = .ok (.new ik, 3)) (d3 : decode cc (pc + 3) = .ok (.dup, 1)) (d4 : decode cc (pc + 4) = .ok (.invokespecial ic, 3)) (d7 : decode cc (pc + 7) = .ok (.athrow, 1))
    (hout : ∀ x ∈ c.exceptionTable.toList, covers x (pc + 7) = false)
    (hRframes : names.length + 3 < R.frames) (hRlocals : (rest.map fun v => v.category).sum + (13 * (names.length + 1) + 42) ≤ R.locals) (hRcells : cells + 1 ≤ R.cells) (hRslots : slots + 6 ≤ R.slots) (hlocks : meth.locks = false)
    (hx : ∀ t : State, s.vm.Alike t.vm → H.size ≤ t.heap.size → (∀ q : Nat, q < H.size → t.heap[q]? = H[q]?) → XC cls s t)
    (hf : ∀ z ∈ locs, free z.base) (hc : cells + 1 ≤ mc) (hs : slots + 6 ≤ ms) :
    W p l e R s m args below meth c H locs cells slots (vx_MQ below Qc XC args s mc ms free) (F0 m pc ls rest) := by
  intro T hT X
  have htr : e.platform.stackTraces = false := (show e.platform.stackTraces = l.stackTraces by rw [X.admits.platform]).trans hl
  have Y := vx_rebase X (R' := { frames := R.frames, locals := R.locals, cells := 1, slots := 6 }) (Nat.le_refl _) (Nat.le_refl _) hRcells hRslots
  obtain ⟨s', hA⟩ : ∃ z, z = (T.setVm s.vm).setFrames (.invoking m args :: below) := ⟨_, rfl⟩
  rw [← hA] at Y
  have hvm : s'.vm = s.vm := by rw [hA]; rfl
  have hhp : s'.heap = H := by rw [hA]; exact hT
  have hW0 : s.WarmedH s'.vm := by rw [hvm]; exact State.WarmedH.refl s
  have hat' : ∀ w ∈ vx_at0 own ic cls names, w.before args s' = true := fun w hw => vx_ot_at hW0 hvm.symm (hgood w (List.mem_cons_of_mem _ (List.mem_cons_of_mem _ hw))) (hat w hw)
  have hk' : (Cond.classLink own ik cls).before args s' = true := vx_ot_at hW0 hvm.symm (hgood _ List.mem_cons_self) hk
  have hini' : (Cond.initialized cls).before args s' = true := vx_ot_at hW0 hvm.symm (hgood _ (List.mem_cons_of_mem _ List.mem_cons_self)) hini
  have hU' : vx_Zq Bundle.tN "UNASSIGNED_STACK" Bundle.steD A s' s'.heap := by rw [hhp]; exact vx_Zq.moved hW0.alike (hU.kept hS.2.1)
  have hN' : vx_Zq Bundle.tN "SUPPRESSED_SENTINEL" Bundle.listD A s' s'.heap := by rw [hhp]; exact vx_Zq.moved hW0.alike (hN.kept hS.2.1)
  have h : ∀ w ∈ Bundle.ownAtoms0 own ic cls names, w.before args s' = true := vx_own hat' (vx_isRefq hU'.1) (vx_isRefq hN'.1) hU'.2.word hN'.2.word
  have hown' : s'.vm.findClass own = some m.cls := by rw [hvm]; exact hown
  have hins : (Cond.instantiable cls 6).before args s' = true := h _ (by simp [Bundle.ownAtoms0])
  obtain ⟨vm₁, cX, kX, hfX, hkX, -, -, X₁, st1⟩ := Y.newCold hexec (own := own) (C := cls) (index := ik) (n := 6) hown' hk' hins hini'
    (g := F0 m pc ls rest) rfl (by rw [hb]; exact d0) (Nat.le_refl _) (Nat.le_refl _)
  generalize hT1 : (T.setVm vm₁).pushCell { cls := cX, slots := kX.instanceTypes.map defaultValue, vm := .none } = T1 at X₁ st1
  have hcat : (Value.ref T.heap.size).category = 1 := rfl
  have hcellA : T1.heap[T.heap.size]? = some (freshCell cX kX) := by rw [← hT1]; exact State.heap_pushCell_size _ _
  have d3' : decode c.code (pc + 3) = .ok (.dup, 1) := by rw [hb]; exact d3
  obtain ⟨U, hsteps, hrun, hend, hW, hsame, ce, hce, hO⟩ := X₁.ctorThrow0 hexec htr (own := own) (cls := cls) (names := names) (ic := ic) hown' hcls hnames h (fun x hx => nomatch hx) hfX hkX hcellA (by rw [hhp, hT]; exact Nat.le_refl _)
    (g := { method := m, pc := pc + 4, locals := ls, stack := .ref T.heap.size :: .ref T.heap.size :: rest, locked := none }) rfl hsize rfl rfl (rest := rest) rfl
    (by rw [hb]; exact d4) (by rw [hb]; exact d7) hout hRframes (by simp only [List.map_cons, List.sum_cons, hcat]; omega) hlocks
  obtain ⟨f1, f2⟩ := vx_frame hsame
  rw [hhp] at f1 f2
  have hWs : s.WarmedH U.vm := State.WarmedH.trans hW0 hW
  have hcl : s.vm.findClass cls = some ce.cls := by
    have h9 := hO.cls
    rw [hvm] at h9
    exact h9
  have hall : s.sameButNew ({ U with vm := s.vm } : State) locs mc ms := by
    subst hA
    obtain ⟨e1, e2⟩ := hsame
    rw [State.setFrames_setFrames] at e1
    have h2 : (T.setVm s.vm).sameButNew ({ U with vm := s.vm } : State) [] (0 + 1) (0 + 6) := ⟨e1, e2⟩
    have h3 := X.same.trans h2
    rw [List.append_nil] at h3
    exact h3.mono hc hs
  refine ⟨U, ?_, .threw T.heap.size, hrun, hend, Or.inr ⟨T.heap.size, rfl, cls, ce, locs, hx U hWs.alike f1 (fun q hq => f2 q hq (fun z hz => nomatch hz)), hce, hO.vm, hcl, hWs, hall, hf⟩⟩
  refine st1 _ ?_
  show Steps p.tables e below (T1.setTop { method := m, pc := pc + 3, locals := ls, stack := .ref T.heap.size :: rest, locked := none }) _
  jvm_step X₁.here [X₁.here.top, hexec, d3', Value.category]
  exact hsteps
/-- 'throw new E("text")': new; dup; ldc; invokespecial; athrow -/
theorem vx_throwS {cc : ByteArray} {pc : Nat} (hexec : p.tables.exec = Jvm.exec) (hb : c.code = cc) (hl : l.stackTraces = false) {own cls text : String} {names : List String} {ik is ic mc ms sa : Nat} {A : Nat → Prop}
    (hown : s.vm.findClass own = some m.cls) (hcls : Bundle.fit cls = true) (hnames : ∀ n ∈ names, Bundle.fit n = true)
    (hk : (Cond.classLink own ik cls).before args s = true) (hini : (Cond.initialized cls).before args s = true) (hstr : vk_R own is text sa s) (hat : ∀ w ∈ vx_atS own ic cls names, w.before args s = true)
    (hgood : ∀ w ∈ Cond.classLink own ik cls :: Cond.initialized cls :: vx_atS own ic cls names, vx_ot w = true)
    (hU : vx_Zq Bundle.tN "UNASSIGNED_STACK" Bundle.steD A s s.heap) (hN : vx_Zq Bundle.tN "SUPPRESSED_SENTINEL" Bundle.listD A s s.heap) (hS : va_S A s.heap H locs) (hsize : ls.size = c.maxLocals)
    (d0 : decode cc pc = .ok (.new ik, 3)) (d3 : decode cc (pc + 3) = .ok (.dup, 1)) (d4 : decode cc (pc + 4) = .ok (.ldc is, 2)) (d6 : decode cc (pc + 6) = .ok (.invokespecial ic, 3)) (d9 : decode cc (pc + 9) = .ok (.athrow, 1))
    (hout : ∀ x ∈ c.exceptionTable.toList, covers x (pc + 9) = false)
    (hRframes : names.length + 3 < R.frames) (hRlocals : (rest.map fun v => v.category).sum + (13 * (names.length + 1) + 43) ≤ R.locals) (hRcells : cells + 1 ≤ R.cells) (hRslots : slots + 6 ≤ R.slots) (hlocks : meth.locks = false)
    (hx : ∀ t : State, s.vm.Alike t.vm → H.size ≤ t.heap.size → (∀ q : Nat, q < H.size → t.heap[q]? = H[q]?) → XC cls s t)
    (hf : ∀ z ∈ locs, free z.base) (hc : cells + 1 ≤ mc) (hs : slots + 6 ≤ ms) :
    W p l e R s m args below meth c H locs cells slots (vx_MQ below Qc XC args s mc ms free) (F0 m pc ls rest) := by
  intro T hT X
  have htr : e.platform.stackTraces = false := (show e.platform.stackTraces = l.stackTraces by rw [X.admits.platform]).trans hl
  have Y := vx_rebase X (R' := { frames := R.frames, locals := R.locals, cells := 1, slots := 6 }) (Nat.le_refl _) (Nat.le_refl _) hRcells hRslots
  obtain ⟨s', hA⟩ : ∃ z, z = (T.setVm s.vm).setFrames (.invoking m args :: below) := ⟨_, rfl⟩
  rw [← hA] at Y
  have hvm : s'.vm = s.vm := by rw [hA]; rfl
  have hhp : s'.heap = H := by rw [hA]; exact hT
  have hW0 : s.WarmedH s'.vm := by rw [hvm]; exact State.WarmedH.refl s
  have hat' : ∀ w ∈ vx_atS own ic cls names, w.before args s' = true := fun w hw => vx_ot_at hW0 hvm.symm (hgood w (List.mem_cons_of_mem _ (List.mem_cons_of_mem _ hw))) (hat w hw)
  have hk' : (Cond.classLink own ik cls).before args s' = true := vx_ot_at hW0 hvm.symm (hgood _ List.mem_cons_self) hk
  have hini' : (Cond.initialized cls).before args s' = true := vx_ot_at hW0 hvm.symm (hgood _ (List.mem_cons_of_mem _ List.mem_cons_self)) hini
  have hU' : vx_Zq Bundle.tN "UNASSIGNED_STACK" Bundle.steD A s' s'.heap := by rw [hhp]; exact vx_Zq.moved hW0.alike (hU.kept hS.2.1)
  have hN' : vx_Zq Bundle.tN "SUPPRESSED_SENTINEL" Bundle.listD A s' s'.heap := by rw [hhp]; exact vx_Zq.moved hW0.alike (hN.kept hS.2.1)
  have h : ∀ w ∈ Bundle.ownAtoms own ic cls names, w.before args s' = true := vx_own hat' (vx_isRefq hU'.1) (vx_isRefq hN'.1) hU'.2.word hN'.2.word
  have hown' : s'.vm.findClass own = some m.cls := by rw [hvm]; exact hown
  have hins : (Cond.instantiable cls 6).before args s' = true := h _ (by simp [Bundle.ownAtoms])
  obtain ⟨vm₁, cX, kX, hfX, hkX, -, -, X₁, st1⟩ := Y.newCold hexec (own := own) (C := cls) (index := ik) (n := 6) hown' hk' hins hini'
    (g := F0 m pc ls rest) rfl (by rw [hb]; exact d0) (Nat.le_refl _) (Nat.le_refl _)
  generalize hT1 : (T.setVm vm₁).pushCell { cls := cX, slots := kX.instanceTypes.map defaultValue, vm := .none } = T1 at X₁ st1
  have hcat : (Value.ref T.heap.size).category = 1 := rfl
  have hcellA : T1.heap[T.heap.size]? = some (freshCell cX kX) := by rw [← hT1]; exact State.heap_pushCell_size _ _
  have d3' : decode c.code (pc + 3) = .ok (.dup, 1) := by rw [hb]; exact d3
  have d4' : decode c.code (pc + 4) = .ok (.ldc is, 2) := by rw [hb]; exact d4
  have hstr' : vk_R own is text sa s' := vk_R.warm hW0 hstr
  obtain ⟨U, hsteps, hrun, hend, hW, hsame, ce, hce, hO⟩ := X₁.ctorThrowS hexec htr (own := own) (cls := cls) (names := names) (ic := ic) hown' hcls hnames h (fun x hx => nomatch hx) hfX hkX hcellA (by rw [hhp, hT]; exact Nat.le_refl _) (msg := .ref sa) rfl
    (g := { method := m, pc := pc + 6, locals := ls, stack := .ref sa :: .ref T.heap.size :: .ref T.heap.size :: rest, locked := none }) rfl hsize rfl rfl (rest := rest) rfl
    (by rw [hb]; exact d6) (by rw [hb]; exact d9) hout hRframes (by simp only [List.map_cons, List.sum_cons, hcat]; omega) hlocks
  obtain ⟨f1, f2⟩ := vx_frame hsame
  rw [hhp] at f1 f2
  have hWs : s.WarmedH U.vm := State.WarmedH.trans hW0 hW
  have hcl : s.vm.findClass cls = some ce.cls := by
    have h9 := hO.cls
    rw [hvm] at h9
    exact h9
  have hall : s.sameButNew ({ U with vm := s.vm } : State) locs mc ms := by
    subst hA
    obtain ⟨e1, e2⟩ := hsame
    rw [State.setFrames_setFrames] at e1
    have h2 : (T.setVm s.vm).sameButNew ({ U with vm := s.vm } : State) [] (0 + 1) (0 + 6) := ⟨e1, e2⟩
    have h3 := X.same.trans h2
    rw [List.append_nil] at h3
    exact h3.mono hc hs
  refine ⟨U, ?_, .threw T.heap.size, hrun, hend, Or.inr ⟨T.heap.size, rfl, cls, ce, locs, hx U hWs.alike f1 (fun q hq => f2 q hq (fun z hz => nomatch hz)), hce, hO.vm, hcl, hWs, hall, hf⟩⟩
  refine st1 _ ?_
  show Steps p.tables e below (T1.setTop { method := m, pc := pc + 3, locals := ls, stack := .ref T.heap.size :: rest, locked := none }) _
  jvm_step X₁.here [X₁.here.top, hexec, d3', Value.category]
  exact X₁.ldcString hexec (own := own) (text := text) (index := is) (a := sa) hown' hstr'.1 hstr'.2
    (g := { method := m, pc := pc + 4, locals := ls, stack := .ref T.heap.size :: .ref T.heap.size :: rest, locked := none }) rfl d4' _ hsteps
/-- 'throw new E("text")', the text by a wide index -/
theorem vx_throwSW {cc : ByteArray} {pc : Nat} (hexec : p.tables.exec = Jvm.exec) (hb : c.code = cc) (hl : l.stackTraces = false) {own cls text : String} {names : List String} {ik is ic mc ms sa : Nat} {A : Nat → Prop}
    (hown : s.vm.findClass own = some m.cls) (hcls : Bundle.fit cls = true) (hnames : ∀ n ∈ names, Bundle.fit n = true)
    (hk : (Cond.classLink own ik cls).before args s = true) (hini : (Cond.initialized cls).before args s = true) (hstr : vk_R own is text sa s) (hat : ∀ w ∈ vx_atS own ic cls names, w.before args s = true)
    (hgood : ∀ w ∈ Cond.classLink own ik cls :: Cond.initialized cls :: vx_atS own ic cls names, vx_ot w = true)
    (hU : vx_Zq Bundle.tN "UNASSIGNED_STACK" Bundle.steD A s s.heap) (hN : vx_Zq Bundle.tN "SUPPRESSED_SENTINEL" Bundle.listD A s s.heap) (hS : va_S A s.heap H locs) (hsize : ls.size = c.maxLocals)
    (d0 : decode cc pc = .ok (.new ik, 3)) (d3 : decode cc (pc + 3) = .ok (.dup, 1)) (d4 : decode cc (pc + 4) = .ok (.ldc_w is, 3)) (d7 : decode cc (pc + 7) = .ok (.invokespecial ic, 3)) (d10 : decode cc (pc + 10) = .ok (.athrow, 1))
    (hout : ∀ x ∈ c.exceptionTable.toList, covers x (pc + 10) = false)
    (hRframes : names.length + 3 < R.frames) (hRlocals : (rest.map fun v => v.category).sum + (13 * (names.length + 1) + 43) ≤ R.locals) (hRcells : cells + 1 ≤ R.cells) (hRslots : slots + 6 ≤ R.slots) (hlocks : meth.locks = false)
    (hx : ∀ t : State, s.vm.Alike t.vm → H.size ≤ t.heap.size → (∀ q : Nat, q < H.size → t.heap[q]? = H[q]?) → XC cls s t)
    (hf : ∀ z ∈ locs, free z.base) (hc : cells + 1 ≤ mc) (hs : slots + 6 ≤ ms) :
    W p l e R s m args below meth c H locs cells slots (vx_MQ below Qc XC args s mc ms free) (F0 m pc ls rest) := by
  intro T hT X
  have htr : e.platform.stackTraces = false := (show e.platform.stackTraces = l.stackTraces by rw [X.admits.platform]).trans hl
  have Y := vx_rebase X (R' := { frames := R.frames, locals := R.locals, cells := 1, slots := 6 }) (Nat.le_refl _) (Nat.le_refl _) hRcells hRslots
  obtain ⟨s', hA⟩ : ∃ z, z = (T.setVm s.vm).setFrames (.invoking m args :: below) := ⟨_, rfl⟩
  rw [← hA] at Y
  have hvm : s'.vm = s.vm := by rw [hA]; rfl
  have hhp : s'.heap = H := by rw [hA]; exact hT
  have hW0 : s.WarmedH s'.vm := by rw [hvm]; exact State.WarmedH.refl s
  have hat' : ∀ w ∈ vx_atS own ic cls names, w.before args s' = true := fun w hw => vx_ot_at hW0 hvm.symm (hgood w (List.mem_cons_of_mem _ (List.mem_cons_of_mem _ hw))) (hat w hw)
  have hk' : (Cond.classLink own ik cls).before args s' = true := vx_ot_at hW0 hvm.symm (hgood _ List.mem_cons_self) hk
  have hini' : (Cond.initialized cls).before args s' = true := vx_ot_at hW0 hvm.symm (hgood _ (List.mem_cons_of_mem _ List.mem_cons_self)) hini
  have hU' : vx_Zq Bundle.tN "UNASSIGNED_STACK" Bundle.steD A s' s'.heap := by rw [hhp]; exact vx_Zq.moved hW0.alike (hU.kept hS.2.1)
  have hN' : vx_Zq Bundle.tN "SUPPRESSED_SENTINEL" Bundle.listD A s' s'.heap := by rw [hhp]; exact vx_Zq.moved hW0.alike (hN.kept hS.2.1)
  have h : ∀ w ∈ Bundle.ownAtoms own ic cls names, w.before args s' = true := vx_own hat' (vx_isRefq hU'.1) (vx_isRefq hN'.1) hU'.2.word hN'.2.word
  have hown' : s'.vm.findClass own = some m.cls := by rw [hvm]; exact hown
  have hins : (Cond.instantiable cls 6).before args s' = true := h _ (by simp [Bundle.ownAtoms])
  obtain ⟨vm₁, cX, kX, hfX, hkX, -, -, X₁, st1⟩ := Y.newCold hexec (own := own) (C := cls) (index := ik) (n := 6) hown' hk' hins hini'
    (g := F0 m pc ls rest) rfl (by rw [hb]; exact d0) (Nat.le_refl _) (Nat.le_refl _)
  generalize hT1 : (T.setVm vm₁).pushCell { cls := cX, slots := kX.instanceTypes.map defaultValue, vm := .none } = T1 at X₁ st1
  have hcat : (Value.ref T.heap.size).category = 1 := rfl
  have hcellA : T1.heap[T.heap.size]? = some (freshCell cX kX) := by rw [← hT1]; exact State.heap_pushCell_size _ _
  have d3' : decode c.code (pc + 3) = .ok (.dup, 1) := by rw [hb]; exact d3
  have d4' : decode c.code (pc + 4) = .ok (.ldc_w is, 3) := by rw [hb]; exact d4
  have hstr' : vk_R own is text sa s' := vk_R.warm hW0 hstr
  obtain ⟨U, hsteps, hrun, hend, hW, hsame, ce, hce, hO⟩ := X₁.ctorThrowS hexec htr (own := own) (cls := cls) (names := names) (ic := ic) hown' hcls hnames h (fun x hx => nomatch hx) hfX hkX hcellA (by rw [hhp, hT]; exact Nat.le_refl _) (msg := .ref sa) rfl
    (g := { method := m, pc := pc + 7, locals := ls, stack := .ref sa :: .ref T.heap.size :: .ref T.heap.size :: rest, locked := none }) rfl hsize rfl rfl (rest := rest) rfl
    (by rw [hb]; exact d7) (by rw [hb]; exact d10) hout hRframes (by simp only [List.map_cons, List.sum_cons, hcat]; omega) hlocks
  obtain ⟨f1, f2⟩ := vx_frame hsame
  rw [hhp] at f1 f2
  have hWs : s.WarmedH U.vm := State.WarmedH.trans hW0 hW
  have hcl : s.vm.findClass cls = some ce.cls := by
    have h9 := hO.cls
    rw [hvm] at h9
    exact h9
  have hall : s.sameButNew ({ U with vm := s.vm } : State) locs mc ms := by
    subst hA
    obtain ⟨e1, e2⟩ := hsame
    rw [State.setFrames_setFrames] at e1
    have h2 : (T.setVm s.vm).sameButNew ({ U with vm := s.vm } : State) [] (0 + 1) (0 + 6) := ⟨e1, e2⟩
    have h3 := X.same.trans h2
    rw [List.append_nil] at h3
    exact h3.mono hc hs
  refine ⟨U, ?_, .threw T.heap.size, hrun, hend, Or.inr ⟨T.heap.size, rfl, cls, ce, locs, hx U hWs.alike f1 (fun q hq => f2 q hq (fun z hz => nomatch hz)), hce, hO.vm, hcl, hWs, hall, hf⟩⟩
  refine st1 _ ?_
  show Steps p.tables e below (T1.setTop { method := m, pc := pc + 3, locals := ls, stack := .ref T.heap.size :: rest, locked := none }) _
  jvm_step X₁.here [X₁.here.top, hexec, d3', Value.category]
  exact X₁.ldcStringW hexec (own := own) (text := text) (index := is) (a := sa) hown' hstr'.1 hstr'.2
    (g := { method := m, pc := pc + 4, locals := ls, stack := .ref T.heap.size :: .ref T.heap.size :: rest, locked := none }) rfl d4' _ hsteps
end Ends
section Bodies
variable {l : Launch}
theorem vx_ofW {y : MethodName} {ws ws' : List Cond} {rm : Room} {Pc : Array Value → State → Prop} {Qc : Array Value → State → Outcome → State → Prop} {XC : String → State → State → Prop} {mc ms : Nat} {free : Addr → Prop} {cc : ByteArray} {maxL : Nat} {ret : Option FieldType}
    (hy : plainName y.cls = true) (hw : ws = Cond.code y cc maxL ret :: ws')
    (body : ∀ p e s m args below meth c s₁, BodyLoose p l y (headSpec ws rm) cc maxL ret e s m args below meth c s₁ → c.maxLocals = maxL → (∀ x ∈ c.exceptionTable.toList, False) → Pc args s →
      W p l e (headSpec ws rm).room s m args below meth c s.heap [] 0 0 (vx_MQ below Qc XC args s mc ms free) (entryFrame m args maxL)) : vx_Met l y ws rm Pc Qc XC mc ms free := by
  refine MetFree.of_bodyS (code := cc) (maxLocals := maxL) (ret := ret) hy ?_ ?_
  · intro args s m h hn
    obtain ⟨meth, c, h1, h2, h3, h4, h5, h6, -, -⟩ := Cond.code_spec hn (atoms_spec (ws := ws) h _ (by rw [hw]; exact List.mem_cons_self))
    exact ⟨meth, c, h1, h2, h3, h4, h5, h6⟩
  · intro p e s m args below meth c s₁ B hml hP _
    have hh0 : s₁.heap = s.heap := by rw [B.state]; rfl
    have ht : ∀ x ∈ c.exceptionTable.toList, False := by
      obtain ⟨meth9, c9, h1, h2, -, -, -, -, h7, -⟩ := Cond.code_spec B.named (atoms_spec (ws := ws) B.pre _ (by rw [hw]; exact List.mem_cons_self))
      cases Option.some.inj (h1.symm.trans B.method)
      cases Option.some.inj (h2.symm.trans (Stand.of_body B).code)
      intro x hx
      rw [Array.isEmpty_iff.mp h7] at hx
      cases hx
    obtain ⟨t, a1, o, b1, b2, b3⟩ := body p e s m args below meth c s₁ B hml ht hP s₁ hh0 (Stand.of_body B)
    exact ⟨t, o, a1, b1, b2, b3⟩
/-- the table of a body with handlers -/
theorem vx_table {p : Program} {x y : MethodName} {S : Spec} {cc bytes : ByteArray} {maxL maxL' : Nat} {ret ret' : Option FieldType} {e : Env} {s s₁ : State} {m : MethodId} {args : Array Value} {below : List Frame} {meth : Method} {c : Code} {hh : List (Nat × Nat × Nat × Nat)}
    (B : BodyLoose p l y S cc maxL ret e s m args below meth c s₁) (h : (Cond.codeWith y bytes maxL' ret' hh).before args s = true) : c.exceptionTable.toList = tableOf hh := by
  obtain ⟨m9, meth9, c9, hn9, h1, h2, -, -, h6, -⟩ := Cond.codeWith_spec h
  cases Option.some.inj (hn9.symm.trans B.named)
  cases Option.some.inj (h1.symm.trans B.method)
  cases Option.some.inj (h2.symm.trans (Stand.of_body B).code)
  rw [← h6, table_eq]
end Bodies
end VXA
/-! ===== END ===== -/
/-! ===== BEGIN a static call of a method with an exception table ===== -/
section VXS
variable {p : Program} {l : Launch} {e : Env} {R : Room} {s : State} {m : MethodId} {args : Array Value} {below : List Frame} {meth : Method} {c : Code} {T : State} {H : Heap} {locs : List Loc} {cells slots : Nat}
abbrev vx_CSW (R : Room) (s : State) (args : Array Value) (own : String) (index : Nat) (y : MethodName) (bytes : ByteArray) (maxL : Nat) (ret : Option FieldType) (hh : List (Nat × Nat × Nat × Nat)) (ws : List Cond) (rm : Room) (mc ms n : Nat) : Prop :=
  (rm.cells = mc ∧ rm.slots = ms ∧ rm.frames + 1 ≤ R.frames ∧ 8 + (maxL + 11) + rm.locals ≤ R.locals ∧ (∀ w ∈ ws, ∀ (a' : Array Value) (U : State), s.WarmedH U.vm → w.before a' U = true) ∧ Cond.codeWith y bytes maxL ret hh ∈ ws) ∧
  (Cond.codeWith y bytes maxL ret hh).before args s = true ∧ (Cond.initialized y.cls).before args s = true ∧ (y.cls ≠ "java/lang/invoke/MethodHandle" ∧ y.cls ≠ "java/lang/invoke/VarHandle") ∧
  (∀ sig, parseMethodDescriptor y.desc = some sig → n = sig.parameters.length) ∧ (Cond.methodLink own index y).before args s = true ∧ (Cond.static y).before args s = true
theorem vx_cwSW {own : String} {index maxL mc ms : Nat} {y : MethodName} {bytes : ByteArray} {ret : Option FieldType} {hh : List (Nat × Nat × Nat × Nat)} {Ts ws ws' : List Cond} {rm : Room} (n : Nat) (ht : ∀ w ∈ Ts, w.before args s = true) (hT : GoodIn Ts (va_wsS own index y ws)) (hw : ws = Cond.codeWith y bytes maxL ret hh :: ws') (hrc : rm.cells = mc) (hrs : rm.slots = ms)
    (hd : y.cls ≠ "java/lang/invoke/MethodHandle" ∧ y.cls ≠ "java/lang/invoke/VarHandle" ∧ (parseMethodDescriptor y.desc).map (fun d => d.parameters.length) = some n) (hR : rm.frames + 1 ≤ R.frames ∧ 8 + (maxL + 11) + rm.locals ≤ R.locals) :
    vx_CSW R s args own index y bytes maxL ret hh ws rm mc ms n := by
  have ok : ∀ w ∈ va_wsS own index y ws, w.before args s = true := fun w h => ht w (hT w h).1
  have hG : GoodIn Ts ws := fun w h => hT w (by unfold va_wsS; exact List.mem_append_right _ h)
  have hc : Cond.codeWith y bytes maxL ret hh ∈ ws := by rw [hw]; exact List.mem_cons_self
  refine ⟨⟨hrc, hrs, hR.1, hR.2, pay_in ht hG, hc⟩, ht _ (hG _ hc).1, ok _ (by simp [va_wsS]), ⟨hd.1, hd.2.1⟩, fun sig h => ?_, ok _ (by simp [va_wsS]), ok _ (by simp [va_wsS])⟩
  have h2 := hd.2.2
  rw [h] at h2
  exact (Option.some.inj h2).symm
theorem vx_callSW (X : Stand p l e R s m args below meth c T locs cells slots) (hexec : p.tables.exec = Jvm.exec) {own : String} {index : Nat} {y : MethodName} {bytes : ByteArray} {maxL : Nat} {ret : Option FieldType} {hh : List (Nat × Nat × Nat × Nat)}
    (hown : s.vm.findClass own = some m.cls) (hlink : (Cond.methodLink own index y).before args s = true) (hstat : (Cond.static y).before args s = true) (hinit : (Cond.initialized y.cls).before args s = true)
    (hcode : (Cond.codeWith y bytes maxL ret hh).before args s = true) (hy : y.cls ≠ "java/lang/invoke/MethodHandle" ∧ y.cls ≠ "java/lang/invoke/VarHandle")
    {W9 : Nat} {Pre : Pt → Array Value → Prop} {Post : Pt → Array Value → Option Value → Pt → Prop} (hK : Back l R p e below s args y 3 W9 Pre Post)
    {g : JFrame} (hg : g.method = m) (hsize : g.locals.size = c.maxLocals) {argsL rest : List Value} (hlen : ∀ sig, parseMethodDescriptor y.desc = some sig → argsL.length = sig.parameters.length)
    (hstack : g.stack = argsL.reverse ++ rest) (hW : 2 * g.monitorRoom + (rest.map fun v => v.category).sum ≤ W9) (hdg : decode c.code g.pc = .ok (.invokestatic index, 3))
    (hpre : ∀ vm₁, s.WarmedH vm₁ → Pre ⟨T.setVm vm₁, locs, cells, slots⟩ argsL.toArray) :
    ∃ (v : Option Value) (vm₁ : Vm) (B : Pt), s.WarmedH vm₁ ∧ Stand p l e R s m args below meth c B.U B.locs B.cells B.slots ∧ Post ⟨T.setVm vm₁, locs, cells, slots⟩ argsL.toArray v B ∧
      ∀ target, Steps p.tables e below (B.U.setTop { g with pc := g.pc + 3, stack := v.toList ++ rest }) target → Steps p.tables e below (T.setTop g) target := by
  obtain ⟨mk, methM, cM, hnamed, hmethM, -, -, -, -, -, -, hsigM⟩ := Cond.codeWith_spec hcode
  have hstatic : methM.isStatic = true := Cond.static_spec hnamed hmethM hstat
  obtain ⟨kP, hkP, -⟩ := className_of_methodNamed hnamed
  have hinitP : kP.init = .initialized := Cond.initialized_spec (findClass_of_methodNamed hnamed) hkP hinit
  obtain ⟨vm₁, X₁, hstep₁⟩ := X.invokestatic hexec hown hlink hnamed hmethM hstatic hkP hinitP hy (g := g) hg (argsL := argsL) (rest := rest) (hlen _ hsigM) hstack hdg
  obtain ⟨v, B, X', hpost, hsteps⟩ := hK m meth c ⟨T.setVm vm₁, locs, cells, slots⟩ { g with stack := rest } (.invokestatic index) mk argsL.toArray X₁ hg hsize hdg hW (X₁.named hnamed) (hpre vm₁ X₁.warmed)
  exact ⟨v, vm₁, B, X₁.warmed, X', hpost, fun target h => hstep₁ _ fun acts => by rw [doInvoke_state]; exact hsteps.trans h⟩
theorem vx_runSW {y : MethodName} {bytes cc : ByteArray} {maxL nL mc ms n index : Nat} {ret : Option FieldType} {hh : List (Nat × Nat × Nat × Nat)} {ws : List Cond} {rm : Room} {Pc : Array Value → State → Prop} {Qc : Array Value → State → Outcome → State → Prop} {free : Addr → Prop} {Ts : List Cond} {own : String} {As rest : List Value} {g : JFrame}
    (S : CallFix p m c cc nL s args Ts own) (hM : Met l y ws rm Pc Qc mc ms free) (cw : vx_CSW R s args own index y bytes maxL ret hh ws rm mc ms n) (hp : PreS s H Pc As)
    (hg : g.method = m) (hn : As.length = n) (hsize : g.locals.size = nL) (hstack : g.stack = As.reverse ++ rest) (hW : 2 * g.monitorRoom + (rest.map fun v => v.category).sum ≤ 8) (hdg : decode cc g.pc = .ok (.invokestatic index, 3)) (hf : cells + mc ≤ R.cells ∧ slots + ms ≤ R.slots) :
    va_Run p l e R s m args below meth c H locs cells slots mc ms g rest (Qc As.toArray) (free) := by
  obtain ⟨⟨hrc, hrs, hfr, hlo, hws, hcw⟩, hcode, hini, hy, hlen, hl, hstt⟩ := cw
  have hK : Back l R p e below s args y 3 8 (PreOf R mc ms Pc) (PostOf Qc mc ms free) := va_backW (hh := hh) (bytes := bytes) (maxL := maxL) (ret := ret) hM hp.1 hrc hrs hfr hlo hws hcw (fun a' U hW => word_at hW (Or.inl (by first | rfl | simp [Cond.onTables, Cond.keeps, Cond.steady])) hini)
  obtain ⟨hx, hb, hml, ho, -⟩ := S
  intro T hT X
  obtain ⟨v, vm₁, ⟨U', l2, c2, s2⟩, hW₁, X', ⟨g', mk, t, L, e1, e2, hq, h1, hL, h2, h3⟩, st⟩ := vx_callSW X hx (hh := hh) (bytes := bytes) (maxL := maxL) (ret := ret) ho hl hstt hini hcode hy hK hg (hsize.trans hml.symm) (argsL := As) (rest := rest) (fun sig h => hn.trans (hlen sig h)) hstack hW (by rw [hb]; exact hdg)
    (fun vm₁ hW₁ => ⟨hf.1, hf.2, hp.2 (T.setVm vm₁) hT hW₁⟩)
  dsimp only [Pt.U, Pt.locs, Pt.cells, Pt.slots] at X' e1 e2 h1 h2 h3 st
  subst h1; subst h2; subst h3
  exact ⟨v, (T.setVm vm₁).calling g' mk As.toArray, t, U', L, hT, X', hL, e1, e2, hq, st⟩
/-- not caught here, past rows that name other classes: it goes on to the caller -/
theorem vx_outP {p : Program} {l : Launch} {e : Env} {R : Room} {s : State} {m : MethodId} {args : Array Value} {below : List Frame} {meth : Method} {c : Code} {H : Heap} {locs : List Loc} {cells slots : Nat} {free : Addr → Prop} {ls : Array Slot} {rest : List Value} {Qc : Array Value → State → Outcome → State → Prop} {XC : String → State → State → Prop}
    {pc : Nat} {own E : String} {ce : Cell} {q : Addr} {mc ms : Nat} (hown : s.vm.findClass own = some m.cls) (hlocks : meth.locks = false)
    (hpass : ∀ z ∈ c.exceptionTable.toList, covers z pc = false ∨ (z.catchType ≠ 0 ∧ ∃ nm : String, (Cond.classLink own z.catchType nm).before args s = true ∧ va_Nc E nm s)) (hcell : H[q]? = some ce) (hv : ce.vm = .none) (hcl : s.vm.findClass E = some ce.cls)
    (hx : ∀ t : State, t.heap = H → s.vm.Alike t.vm → XC E s t) (hf : ∀ z ∈ locs, free z.base) (hc : cells ≤ mc) (hs : slots ≤ ms) :
    vx_W p l e R s m args below meth c H locs cells slots (vx_MQ below Qc XC args s mc ms free) (F0 m pc ls rest) q := by
  intro T hT X
  have hpl : e.platform.magicAccessors = ({} : Platform).magicAccessors := by rw [X.admits.platform]
  obtain ⟨vm', hW', X', st⟩ := X.outThrough hlocks q (g := F0 m pc ls rest) rfl rfl rfl (cell := ce) (by rw [hT]; exact hcell) (by rw [hv]; rfl)
    (by obtain ⟨k9, h9, -⟩ := Vm.findClass_spec hcl; exact ⟨k9, h9⟩) (fun z hz => by
      rcases hpass z hz with h | ⟨hz0, nm, hl1, hn1⟩
      · exact Or.inl h
      · obtain ⟨c6, hc6, hcl6⟩ := Cond.classLink_spec hown hl1 e.platform hpl
        obtain ⟨a8, b8, h1, h2, h3⟩ := hn1
        cases Option.some.inj (h1.symm.trans hcl)
        cases Option.some.inj (h2.symm.trans hc6)
        exact Or.inr ⟨hz0, _, hcl6, h3⟩)
  obtain ⟨g₀, hfr⟩ := X'.frames_eq
  have hcell9 : ((T.setVm vm').setFrames (.throwing q :: below)).heap[q]? = some ce := by
    show T.heap[q]? = some ce
    rw [hT]; exact hcell
  have hend : Ended ((T.setVm vm').setFrames (.throwing q :: below)) below (.threw q) := State.frames_setFrames _ (State.cur_lt_of_frames hfr)
  refine ⟨(T.setVm vm').setFrames (.throwing q :: below), ?_, .threw q, X'.here.running, hend, Or.inr ⟨q, rfl, E, ce, locs, hx _ hT (X'.ends _).1.alike, hcell9, hv, hcl, (X'.ends _).1, (X'.ends _).2.mono hc hs, hf⟩⟩
  rw [X.pushThrowing_eq]
  exact st
/-- a thing of a world lies in the heap -/
theorem vx_lt {D : va_G} {cl : List vw_C} {ws : va_W} {H1 : Heap} (h : va_P D cl ws H1) {k : Nat} {q : Nat × va_E} (hk : ws[k]? = some q) : q.1 < H1.size := (h k q hk).lt
end VXS
/-! ===== END ===== -/
/-! ===== BEGIN methods with a table of their own: called by a name, returning or throwing ===== -/
section VXH
/-! vx_backW, vx_callVX, vx_callSX, vx_callVW, vx_runVW, vx_runVX, vx_runSX, vx_ofWH follow the same proofs as their sisters above (Free/Laws.lean, Shelf42/LK1.lean); vx_outP calls Shelf42/NT130.lean (outThrough). -/
section
variable {l : Launch} {R : Room} {p : Program} {e : Env} {below : List Frame} {s : State} {sargs : Array Value} {y : MethodName} {len W9 : Nat}
theorem vx_backW {ws : List Cond} {rm : Room} {Pc : Array Value → State → Prop} {Qc : Array Value → State → Outcome → State → Prop} {XC : String → State → State → Prop} {mc ms : Nat} {free : Addr → Prop} {bytes : ByteArray} {maxL : Nat} {ret : Option FieldType} {hh : List (Nat × Nat × Nat × Nat)}
    (hM : vx_Met l y ws rm Pc Qc XC mc ms free) (hblind : FrameBlind Pc) (hrc : rm.cells = mc) (hrs : rm.slots = ms)
    (hframes : rm.frames + 1 ≤ R.frames) (hlocals : W9 + (maxL + 11) + rm.locals ≤ R.locals)
    (hws : ∀ w ∈ ws, ∀ a' U, s.WarmedH U.vm → w.before a' U = true) (hcode : Cond.codeWith y bytes maxL ret hh ∈ ws) (hinit : ∀ a' U, s.WarmedH U.vm → (Cond.initialized y.cls).before a' U = true) :
    vx_Back l R p e below s sargs y len W9 (PreOf R mc ms Pc) (PostOf Qc mc ms free) (vx_Post XC mc ms free) := by
  intro m meth c A g ig mk a X hg hsize hdg hW hn hp
  have h1 : (headSpec ws rm).pre.before a A.U = true := atoms_intro fun w hw => hws w hw _ _ X.warmed
  have h2 : (Cond.codeWith y bytes maxL ret hh).before a A.U = true := hws _ hcode _ _ X.warmed
  have h3 : (Cond.initialized y.cls).before a A.U = true := hinit _ _ X.warmed
  have h4 : A.cells + (headSpec ws rm).room.cells ≤ R.cells := by rw [show (headSpec ws rm).room.cells = mc from hrc]; exact hp.1
  have h5 : A.slots + (headSpec ws rm).room.slots ≤ R.slots := by rw [show (headSpec ws rm).room.slots = ms from hrs]; exact hp.2.1
  have hPc : Pc a (A.U.calling g mk a) := hblind _ _ _ _ hp.2.2
  obtain ⟨U, Ls, c0, s0⟩ := A
  dsimp only [Pt.U, Pt.locs, Pt.cells, Pt.slots] at h1 h2 h3 h4 h5 X hn hPc ⊢
  obtain ⟨m9, methY, cY, hn9, hmY, hcY, -, hlY, -⟩ := Cond.codeWith_spec h2
  cases Option.some.inj (hn9.symm.trans hn)
  obtain ⟨kY, hkY, -⟩ := className_of_methodNamed hn
  have hinitY : kY.init = .initialized := Cond.initialized_spec (findClass_of_methodNamed hn) hkY h3
  have h : At U g.method c below := by rw [hg]; exact X.here
  have hlocals9 : W9 + (maxL + 11) + (headSpec ws rm).room.locals ≤ R.locals := hlocals
  have happ : (headSpec ws rm).appliesLoose y e.platform (U.calling g mk a) = true :=
    Spec.appliesLoose_calling (g := g) h hdg hn hkY hinitY
      (X.room_calling (g := g) (R' := (headSpec ws rm).room) hsize hmY hcY hframes (by rw [hlY]; omega) h4 h5) h1
  obtain ⟨mid, hmid⟩ := h.above
  have hfr : (U.setTop g).frames = (.java g :: mid) ++ below := by rw [State.frames_setTop' g h.top, hmid]; rfl
  obtain ⟨o, s₂, hsteps, -, hend, hq⟩ := Steps.callFree hM p X.admits X.cas X.clock (acts := []) hfr happ hPc trivial
  have hq' : vx_Q Qc XC mc ms free a (U.calling g mk a) o s₂ := hq
  rw [State.frames_setTop' g h.top] at hend
  obtain ⟨g₀, hg0⟩ := Option.isSome_iff_exists.mp h.top
  obtain ⟨r, hr⟩ := State.topJava?_eq_some.mp hg0
  have hr' : (({ U with heap := s₂.heap, slotsUsed := s₂.slotsUsed } : State).setVm s₂.vm).frames = .java g₀ :: r := hr
  rcases hq' with ⟨hqc, L, hfe, hL⟩ | ⟨q, rfl, E, ce, L, hx, hce, hcv, hcl, hW₂, hsm, hL⟩
  · obtain ⟨⟨v, rfl⟩, hW₂, e2, q2, q3, q4, q5, q6⟩ := id hfe
    have e3 : s₂ = ({ (U.calling g mk a).setFrames s₂.frames with heap := s₂.heap, slotsUsed := s₂.slotsUsed } : State).setVm s₂.vm := by
      have : s₂ = ({ s₂ with vm := (U.calling g mk a).vm } : State).setVm s₂.vm := rfl
      rw [e2] at this
      exact this
    obtain ⟨c₂, i₂, len₂, hc₂, hd₂, hf₂⟩ := hend
    have hW' : U.WarmedH s₂.vm := hW₂
    have hcc : c₂ = c := by
      have h1 : s₂.code? g.method = U.code? g.method := by
        rw [State.code?_eq, State.code?_eq, hW'.alike.method?]
      exact Option.some.inj (hc₂.symm.trans (h1.trans h.code))
    subst hcc
    have hlen : len₂ = len := by rw [hdg] at hd₂; cases hd₂; rfl
    subst hlen
    have hs₂ : s₂ = (({ U with heap := s₂.heap, slotsUsed := s₂.slotsUsed } : State).setVm s₂.vm).setTop { g with pc := g.pc + len₂, stack := v.toList ++ g.stack } := by
      refine e3.trans ?_
      rw [hf₂, State.calling_eq h.top, State.setFrames_setFrames, State.setTop_of_frames _ hr', hr]
      rfl
    have hsame : U.sameButNew ({ U with heap := s₂.heap, slotsUsed := s₂.slotsUsed } : State) L mc ms := by
      refine ⟨?_, q2, q3, q4, q5, q6⟩
      obtain ⟨t, ht, -⟩ := State.frames_cons hr
      show ({ U with heap := s₂.heap, slotsUsed := s₂.slotsUsed } : State) = { U.setFrames U.frames with heap := s₂.heap, slotsUsed := s₂.slotsUsed }
      rw [State.setFrames_self ht]
    subst hg
    refine Or.inl ⟨v, ⟨(({ U with heap := s₂.heap, slotsUsed := s₂.slotsUsed } : State).setVm s₂.vm), Ls ++ L, c0 + mc, s0 + ms⟩,
      ⟨X.admits, X.cas, X.clock, X.frames, X.room, X.hears, X.method, X.code, (X.here.setHeapUsed s₂.heap s₂.slotsUsed).setVm hW'.alike, X.tail, State.WarmedH.trans X.warmed hW', X.limits, X.bytes, X.same.trans (hsame.setVm s.vm)⟩,
      ⟨g, mk, s₂, L, rfl, rfl, hqc, rfl, hL, rfl, rfl⟩, ?_⟩
    show Steps p.tables e below _ ((({ U with heap := s₂.heap, slotsUsed := s₂.slotsUsed } : State).setVm s₂.vm).setTop { g with pc := g.pc + len₂, stack := v.toList ++ g.stack })
    rw [← hs₂]
    exact hsteps
  · obtain ⟨e2, q2, q3, q4, q5, q6⟩ := id hsm
    have e3 : s₂ = ({ (U.calling g mk a).setFrames s₂.frames with heap := s₂.heap, slotsUsed := s₂.slotsUsed } : State).setVm s₂.vm := by
      have : s₂ = ({ s₂ with vm := (U.calling g mk a).vm } : State).setVm s₂.vm := rfl
      rw [e2] at this
      exact this
    have hf₂ : s₂.frames = .throwing q :: .java g :: U.frames.tail := hend
    have hW' : U.WarmedH s₂.vm := hW₂
    have hs₂ : s₂ = ((({ U with heap := s₂.heap, slotsUsed := s₂.slotsUsed } : State).setVm s₂.vm).setTop g).pushFrame (.throwing q) := by
      refine e3.trans ?_
      rw [hf₂, State.calling_eq h.top, State.setFrames_setFrames, State.pushFrame, State.frames_setTop _ hr', State.setTop_of_frames _ hr', State.setFrames_setFrames, hr]
      rfl
    have hsame : U.sameButNew ({ U with heap := s₂.heap, slotsUsed := s₂.slotsUsed } : State) L mc ms := by
      refine ⟨?_, q2, q3, q4, q5, q6⟩
      obtain ⟨t, ht, -⟩ := State.frames_cons hr
      show ({ U with heap := s₂.heap, slotsUsed := s₂.slotsUsed } : State) = { U.setFrames U.frames with heap := s₂.heap, slotsUsed := s₂.slotsUsed }
      rw [State.setFrames_self ht]
    subst hg
    refine Or.inr ⟨q, ⟨(({ U with heap := s₂.heap, slotsUsed := s₂.slotsUsed } : State).setVm s₂.vm), Ls ++ L, c0 + mc, s0 + ms⟩,
      ⟨X.admits, X.cas, X.clock, X.frames, X.room, X.hears, X.method, X.code, (X.here.setHeapUsed s₂.heap s₂.slotsUsed).setVm hW'.alike, X.tail, State.WarmedH.trans X.warmed hW', X.limits, X.bytes, X.same.trans (hsame.setVm s.vm)⟩,
      ⟨g, mk, s₂, L, E, ce, rfl, rfl, hx, hce, hcv, hcl, rfl, hL, rfl, rfl⟩, ?_⟩
    show Steps p.tables e below _ (((({ U with heap := s₂.heap, slotsUsed := s₂.slotsUsed } : State).setVm s₂.vm).setTop g).pushFrame (.throwing q))
    rw [← hs₂]
    exact hsteps
end
variable {p : Program} {l : Launch} {e : Env} {R : Room} {s : State} {m : MethodId} {args : Array Value} {below : List Frame} {meth : Method} {c : Code} {T : State} {H : Heap} {locs : List Loc} {cells slots : Nat}
theorem vx_callVX (X : Stand p l e R s m args below meth c T locs cells slots) (hexec : p.tables.exec = Jvm.exec) {own C : String} {index : Nat} {y : MethodName} {bytes : ByteArray} {maxL : Nat} {ret : Option FieldType} {hh : List (Nat × Nat × Nat × Nat)}
    (hown : s.vm.findClass own = some m.cls) (hlink : (Cond.methodLink own index y).before args s = true) (hinst : (Cond.instanceMethod y).before args s = true) (hsel : (Cond.selects C y y).before args s = true)
    (hcode : (Cond.codeWith y bytes maxL ret hh).before args s = true) (hy : y.cls ≠ "java/lang/invoke/MethodHandle" ∧ y.cls ≠ "java/lang/invoke/VarHandle")
    {W9 : Nat} {Pre : Pt → Array Value → Prop} {Post : Pt → Array Value → Option Value → Pt → Prop} {PostX : Pt → Array Value → Addr → Pt → Prop} (hK : vx_Back l R p e below s args y 3 W9 Pre Post PostX)
    {b : Addr} {cellB : Cell} (hcell : T.heap[b]? = some cellB) (hobj : cellB.vm.isStatics = false) (hcls : s.vm.findClass C = some cellB.cls)
    {g : JFrame} (hg : g.method = m) (hsize : g.locals.size = c.maxLocals) {argsL rest : List Value} (hlen : ∀ sig, parseMethodDescriptor y.desc = some sig → argsL.length = sig.parameters.length)
    (hstack : g.stack = argsL.reverse ++ .ref b :: rest) (hW : 2 * g.monitorRoom + (rest.map fun v => v.category).sum ≤ W9) (hdg : decode c.code g.pc = .ok (.invokevirtual index, 3))
    (hpre : ∀ vm₁, s.WarmedH vm₁ → Pre ⟨T.setVm vm₁, locs, cells, slots⟩ (Value.ref b :: argsL).toArray) :
    (∃ (v : Option Value) (vm₁ : Vm) (B : Pt), s.WarmedH vm₁ ∧ Stand p l e R s m args below meth c B.U B.locs B.cells B.slots ∧ Post ⟨T.setVm vm₁, locs, cells, slots⟩ (Value.ref b :: argsL).toArray v B ∧
      ∀ target, Steps p.tables e below (B.U.setTop { g with pc := g.pc + 3, stack := v.toList ++ rest }) target → Steps p.tables e below (T.setTop g) target) ∨
    (∃ (q : Addr) (vm₁ : Vm) (B : Pt), s.WarmedH vm₁ ∧ Stand p l e R s m args below meth c B.U B.locs B.cells B.slots ∧ PostX ⟨T.setVm vm₁, locs, cells, slots⟩ (Value.ref b :: argsL).toArray q B ∧
      Steps p.tables e below (T.setTop g) ((B.U.setTop { g with stack := rest }).pushFrame (.throwing q))) := by
  obtain ⟨mk, methM, hnamed, hmethM, hstM, habM⟩ := Cond.instanceMethod_spec hinst
  obtain ⟨m8, methM', cM, hn8, hmethM', -, -, -, -, -, -, hsigM⟩ := Cond.codeWith_spec hcode
  cases Option.some.inj (hn8.symm.trans hnamed)
  cases hmethM.symm.trans hmethM'
  obtain ⟨c2, r2, m2, q1, q2, q3, q4, kP, hkP, hkPi⟩ := Cond.selects_spec hsel
  cases hcls.symm.trans q1
  cases (State.methodFound?_of_named hnamed hy).symm.trans q2
  cases hnamed.symm.trans q3
  have hselP : selectMethod e.platform s.vm cellB.cls mk = .method mk := by rw [Launch.admits_selectMethod X.admits]; exact q4
  obtain ⟨vm₁, X₁, hstep₁⟩ := X.invokevirtual hexec hown hlink hnamed hmethM hstM hkP hkPi hy (a := b) (cell := cellB) hcell
    (fun z h => by rw [h] at hobj; cases hobj) hselP hmethM habM hkP hkPi (g := g) hg (argsL := argsL) (rest := rest) (hlen _ hsigM) hstack hdg
  rcases hK m meth c ⟨T.setVm vm₁, locs, cells, slots⟩ { g with stack := rest } (.invokevirtual index) mk (Value.ref b :: argsL).toArray X₁ hg hsize hdg hW (X₁.named hnamed) (hpre vm₁ X₁.warmed) with ⟨v, B, X', hpost, hsteps⟩ | ⟨q, B, X', hpost, hsteps⟩
  · exact Or.inl ⟨v, vm₁, B, X₁.warmed, X', hpost, fun target h => hstep₁ _ fun acts => by rw [doInvoke_state]; exact hsteps.trans h⟩
  · exact Or.inr ⟨q, vm₁, B, X₁.warmed, X', hpost, hstep₁ _ fun acts => by rw [doInvoke_state]; exact hsteps⟩
theorem vx_callSX (X : Stand p l e R s m args below meth c T locs cells slots) (hexec : p.tables.exec = Jvm.exec) {own : String} {index : Nat} {y : MethodName} {bytes : ByteArray} {maxL : Nat} {ret : Option FieldType} {hh : List (Nat × Nat × Nat × Nat)}
    (hown : s.vm.findClass own = some m.cls) (hlink : (Cond.methodLink own index y).before args s = true) (hstat : (Cond.static y).before args s = true) (hinit : (Cond.initialized y.cls).before args s = true)
    (hcode : (Cond.codeWith y bytes maxL ret hh).before args s = true) (hy : y.cls ≠ "java/lang/invoke/MethodHandle" ∧ y.cls ≠ "java/lang/invoke/VarHandle")
    {W9 : Nat} {Pre : Pt → Array Value → Prop} {Post : Pt → Array Value → Option Value → Pt → Prop} {PostX : Pt → Array Value → Addr → Pt → Prop} (hK : vx_Back l R p e below s args y 3 W9 Pre Post PostX)
    {g : JFrame} (hg : g.method = m) (hsize : g.locals.size = c.maxLocals) {argsL rest : List Value} (hlen : ∀ sig, parseMethodDescriptor y.desc = some sig → argsL.length = sig.parameters.length)
    (hstack : g.stack = argsL.reverse ++ rest) (hW : 2 * g.monitorRoom + (rest.map fun v => v.category).sum ≤ W9) (hdg : decode c.code g.pc = .ok (.invokestatic index, 3))
    (hpre : ∀ vm₁, s.WarmedH vm₁ → Pre ⟨T.setVm vm₁, locs, cells, slots⟩ argsL.toArray) :
    (∃ (v : Option Value) (vm₁ : Vm) (B : Pt), s.WarmedH vm₁ ∧ Stand p l e R s m args below meth c B.U B.locs B.cells B.slots ∧ Post ⟨T.setVm vm₁, locs, cells, slots⟩ argsL.toArray v B ∧
      ∀ target, Steps p.tables e below (B.U.setTop { g with pc := g.pc + 3, stack := v.toList ++ rest }) target → Steps p.tables e below (T.setTop g) target) ∨
    (∃ (q : Addr) (vm₁ : Vm) (B : Pt), s.WarmedH vm₁ ∧ Stand p l e R s m args below meth c B.U B.locs B.cells B.slots ∧ PostX ⟨T.setVm vm₁, locs, cells, slots⟩ argsL.toArray q B ∧
      Steps p.tables e below (T.setTop g) ((B.U.setTop { g with stack := rest }).pushFrame (.throwing q))) := by
  obtain ⟨mk, methM, cM, hnamed, hmethM, -, -, -, -, -, -, hsigM⟩ := Cond.codeWith_spec hcode
  have hstatic : methM.isStatic = true := Cond.static_spec hnamed hmethM hstat
  obtain ⟨kP, hkP, -⟩ := className_of_methodNamed hnamed
  have hinitP : kP.init = .initialized := Cond.initialized_spec (findClass_of_methodNamed hnamed) hkP hinit
  obtain ⟨vm₁, X₁, hstep₁⟩ := X.invokestatic hexec hown hlink hnamed hmethM hstatic hkP hinitP hy (g := g) hg (argsL := argsL) (rest := rest) (hlen _ hsigM) hstack hdg
  rcases hK m meth c ⟨T.setVm vm₁, locs, cells, slots⟩ { g with stack := rest } (.invokestatic index) mk argsL.toArray X₁ hg hsize hdg hW (X₁.named hnamed) (hpre vm₁ X₁.warmed) with ⟨v, B, X', hpost, hsteps⟩ | ⟨q, B, X', hpost, hsteps⟩
  · exact Or.inl ⟨v, vm₁, B, X₁.warmed, X', hpost, fun target h => hstep₁ _ fun acts => by rw [doInvoke_state]; exact hsteps.trans h⟩
  · exact Or.inr ⟨q, vm₁, B, X₁.warmed, X', hpost, hstep₁ _ fun acts => by rw [doInvoke_state]; exact hsteps⟩
theorem vx_callVW (X : Stand p l e R s m args below meth c T locs cells slots) (hexec : p.tables.exec = Jvm.exec) {own C : String} {index : Nat} {y : MethodName} {bytes : ByteArray} {maxL : Nat} {ret : Option FieldType} {hh : List (Nat × Nat × Nat × Nat)}
    (hown : s.vm.findClass own = some m.cls) (hlink : (Cond.methodLink own index y).before args s = true) (hinst : (Cond.instanceMethod y).before args s = true) (hsel : (Cond.selects C y y).before args s = true)
    (hcode : (Cond.codeWith y bytes maxL ret hh).before args s = true) (hy : y.cls ≠ "java/lang/invoke/MethodHandle" ∧ y.cls ≠ "java/lang/invoke/VarHandle")
    {W9 : Nat} {Pre : Pt → Array Value → Prop} {Post : Pt → Array Value → Option Value → Pt → Prop} (hK : Back l R p e below s args y 3 W9 Pre Post)
    {b : Addr} {cellB : Cell} (hcell : T.heap[b]? = some cellB) (hobj : cellB.vm.isStatics = false) (hcls : s.vm.findClass C = some cellB.cls)
    {g : JFrame} (hg : g.method = m) (hsize : g.locals.size = c.maxLocals) {argsL rest : List Value} (hlen : ∀ sig, parseMethodDescriptor y.desc = some sig → argsL.length = sig.parameters.length)
    (hstack : g.stack = argsL.reverse ++ .ref b :: rest) (hW : 2 * g.monitorRoom + (rest.map fun v => v.category).sum ≤ W9) (hdg : decode c.code g.pc = .ok (.invokevirtual index, 3))
    (hpre : ∀ vm₁, s.WarmedH vm₁ → Pre ⟨T.setVm vm₁, locs, cells, slots⟩ (Value.ref b :: argsL).toArray) :
    ∃ (v : Option Value) (vm₁ : Vm) (B : Pt), s.WarmedH vm₁ ∧ Stand p l e R s m args below meth c B.U B.locs B.cells B.slots ∧ Post ⟨T.setVm vm₁, locs, cells, slots⟩ (Value.ref b :: argsL).toArray v B ∧
      ∀ target, Steps p.tables e below (B.U.setTop { g with pc := g.pc + 3, stack := v.toList ++ rest }) target → Steps p.tables e below (T.setTop g) target := by
  obtain ⟨mk, methM, hnamed, hmethM, hstM, habM⟩ := Cond.instanceMethod_spec hinst
  obtain ⟨m8, methM', cM, hn8, hmethM', -, -, -, -, -, -, hsigM⟩ := Cond.codeWith_spec hcode
  cases Option.some.inj (hn8.symm.trans hnamed)
  cases hmethM.symm.trans hmethM'
  obtain ⟨c2, r2, m2, q1, q2, q3, q4, kP, hkP, hkPi⟩ := Cond.selects_spec hsel
  cases hcls.symm.trans q1
  cases (State.methodFound?_of_named hnamed hy).symm.trans q2
  cases hnamed.symm.trans q3
  have hselP : selectMethod e.platform s.vm cellB.cls mk = .method mk := by rw [Launch.admits_selectMethod X.admits]; exact q4
  obtain ⟨vm₁, X₁, hstep₁⟩ := X.invokevirtual hexec hown hlink hnamed hmethM hstM hkP hkPi hy (a := b) (cell := cellB) hcell
    (fun z h => by rw [h] at hobj; cases hobj) hselP hmethM habM hkP hkPi (g := g) hg (argsL := argsL) (rest := rest) (hlen _ hsigM) hstack hdg
  obtain ⟨v, B, X', hpost, hsteps⟩ := hK m meth c ⟨T.setVm vm₁, locs, cells, slots⟩ { g with stack := rest } (.invokevirtual index) mk (Value.ref b :: argsL).toArray X₁ hg hsize hdg hW (X₁.named hnamed) (hpre vm₁ X₁.warmed)
  exact ⟨v, vm₁, B, X₁.warmed, X', hpost, fun target h => hstep₁ _ fun acts => by rw [doInvoke_state]; exact hsteps.trans h⟩
abbrev vx_CVW (R : Room) (s : State) (args : Array Value) (own C : String) (index : Nat) (y : MethodName) (bytes : ByteArray) (maxL : Nat) (ret : Option FieldType) (hh : List (Nat × Nat × Nat × Nat)) (ws : List Cond) (rm : Room) (mc ms n : Nat) : Prop :=
  (rm.cells = mc ∧ rm.slots = ms ∧ rm.frames + 1 ≤ R.frames ∧ 8 + (maxL + 11) + rm.locals ≤ R.locals ∧ (∀ w ∈ ws, ∀ (a' : Array Value) (U : State), s.WarmedH U.vm → w.before a' U = true) ∧ Cond.codeWith y bytes maxL ret hh ∈ ws) ∧
  (Cond.codeWith y bytes maxL ret hh).before args s = true ∧ (Cond.initialized y.cls).before args s = true ∧ (y.cls ≠ "java/lang/invoke/MethodHandle" ∧ y.cls ≠ "java/lang/invoke/VarHandle") ∧
  (∀ sig, parseMethodDescriptor y.desc = some sig → n = sig.parameters.length) ∧ (Cond.methodLink own index y).before args s = true ∧ (Cond.instanceMethod y).before args s = true ∧ (Cond.selects C y y).before args s = true
theorem vx_cwVW {own C : String} {index maxL mc ms : Nat} {y : MethodName} {bytes : ByteArray} {ret : Option FieldType} {hh : List (Nat × Nat × Nat × Nat)} {Ts ws ws' : List Cond} {rm : Room} (n : Nat) (ht : ∀ w ∈ Ts, w.before args s = true) (hT : GoodIn Ts (wsV own index C y ws)) (hw : ws = Cond.codeWith y bytes maxL ret hh :: ws') (hrc : rm.cells = mc) (hrs : rm.slots = ms)
    (hd : y.cls = C ∧ y.cls ≠ "java/lang/invoke/MethodHandle" ∧ y.cls ≠ "java/lang/invoke/VarHandle" ∧ (parseMethodDescriptor y.desc).map (fun d => d.parameters.length) = some n) (hR : rm.frames + 1 ≤ R.frames ∧ 8 + (maxL + 11) + rm.locals ≤ R.locals) :
    vx_CVW R s args own C index y bytes maxL ret hh ws rm mc ms n := by
  obtain ⟨hC, hd⟩ := hd
  subst hC
  have ok : ∀ w ∈ wsV own index y.cls y ws, w.before args s = true := fun w h => ht w (hT w h).1
  have hG : GoodIn Ts ws := fun w h => hT w (by unfold wsV; exact List.mem_append_right _ h)
  have hc : Cond.codeWith y bytes maxL ret hh ∈ ws := by rw [hw]; exact List.mem_cons_self
  refine ⟨⟨hrc, hrs, hR.1, hR.2, pay_in ht hG, hc⟩, ht _ (hG _ hc).1, ok _ (by simp [wsV]), ⟨hd.1, hd.2.1⟩, fun sig h => ?_, ok _ (by simp [wsV]), ok _ (by simp [wsV]), ok _ (by simp [wsV])⟩
  have h2 := hd.2.2
  rw [h] at h2
  exact (Option.some.inj h2).symm
theorem vx_runVW {y : MethodName} {bytes cc : ByteArray} {maxL nL mc ms n index : Nat} {ret : Option FieldType} {hh : List (Nat × Nat × Nat × Nat)} {ws : List Cond} {rm : Room} {Pc : Array Value → State → Prop} {Qc : Array Value → State → Outcome → State → Prop} {free : Addr → Prop} {Ts : List Cond} {own C : String} {b : Addr} {As rest : List Value} {g : JFrame}
    (S : CallFix p m c cc nL s args Ts own) (hM : Met l y ws rm Pc Qc mc ms free) (cw : vx_CVW R s args own C index y bytes maxL ret hh ws rm mc ms n) (hp : PreV s H C b Pc As)
    (hg : g.method = m) (hn : As.length = n) (hsize : g.locals.size = nL) (hstack : g.stack = As.reverse ++ .ref b :: rest) (hW : 2 * g.monitorRoom + (rest.map fun v => v.category).sum ≤ 8) (hdg : decode cc g.pc = .ok (.invokevirtual index, 3)) (hf : cells + mc ≤ R.cells ∧ slots + ms ≤ R.slots) :
    va_Run p l e R s m args below meth c H locs cells slots mc ms g rest (Qc (Value.ref b :: As).toArray) free := by
  obtain ⟨⟨hrc, hrs, hfr, hlo, hws, hcw⟩, hcode, hini, hy, hlen, hl, hin, hse⟩ := cw
  have hK : Back l R p e below s args y 3 8 (PreOf R mc ms Pc) (PostOf Qc mc ms free) := va_backW (hh := hh) (bytes := bytes) (maxL := maxL) (ret := ret) hM hp.1 hrc hrs hfr hlo hws hcw (fun a' U hW => word_at hW (Or.inl (by first | rfl | simp [Cond.onTables, Cond.keeps, Cond.steady])) hini)
  obtain ⟨hx, hb, hml, ho, -⟩ := S
  obtain ⟨-, ⟨cellB, hcB, hoB, hclB⟩, hPc⟩ := hp
  intro T hT X
  obtain ⟨v, vm₁, ⟨U', l2, c2, s2⟩, hW₁, X', ⟨g', mk, t, L, e1, e2, hq, h1, hL, h2, h3⟩, st⟩ := vx_callVW X hx (C := C) (hh := hh) (bytes := bytes) (maxL := maxL) (ret := ret) ho hl hin hse hcode hy hK (by rw [hT]; exact hcB) hoB hclB hg (hsize.trans hml.symm) (argsL := As) (rest := rest) (fun sig h => hn.trans (hlen sig h)) hstack hW (by rw [hb]; exact hdg)
    (fun vm₁ hW₁ => ⟨hf.1, hf.2, hPc (T.setVm vm₁) hT hW₁⟩)
  dsimp only [Pt.U, Pt.locs, Pt.cells, Pt.slots] at X' e1 e2 h1 h2 h3 st
  subst h1; subst h2; subst h3
  exact ⟨v, (T.setVm vm₁).calling g' mk (Value.ref b :: As).toArray, t, U', L, hT, X', hL, e1, e2, hq, st⟩
section
variable {y : MethodName} {bytes cc : ByteArray} {maxL nL mc ms n index : Nat} {ret : Option FieldType} {ws : List Cond} {rm : Room} {Pc : Array Value → State → Prop} {Qc : Array Value → State → Outcome → State → Prop} {XC : String → State → State → Prop} {free : Addr → Prop} {Ts : List Cond} {own C : String} {b : Addr} {As rest : List Value} {g : JFrame}
theorem vx_runVX {hh : List (Nat × Nat × Nat × Nat)} (S : CallFix p m c cc nL s args Ts own) (hM : vx_Met l y ws rm Pc Qc XC mc ms free) (cw : vx_CVW R s args own C index y bytes maxL ret hh ws rm mc ms n) (hp : PreV s H C b Pc As)
    (hg : g.method = m) (hn : As.length = n) (hsize : g.locals.size = nL) (hstack : g.stack = As.reverse ++ .ref b :: rest) (hW : 2 * g.monitorRoom + (rest.map fun v => v.category).sum ≤ 8) (hdg : decode cc g.pc = .ok (.invokevirtual index, 3)) (hf : cells + mc ≤ R.cells ∧ slots + ms ≤ R.slots) :
    vx_Run p l e R s m args below meth c H locs cells slots mc ms g rest (Qc (Value.ref b :: As).toArray) XC free := by
  obtain ⟨⟨hrc, hrs, hfr, hlo, hws, hcw⟩, hcode, hini, hy, hlen, hl, hin, hse⟩ := cw
  have hK : vx_Back l R p e below s args y 3 8 (PreOf R mc ms Pc) (PostOf Qc mc ms free) (vx_Post XC mc ms free) := vx_backW (hh := hh) (bytes := bytes) (maxL := maxL) (ret := ret) hM hp.1 hrc hrs hfr hlo hws hcw (fun a' U hW => word_at hW (Or.inl (by first | rfl | simp [Cond.onTables, Cond.keeps, Cond.steady])) hini)
  obtain ⟨hx, hb, hml, ho, -⟩ := S
  obtain ⟨-, ⟨cellB, hcB, hoB, hclB⟩, hPc⟩ := hp
  intro T hT X
  rcases vx_callVX X hx (C := C) (hh := hh) (bytes := bytes) (maxL := maxL) (ret := ret) ho hl hin hse hcode hy hK (by rw [hT]; exact hcB) hoB hclB hg (hsize.trans hml.symm) (argsL := As) (rest := rest) (fun sig h => hn.trans (hlen sig h)) hstack hW (by rw [hb]; exact hdg)
    (fun vm₁ hW₁ => ⟨hf.1, hf.2, hPc (T.setVm vm₁) hT hW₁⟩) with ⟨v, vm₁, ⟨U', l2, c2, s2⟩, hW₁, X', ⟨g', mk, t, L, e1, e2, hq, h1, hL, h2, h3⟩, st⟩ | ⟨q, vm₁, ⟨U', l2, c2, s2⟩, hW₁, X', ⟨g', mk, t, L, E, ce, e1, e2, hq, hce, hcv, hcl, h1, hL, h2, h3⟩, st⟩
  · dsimp only [Pt.U, Pt.locs, Pt.cells, Pt.slots] at X' e1 e2 h1 h2 h3 st
    subst h1; subst h2; subst h3
    exact Or.inl ⟨v, (T.setVm vm₁).calling g' mk (Value.ref b :: As).toArray, t, U', L, hT, X', hL, e1, e2, hq, st⟩
  · dsimp only [Pt.U, Pt.locs, Pt.cells, Pt.slots] at X' e1 e2 h1 h2 h3 st hcl
    subst h1; subst h2; subst h3
    exact Or.inr ⟨q, (T.setVm vm₁).calling g' mk (Value.ref b :: As).toArray, t, U', L, E, ce, hT, X', hL, e1, e2, hq, hce, hcv, vx_cls hW₁ hcl, st⟩
theorem vx_runSX {hh : List (Nat × Nat × Nat × Nat)} (S : CallFix p m c cc nL s args Ts own) (hM : vx_Met l y ws rm Pc Qc XC mc ms free) (cw : vx_CSW R s args own index y bytes maxL ret hh ws rm mc ms n) (hp : PreS s H Pc As)
    (hg : g.method = m) (hn : As.length = n) (hsize : g.locals.size = nL) (hstack : g.stack = As.reverse ++ rest) (hW : 2 * g.monitorRoom + (rest.map fun v => v.category).sum ≤ 8) (hdg : decode cc g.pc = .ok (.invokestatic index, 3)) (hf : cells + mc ≤ R.cells ∧ slots + ms ≤ R.slots) :
    vx_Run p l e R s m args below meth c H locs cells slots mc ms g rest (Qc As.toArray) XC free := by
  obtain ⟨⟨hrc, hrs, hfr, hlo, hws, hcw⟩, hcode, hini, hy, hlen, hl, hstt⟩ := cw
  have hK : vx_Back l R p e below s args y 3 8 (PreOf R mc ms Pc) (PostOf Qc mc ms free) (vx_Post XC mc ms free) := vx_backW (hh := hh) (bytes := bytes) (maxL := maxL) (ret := ret) hM hp.1 hrc hrs hfr hlo hws hcw (fun a' U hW => word_at hW (Or.inl (by first | rfl | simp [Cond.onTables, Cond.keeps, Cond.steady])) hini)
  obtain ⟨hx, hb, hml, ho, -⟩ := S
  intro T hT X
  rcases vx_callSX X hx (hh := hh) (bytes := bytes) (maxL := maxL) (ret := ret) ho hl hstt hini hcode hy hK hg (hsize.trans hml.symm) (argsL := As) (rest := rest) (fun sig h => hn.trans (hlen sig h)) hstack hW (by rw [hb]; exact hdg)
    (fun vm₁ hW₁ => ⟨hf.1, hf.2, hp.2 (T.setVm vm₁) hT hW₁⟩) with ⟨v, vm₁, ⟨U', l2, c2, s2⟩, hW₁, X', ⟨g', mk, t, L, e1, e2, hq, h1, hL, h2, h3⟩, st⟩ | ⟨q, vm₁, ⟨U', l2, c2, s2⟩, hW₁, X', ⟨g', mk, t, L, E, ce, e1, e2, hq, hce, hcv, hcl, h1, hL, h2, h3⟩, st⟩
  · dsimp only [Pt.U, Pt.locs, Pt.cells, Pt.slots] at X' e1 e2 h1 h2 h3 st
    subst h1; subst h2; subst h3
    exact Or.inl ⟨v, (T.setVm vm₁).calling g' mk As.toArray, t, U', L, hT, X', hL, e1, e2, hq, st⟩
  · dsimp only [Pt.U, Pt.locs, Pt.cells, Pt.slots] at X' e1 e2 h1 h2 h3 st hcl
    subst h1; subst h2; subst h3
    exact Or.inr ⟨q, (T.setVm vm₁).calling g' mk As.toArray, t, U', L, E, ce, hT, X', hL, e1, e2, hq, hce, hcv, vx_cls hW₁ hcl, st⟩
end
end VXH
theorem vx_ofWH {l : Launch} {y : MethodName} {ws ws' : List Cond} {rm : Room} {Pc : Array Value → State → Prop} {Qc : Array Value → State → Outcome → State → Prop} {XC : String → State → State → Prop} {mc ms : Nat} {free : Addr → Prop} {cc : ByteArray} {maxL : Nat} {ret : Option FieldType} {hh : List (Nat × Nat × Nat × Nat)}
    (hy : plainName y.cls = true) (hw : ws = Cond.codeWith y cc maxL ret hh :: ws')
    (body : ∀ p e s m args below meth c s₁, BodyLoose p l y (headSpec ws rm) cc maxL ret e s m args below meth c s₁ → c.maxLocals = maxL → Pc args s →
      W p l e (headSpec ws rm).room s m args below meth c s.heap [] 0 0 (vx_MQ below Qc XC args s mc ms free) (entryFrame m args maxL)) : vx_Met l y ws rm Pc Qc XC mc ms free := by
  refine MetFree.of_bodyS (code := cc) (maxLocals := maxL) (ret := ret) hy ?_ ?_
  · intro args s m h hn
    obtain ⟨m9, meth, c, hn9, h1, h2, h3, h4, -, h5, h6, -⟩ := Cond.codeWith_spec (atoms_spec (ws := ws) h _ (by rw [hw]; exact List.mem_cons_self))
    cases hn.symm.trans hn9
    exact ⟨meth, c, h1, h2, h3, h4, h5, h6⟩
  · intro p e s m args below meth c s₁ B hml hP _
    have hh0 : s₁.heap = s.heap := by rw [B.state]; rfl
    obtain ⟨t, a1, o, b1, b2, b3⟩ := body p e s m args below meth c s₁ B hml hP s₁ hh0 (Stand.of_body B)
    exact ⟨t, o, a1, b1, b2, b3⟩
/-! ===== END ===== -/
end
section
-- digits of 32 bits of a number
def dg (v j : Nat) : Nat := v / 2 ^ (32 * j) % 4294967296
theorem dg_lt (v j : Nat) : dg v j < 4294967296 := Nat.mod_lt _ (by decide)
theorem pw_pos (i : Nat) : 0 < 2 ^ i := Nat.two_pow_pos i
theorem pw_s (i : Nat) : 2 ^ (32 * (i + 1)) = 2 ^ (32 * i) * 4294967296 := by
  rw [Nat.mul_add, Nat.pow_add]
theorem pw_le {i j : Nat} (h : i ≤ j) : 2 ^ i ≤ 2 ^ j := Nat.pow_le_pow_right (by decide) h
theorem dg_mods (v i : Nat) : v % 2 ^ (32 * (i + 1)) = v % 2 ^ (32 * i) + 2 ^ (32 * i) * dg v i := by
  rw [pw_s, Nat.mod_mul]; rfl
theorem dg_divs (v i : Nat) : v / 2 ^ (32 * i) = 4294967296 * (v / 2 ^ (32 * (i + 1))) + dg v i := by
  rw [pw_s, ← Nat.div_div_eq_div_mul]
  exact (Nat.div_add_mod _ _).symm
theorem dg_lo {r d i j : Nat} (h : j < i) : dg (r + 2 ^ (32 * i) * d) j = dg r j := by
  obtain ⟨k, rfl⟩ : ∃ k, i = j + k + 1 := ⟨i - j - 1, by omega⟩
  unfold dg
  have e : 2 ^ (32 * (j + k + 1)) * d = 2 ^ (32 * j) * (4294967296 * (2 ^ (32 * k) * d)) := by
    rw [show 32 * (j + k + 1) = 32 * j + (32 + 32 * k) by omega, Nat.pow_add, Nat.pow_add, Nat.mul_assoc, Nat.mul_assoc]
  rw [e, Nat.add_mul_div_left _ _ (pw_pos _), Nat.add_mul_mod_self_left]
theorem dg_hi {r d i : Nat} (hr : r < 2 ^ (32 * i)) (hd : d < 4294967296) : dg (r + 2 ^ (32 * i) * d) i = d := by
  unfold dg
  rw [Nat.add_mul_div_left _ _ (pw_pos _), Nat.div_eq_of_lt hr, Nat.zero_add, Nat.mod_eq_of_lt hd]
theorem dg_alt {r d i : Nat} (hr : r < 2 ^ (32 * i)) (hd : d < 4294967296) : r + 2 ^ (32 * i) * d < 2 ^ (32 * (i + 1)) := by
  rw [pw_s]
  have h : 2 ^ (32 * i) * (d + 1) ≤ 2 ^ (32 * i) * 4294967296 := Nat.mul_le_mul_left _ hd
  rw [Nat.mul_add, Nat.mul_one] at h
  omega
theorem dg_mod {v n j : Nat} (h : j < n) : dg (v % 2 ^ (32 * n)) j = dg v j := by
  have e : dg (v % 2 ^ (32 * n) + 2 ^ (32 * n) * (v / 2 ^ (32 * n))) j = dg (v % 2 ^ (32 * n)) j := dg_lo h
  rw [Nat.mod_add_div] at e
  exact e.symm
theorem dg_big {v j : Nat} (h : v < 2 ^ (32 * j)) : dg v j = 0 := by
  unfold dg
  rw [Nat.div_eq_of_lt h]
theorem dg_0 (j : Nat) : dg 0 j = 0 := by
  unfold dg
  rw [Nat.zero_div]
theorem dg_ext {n v w : Nat} (hv : v < 2 ^ (32 * n)) (hw : w < 2 ^ (32 * n)) (h : ∀ j, j < n → dg v j = dg w j) : v = w := by
  have key : ∀ i, i ≤ n → v % 2 ^ (32 * i) = w % 2 ^ (32 * i) := by
    intro i
    induction i with
    | zero => intro _; simp [Nat.mod_one]
    | succ i ih =>
      intro hi
      rw [dg_mods, dg_mods, ih (by omega), h i (by omega)]
  have e := key n (Nat.le_refl n)
  rwa [Nat.mod_eq_of_lt hv, Nat.mod_eq_of_lt hw] at e
-- a limb's step in a sum, a difference, a turned sign, a doubling: P stands for 2 ^ (32 i)
theorem st_add {P x y r c dx dy d c' : Nat} (h : r + P * c = x + y) (hd : d + 4294967296 * c' = dx + dy + c) : r + P * d + P * 4294967296 * c' = (x + P * dx) + (y + P * dy) := by
  have e : P * (d + 4294967296 * c') = P * (dx + dy + c) := by rw [hd]
  simp only [Nat.mul_add] at e
  have e3 : P * (4294967296 * c') = P * 4294967296 * c' := (Nat.mul_assoc _ _ _).symm
  omega
theorem st_sub {P x y r b dx dy d b' : Nat} (h : x + P * b = r + y) (hd : dx + 4294967296 * b' = d + dy + b) : (x + P * dx) + P * 4294967296 * b' = (r + P * d) + (y + P * dy) := by
  have e : P * (dx + 4294967296 * b') = P * (d + dy + b) := by rw [hd]
  simp only [Nat.mul_add] at e
  have e3 : P * (4294967296 * b') = P * 4294967296 * b' := (Nat.mul_assoc _ _ _).symm
  omega
theorem st_neg {P x r c dx d c' : Nat} (h : r + P * c + x = P) (hd : d + 4294967296 * c' + dx + 1 = 4294967296 + c) : (r + P * d) + P * 4294967296 * c' + (x + P * dx) = P * 4294967296 := by
  have e : P * (d + 4294967296 * c' + dx + 1) = P * (4294967296 + c) := by rw [hd]
  simp only [Nat.mul_add] at e
  have e3 : P * (4294967296 * c') = P * 4294967296 * c' := (Nat.mul_assoc _ _ _).symm
  omega
theorem st_dbl {P x r c dx d c' b : Nat} (h : r + P * c = 2 * x + b) (hd : d + 4294967296 * c' = 2 * dx + c) : (r + P * d) + P * 4294967296 * c' = 2 * (x + P * dx) + b := by
  have e : P * (d + 4294967296 * c') = P * (2 * dx + c) := by rw [hd]
  simp only [Nat.mul_add] at e
  have e3 : P * (4294967296 * c') = P * 4294967296 * c' := (Nat.mul_assoc _ _ _).symm
  have e4 : P * (2 * dx) = 2 * (P * dx) := Nat.mul_left_comm _ _ _
  omega
/-- a product's inner step: r + P c = w + Q (dx y), P = Q S, y's next digit dy, w's next digit dw -/
theorem st_mul {P Q S w y r c dx dy dw d c' : Nat} (hP : P = Q * S) (h : r + P * c = w + Q * (dx * y)) (hd : d + 4294967296 * c' = dx * dy + dw + c) : (r + P * d) + P * 4294967296 * c' = (w + P * dw) + Q * (dx * (y + S * dy)) := by
  have e : P * (d + 4294967296 * c') = P * (dx * dy + dw + c) := by rw [hd]
  simp only [Nat.mul_add] at e ⊢
  have e3 : P * (4294967296 * c') = P * 4294967296 * c' := (Nat.mul_assoc _ _ _).symm
  have e4 : P * (dx * dy) = Q * (dx * (S * dy)) := by
    rw [hP, Nat.mul_assoc, Nat.mul_left_comm S dx dy]
  omega
-- rows of limbs: longs, ints
def NL (f : Nat → Int64) (n v : Nat) : Prop := ∀ j, j < n → f j = lN (dg v j)
def NI (f : Nat → Int32) (n v : Nat) : Prop := ∀ j, j < n → f j = nI (dg v j)
theorem NL_put {f : Nat → Int64} {i r d : Nat} (h : NL f i r) (hr : r < 2 ^ (32 * i)) (hd : d < 4294967296) : NL (vp_updL f i (lN d)) (i + 1) (r + 2 ^ (32 * i) * d) := by
  intro j hj
  by_cases e : j = i
  · subst e
    rw [pk_uLs, dg_hi hr hd]
  · rw [pk_uLn e, dg_lo (by omega)]
    exact h j (by omega)
theorem NI_put {f : Nat → Int32} {i r d : Nat} (h : NI f i r) (hr : r < 2 ^ (32 * i)) (hd : d < 4294967296) : NI (upd f i (nI d)) (i + 1) (r + 2 ^ (32 * i) * d) := by
  intro j hj
  by_cases e : j = i
  · subst e
    rw [pk_us, dg_hi hr hd]
  · rw [pk_un e, dg_lo (by omega)]
    exact h j (by omega)
theorem NL_cut {f : Nat → Int64} {n k v : Nat} (h : NL f n v) (hk : k ≤ n) : NL f k (v % 2 ^ (32 * k)) := fun j hj => by
  rw [dg_mod hj]
  exact h j (by omega)
theorem NI_cut {f : Nat → Int32} {n k v : Nat} (h : NI f n v) (hk : k ≤ n) : NI f k (v % 2 ^ (32 * k)) := fun j hj => by
  rw [dg_mod hj]
  exact h j (by omega)
theorem NL_0 {f : Nat → Int64} {v : Nat} : NL f 0 v := fun j hj => absurd hj (Nat.not_lt_zero j)
theorem NI_0 {f : Nat → Int32} {v : Nat} : NI f 0 v := fun j hj => absurd hj (Nat.not_lt_zero j)
theorem NL_z {n : Nat} : NL (fun _ => 0) n 0 := fun j _ => by rw [dg_0]; rfl
theorem NI_z {n : Nat} : NI (fun _ => 0) n 0 := fun j _ => by rw [dg_0]; rfl
end
section
-- ints and longs by their numbers
theorem iN_tb (n : Nat) : (nI n).toBitVec = BitVec.ofNat 32 n := rfl
theorem iN_inj {a b : Int32} (h : a.toBitVec = b.toBitVec) : a = b := Int32.toBitVec_inj.mp h
theorem iN_tn {n : Nat} (h : n < 4294967296) : (nI n).toBitVec.toNat = n := pk_tn h
theorem iN_mod (n : Nat) : nI (n % 4294967296) = nI n := iN_inj (by
  rw [iN_tb, iN_tb]
  apply BitVec.eq_of_toNat_eq
  rw [BitVec.toNat_ofNat, BitVec.toNat_ofNat]
  show n % 4294967296 % 4294967296 = n % 4294967296
  rw [Nat.mod_mod])
theorem iN_eq {a b : Nat} (ha : a < 4294967296) (hb : b < 4294967296) : nI a = nI b ↔ a = b := by
  constructor
  · intro h
    have h2 : (nI a).toBitVec.toNat = (nI b).toBitVec.toNat := by rw [h]
    rwa [iN_tn ha, iN_tn hb] at h2
  · intro h; rw [h]
theorem iN_of (x : Int32) : ∃ n, n < 4294967296 ∧ x = nI n := ⟨x.toBitVec.toNat, x.toBitVec.isLt, Int32.toBitVec_inj.mp (by show _ = BitVec.ofNat 32 _; simp)⟩
theorem iN_or (a b : Nat) : nI a ||| nI b = nI (a ||| b) := by
  apply Int32.toBitVec_inj.1
  show BitVec.ofNat 32 a ||| BitVec.ofNat 32 b = BitVec.ofNat 32 (a ||| b)
  apply BitVec.eq_of_getLsbD_eq
  intro i hi
  simp [hi]
theorem iN_and (a b : Nat) : nI a &&& nI b = nI (a &&& b) := by
  apply Int32.toBitVec_inj.1
  show BitVec.ofNat 32 a &&& BitVec.ofNat 32 b = BitVec.ofNat 32 (a &&& b)
  apply BitVec.eq_of_getLsbD_eq
  intro i hi
  simp [hi]
theorem iN_xor (a b : Nat) : nI a ^^^ nI b = nI (a ^^^ b) := by
  apply Int32.toBitVec_inj.1
  show BitVec.ofNat 32 a ^^^ BitVec.ofNat 32 b = BitVec.ofNat 32 (a ^^^ b)
  apply BitVec.eq_of_getLsbD_eq
  intro i hi
  simp [hi]
theorem iN_toInt {d : Nat} (h : d < 4294967296) : (nI d).toInt = if d < 2147483648 then (d : Int) else (d : Int) - 4294967296 := by
  show (nI d).toBitVec.toInt = _
  rw [BitVec.toInt_eq_toNat_cond, iN_tn h]
  by_cases hd : d < 2147483648
  · rw [if_pos hd, if_pos (by omega)]
  · rw [if_neg hd, if_neg (by omega)]
    rfl
theorem jN_tb (n : Nat) : (lN n).toBitVec = BitVec.ofNat 64 n := rfl
theorem jN_inj {a b : Int64} (h : a.toBitVec = b.toBitVec) : a = b := Int64.toBitVec_inj.mp h
theorem jN_tn {n : Nat} (h : n < 18446744073709551616) : (lN n).toBitVec.toNat = n := by
  rw [jN_tb, BitVec.toNat_ofNat]
  exact Nat.mod_eq_of_lt h
theorem jN_of (x : Int64) : ∃ n, n < 18446744073709551616 ∧ x = lN n := ⟨x.toBitVec.toNat, x.toBitVec.isLt, jN_inj (by rw [jN_tb]; simp)⟩
theorem jN_mod (n : Nat) : lN (n % 18446744073709551616) = lN n := jN_inj (by
  rw [jN_tb, jN_tb]
  apply BitVec.eq_of_toNat_eq
  rw [BitVec.toNat_ofNat, BitVec.toNat_ofNat]
  show n % 18446744073709551616 % 18446744073709551616 = n % 18446744073709551616
  rw [Nat.mod_mod])
theorem jN_toInt {m : Nat} (h : m < 18446744073709551616) : (lN m).toInt = if m < 9223372036854775808 then (m : Int) else (m : Int) - 18446744073709551616 := by
  show (lN m).toBitVec.toInt = _
  rw [BitVec.toInt_eq_toNat_cond, jN_tn h]
  by_cases hd : m < 9223372036854775808
  · rw [if_pos hd, if_pos (by omega)]
  · rw [if_neg hd, if_neg (by omega)]
    rfl
theorem jN_eq {a b : Nat} (ha : a < 18446744073709551616) (hb : b < 18446744073709551616) : lN a = lN b ↔ a = b := by
  constructor
  · intro h
    have h2 : (lN a).toBitVec.toNat = (lN b).toBitVec.toNat := by rw [h]
    rwa [jN_tn ha, jN_tn hb] at h2
  · intro h; rw [h]
theorem jN_neg {m : Nat} (h : m < 18446744073709551616) : lN m < 0 ↔ 9223372036854775808 ≤ m := by
  rw [Int64.lt_iff_toInt_lt, jN_toInt h]
  show _ < (0 : Int) ↔ _
  by_cases hd : m < 9223372036854775808
  · rw [if_pos hd]; omega
  · rw [if_neg hd]; omega
theorem jN_lt {a b : Nat} (ha : a < 9223372036854775808) (hb : b < 9223372036854775808) : lN a < lN b ↔ a < b := by
  rw [Int64.lt_iff_toInt_lt, jN_toInt (by omega), jN_toInt (by omega), if_pos ha, if_pos hb]
  omega
theorem jN_sub {a b : Nat} (h : b ≤ a + 18446744073709551616) : lN a - lN b = lN (a + 18446744073709551616 - b) := by
  rw [← lN_sub h, ← jN_mod (a + 18446744073709551616), Nat.add_mod_right, jN_mod]
theorem jN_xor (a b : Nat) : lN a ^^^ lN b = lN (a ^^^ b) := by
  apply Int64.toBitVec_inj.1
  show BitVec.ofNat 64 a ^^^ BitVec.ofNat 64 b = BitVec.ofNat 64 (a ^^^ b)
  apply BitVec.eq_of_getLsbD_eq
  intro i hi
  simp [hi]
theorem jN_or (a b : Nat) : lN a ||| lN b = lN (a ||| b) := by
  apply Int64.toBitVec_inj.1
  show BitVec.ofNat 64 a ||| BitVec.ofNat 64 b = BitVec.ofNat 64 (a ||| b)
  apply BitVec.eq_of_getLsbD_eq
  intro i hi
  simp [hi]
theorem jN_and (a b : Nat) : lN a &&& lN b = lN (a &&& b) := by
  apply Int64.toBitVec_inj.1
  show BitVec.ofNat 64 a &&& BitVec.ofNat 64 b = BitVec.ofNat 64 (a &&& b)
  apply BitVec.eq_of_getLsbD_eq
  intro i hi
  simp [hi]
theorem jN_lo (n : Nat) : lN n &&& 4294967295 = lN (n % 4294967296) := by
  show lN n &&& lN 4294967295 = _
  rw [jN_and, show (4294967295 : Nat) = 2 ^ 32 - 1 by decide, Nat.and_two_pow_sub_one_eq_mod]
theorem jN_a1 (n : Nat) : lN n &&& 1 = lN (n % 2) := by
  show lN n &&& lN 1 = _
  rw [jN_and, show (1 : Nat) = 2 ^ 1 - 1 by decide, Nat.and_two_pow_sub_one_eq_mod]
theorem jN_a255 (n : Nat) : lN n &&& 255 = lN (n % 256) := by
  show lN n &&& lN 255 = _
  rw [jN_and, show (255 : Nat) = 2 ^ 8 - 1 by decide, Nat.and_two_pow_sub_one_eq_mod]
theorem jN_c : ∀ k, k < 64 → ((nI k).toInt64 &&& 63) = lN k := by decide +kernel
theorem jN_cu : ∀ k, k < 64 → ((nI k).toInt64.toUInt64 &&& Int64.toUInt64 63) = UInt64.ofNat k := by decide +kernel
theorem jN_sm : ∀ k, k < 64 → (BitVec.ofNat 64 k).smod 64 = BitVec.ofNat 64 k := by decide +kernel
theorem jN_shr {n k : Nat} (hn : n < 18446744073709551616) (hk : k < 64) : ((lN n).toUInt64 >>> ((nI k).toInt64.toUInt64 &&& Int64.toUInt64 63)).toInt64 = lN (n / 2 ^ k) := by
  rw [jN_cu k hk]
  apply jN_inj
  apply BitVec.eq_of_toNat_eq
  show ((lN n).toUInt64 >>> UInt64.ofNat k).toNat = (BitVec.ofNat 64 _).toNat
  have h1 : (UInt64.ofNat k).toNat = k := by
    show (BitVec.ofNat 64 k).toNat = k
    rw [BitVec.toNat_ofNat, Nat.mod_eq_of_lt (by omega)]
  have h2 : (lN n).toUInt64.toNat = n := jN_tn hn
  rw [UInt64.toNat_shiftRight, h1, h2, Nat.mod_eq_of_lt hk, Nat.shiftRight_eq_div_pow, BitVec.toNat_ofNat, Nat.mod_eq_of_lt (Nat.lt_of_le_of_lt (Nat.div_le_self _ _) hn)]
theorem jN_shr32 {n : Nat} (hn : n < 18446744073709551616) : ((lN n).toUInt64 >>> ((32 : Int32).toInt64.toUInt64 &&& Int64.toUInt64 63)).toInt64 = lN (n / 4294967296) := jN_shr (k := 32) hn (by decide)
theorem jN_shl (n : Nat) {k : Nat} (hk : k < 64) : lN n <<< ((nI k).toInt64 &&& 63) = lN (n * 2 ^ k) := by
  rw [jN_c k hk]
  apply jN_inj
  rw [Int64.toBitVec_shiftLeft, jN_tb, jN_tb, jN_tb, jN_sm k hk]
  apply BitVec.eq_of_toNat_eq
  rw [BitVec.shiftLeft_eq', BitVec.toNat_shiftLeft, BitVec.toNat_ofNat, BitVec.toNat_ofNat, BitVec.toNat_ofNat, Nat.mod_eq_of_lt (show k < 2 ^ 64 by omega), Nat.shiftLeft_eq, Nat.mul_mod, Nat.mod_mod, ← Nat.mul_mod]
theorem jN_shl32 (n : Nat) : lN n <<< ((32 : Int32).toInt64 &&& 63) = lN (n * 4294967296) := jN_shl (k := 32) n (by decide)
theorem jN_shl1 (n : Nat) : lN n <<< ((1 : Int32).toInt64 &&& 63) = lN (n * 2) := jN_shl (k := 1) n (by decide)
theorem il_t {d : Nat} (h : d < 4294967296) : (nI d).toInt64 = lN (if d < 2147483648 then d else d + 18446744069414584320) := by
  apply Int64.toInt_inj.mp
  rw [Int32.toInt_toInt64, iN_toInt h]
  by_cases hd : d < 2147483648
  · rw [if_pos hd, if_pos hd, jN_toInt (by omega), if_pos (by omega)]
  · rw [if_neg hd, if_neg hd, jN_toInt (by omega), if_neg (by omega)]
    omega
theorem il_m {d : Nat} (h : d < 4294967296) : (nI d).toInt64 &&& 4294967295 = lN d := by
  rw [il_t h, jN_lo]
  by_cases hd : d < 2147483648
  · rw [if_pos hd, Nat.mod_eq_of_lt h]
  · rw [if_neg hd]
    exact congrArg lN (by omega)
-- bits
theorem tb_dm (x i : Nat) : x / 2 ^ i % 2 = (x.testBit i).toNat := by
  rw [Nat.testBit_eq_decide_div_mod_eq]
  by_cases h : x / 2 ^ i % 2 = 1
  · simp [h]
  · have h2 : x / 2 ^ i % 2 = 0 := by have := Nat.mod_lt (x / 2 ^ i) (show 0 < 2 by decide); omega
    simp [h2]
theorem dg_tb (v j k : Nat) : (dg v j).testBit k = (decide (k < 32) && v.testBit (32 * j + k)) := by
  unfold dg
  rw [show (4294967296 : Nat) = 2 ^ 32 by decide, Nat.testBit_mod_two_pow, Nat.testBit_div_two_pow, Nat.add_comm k]
theorem dg_bit {v b : Nat} : dg v (b / 32) / 2 ^ (b % 32) % 2 = v / 2 ^ b % 2 := by
  rw [tb_dm, tb_dm, dg_tb, decide_eq_true (Nat.mod_lt b (by decide)), Bool.true_and, Nat.div_add_mod]
theorem or_add {a b k : Nat} (hb : b < 2 ^ k) : a * 2 ^ k ||| b = a * 2 ^ k + b := by
  rw [Nat.mul_comm]
  exact (Nat.two_pow_add_eq_or_of_lt hb a).symm
end
section
-- rows over the heap itself: an array of longs, of ints, of references at an address
def hL (H : Heap) (cA : ClassId) (a n : Nat) (f : Nat → Int64) : Prop := H[a]? = some (vp_cell cA (n, .inr (.inl f)))
def hI (H : Heap) (cA : ClassId) (a n : Nat) (f : Nat → Int32) : Prop := H[a]? = some (vp_cell cA (n, .inl f))
def hQ (H : Heap) (cA : ClassId) (a n : Nat) (f : Nat → Option Nat) : Prop := H[a]? = some (vp_cell cA (n, .inr (.inr (.inr (.inr f)))))
theorem hL_lt {H : Heap} {cA : ClassId} {a n : Nat} {f : Nat → Int64} (h : hL H cA a n f) : a < H.size := (Array.getElem?_eq_some_iff.mp h).1
theorem hI_lt {H : Heap} {cA : ClassId} {a n : Nat} {f : Nat → Int32} (h : hI H cA a n f) : a < H.size := (Array.getElem?_eq_some_iff.mp h).1
theorem hL_eq {H : Heap} {cA : ClassId} {a n : Nat} {f g : Nat → Int64} (h : hL H cA a n f) (h2 : hL H cA a n g) {j : Nat} (hj : j < n) : f j = g j := by
  have e : vp_cell cA (n, .inr (.inl f)) = vp_cell cA (n, .inr (.inl g)) := Option.some.inj (h.symm.trans h2)
  rw [vp_cell_l, vp_cell_l] at e
  have e1 := congrArg (fun z : Cell => z.slots[j]?) e
  rw [arrV_read _ _ hj, arrV_read _ _ hj] at e1
  exact Value.long.inj (Option.some.inj e1)
theorem hI_eq {H : Heap} {cA : ClassId} {a n : Nat} {f g : Nat → Int32} (h : hI H cA a n f) (h2 : hI H cA a n g) {j : Nat} (hj : j < n) : f j = g j := by
  have e : vp_cell cA (n, .inl f) = vp_cell cA (n, .inl g) := Option.some.inj (h.symm.trans h2)
  rw [vp_cell_i, vp_cell_i] at e
  have e1 := congrArg (fun z : Cell => z.slots[j]?) e
  rw [arrV_read _ _ hj, arrV_read _ _ hj] at e1
  exact Value.int.inj (Option.some.inj e1)
/-- nothing that was there changes but what A names -/
def XF (A : Nat → Prop) (H0 H : Heap) : Prop := H0.size ≤ H.size ∧ ∀ q : Nat, q < H0.size → ¬ A q → H[q]? = H0[q]?
theorem XF.rf {A : Nat → Prop} {H : Heap} : XF A H H := ⟨Nat.le_refl _, fun _ _ _ => rfl⟩
theorem XF.tr {A B : Nat → Prop} {H0 H H1 : Heap} (h : XF A H0 H) (h1 : XF B H H1) (hB : ∀ q, B q → A q) : XF A H0 H1 := ⟨Nat.le_trans h.1 h1.1, fun q hl hq => (h1.2 q (Nat.lt_of_lt_of_le hl h.1) (fun z => hq (hB q z))).trans (h.2 q hl hq)⟩
theorem XF.wk {A B : Nat → Prop} {H0 H : Heap} (h : XF A H0 H) (hB : ∀ q, A q → B q) : XF B H0 H := ⟨h.1, fun q hl hq => h.2 q hl (fun z => hq (hB q z))⟩
theorem hL_f {A : Nat → Prop} {H H1 : Heap} {cA : ClassId} {a n : Nat} {f : Nat → Int64} (h : hL H cA a n f) (hF : XF A H H1) (ha : ¬ A a) : hL H1 cA a n f := (hF.2 a (Array.getElem?_eq_some_iff.mp h).1 ha).trans h
theorem hI_f {A : Nat → Prop} {H H1 : Heap} {cA : ClassId} {a n : Nat} {f : Nat → Int32} (h : hI H cA a n f) (hF : XF A H H1) (ha : ¬ A a) : hI H1 cA a n f := (hF.2 a (Array.getElem?_eq_some_iff.mp h).1 ha).trans h
theorem hQ_f {A : Nat → Prop} {H H1 : Heap} {cA : ClassId} {a n : Nat} {f : Nat → Option Nat} (h : hQ H cA a n f) (hF : XF A H H1) (ha : ¬ A a) : hQ H1 cA a n f := (hF.2 a (Array.getElem?_eq_some_iff.mp h).1 ha).trans h
/-- a store at place k of the row at a: another row, or the same one, holds what it held but at k -/
theorem hL_al {H H1 : Heap} {cA : ClassId} {a b n k : Nat} {f g : Nat → Int64} {v : Int64} (ha : hL H cA a n f) (h1 : hL H1 cA a n (vp_updL f k v)) (hF : XF (fun q => q = a) H H1) (hb : hL H cA b n g) : ∃ g', hL H1 cA b n g' ∧ ∀ j, j < n → j ≠ k → g' j = g j := by
  by_cases e : b = a
  · subst e
    exact ⟨_, h1, fun j hj hk => by rw [pk_uLn hk]; exact hL_eq ha hb hj⟩
  · exact ⟨g, hL_f hb hF e, fun _ _ _ => rfl⟩
theorem hI_al {H H1 : Heap} {cA : ClassId} {a b n k : Nat} {f g : Nat → Int32} {v : Int32} (ha : hI H cA a n f) (h1 : hI H1 cA a n (upd f k v)) (hF : XF (fun q => q = a) H H1) (hb : hI H cA b n g) : ∃ g', hI H1 cA b n g' ∧ ∀ j, j < n → j ≠ k → g' j = g j := by
  by_cases e : b = a
  · subst e
    exact ⟨_, h1, fun j hj hk => by rw [pk_un hk]; exact hI_eq ha hb hj⟩
  · exact ⟨g, hI_f hb hF e, fun _ _ _ => rfl⟩
section XR
variable {p : Program} {l : Launch} {e : Env} {R : Room} {s : State} {m : MethodId} {args : Array Value} {below : List Frame} {meth : Method} {c : Code} {H : Heap} {locs : List Loc} {cells slots : Nat} {Q : State → Prop}
variable {cc : ByteArray} {pc : Nat} {ls : Array Slot} {rest : List Value} {A : Nat → Prop} {cA : ClassId} {a n : Nat}
theorem x_locs {A : Nat → Prop} {locs : List Loc} {a k : Nat} (h : ∀ q ∈ locs, A q.base) (ha : A a) : ∀ q ∈ locs ++ [(⟨a, k⟩ : Loc)], A q.base := by
  intro q hq
  rcases List.mem_append.mp hq with h1 | h1
  · exact h q h1
  · rw [List.mem_singleton.mp h1]; exact ha
theorem x_topl {x v : Int64} (h : x = v) (k : W p l e R s m args below meth c H locs cells slots Q (F0 m pc ls (.long v :: rest))) : W p l e R s m args below meth c H locs cells slots Q (F0 m pc ls (.long x :: rest)) := by
  rw [h]; exact k
theorem x_topi {x v : Int32} (h : x = v) (k : W p l e R s m args below meth c H locs cells slots Q (F0 m pc ls (.int v :: rest))) : W p l e R s m args below meth c H locs cells slots Q (F0 m pc ls (.int x :: rest)) := by
  rw [h]; exact k
theorem x_lald (hexec : p.tables.exec = Jvm.exec) (hb : c.code = cc) (hA : ArrOfT s cA .long) {f : Nat → Int64} (ha : hL H cA a n f) {i : Int32} (k : Nat) (hi : i = nI k) (hk : k < n) (hn : n < 2 ^ 31) {v : Int64} (hv : f k = v) (hdg : decode cc pc = .ok (.laload, 1))
    (kk : W p l e R s m args below meth c H locs cells slots Q (F0 m (pc + 1) ls (.long v :: rest))) : W p l e R s m args below meth c H locs cells slots Q (F0 m pc ls (.int i :: .ref a :: rest)) := by
  subst hi
  subst hv
  have e1 : (nI k).toNatClampNeg = k := nI_clamp (by omega)
  exact W.lald (v := .long (f k)) hexec hb ha (hA n (fun j => .long (f j))) (fun q => by cases q) (by show ¬ (nI k < 0 ∨ (arrV _ _ _).slots.size ≤ _); rw [arrV_size]; exact vp_in_nI hk hn) (by show (arrV _ _ _).slots[_]? = _; rw [e1, arrV_read _ _ hk]) rfl rfl hdg kk
theorem x_iald (hexec : p.tables.exec = Jvm.exec) (hb : c.code = cc) (hA : ArrOfT s cA .int) {f : Nat → Int32} (ha : hI H cA a n f) {i : Int32} (k : Nat) (hi : i = nI k) (hk : k < n) (hn : n < 2 ^ 31) {v : Int32} (hv : f k = v) (hdg : decode cc pc = .ok (.iaload, 1))
    (kk : W p l e R s m args below meth c H locs cells slots Q (F0 m (pc + 1) ls (.int v :: rest))) : W p l e R s m args below meth c H locs cells slots Q (F0 m pc ls (.int i :: .ref a :: rest)) := by
  subst hi
  subst hv
  have e1 : (nI k).toNatClampNeg = k := nI_clamp (by omega)
  exact W.iald (v := .int (f k)) hexec hb ha (hA n (fun j => .int (f j))) (fun q => by cases q) (by show ¬ (nI k < 0 ∨ (arrV _ _ _).slots.size ≤ _); rw [arrV_size]; exact vp_in_nI hk hn) (by show (arrV _ _ _).slots[_]? = _; rw [e1, arrV_read _ _ hk]) rfl rfl hdg kk
theorem x_aald (hexec : p.tables.exec = Jvm.exec) (hb : c.code = cc) {ty : FieldType} (hr : ty.isReference = true) (hA : ArrOfT s cA ty) {f : Nat → Option Nat} (ha : hQ H cA a n f) {i : Int32} (k : Nat) (hi : i = nI k) (hk : k < n) (hn : n < 2 ^ 31) {v : Nat} (hv : f k = some v) (hdg : decode cc pc = .ok (.aaload, 1))
    (kk : W p l e R s m args below meth c H locs cells slots Q (F0 m (pc + 1) ls (.ref v :: rest))) : W p l e R s m args below meth c H locs cells slots Q (F0 m pc ls (.int i :: .ref a :: rest)) := by
  subst hi
  have e1 : (nI k).toNatClampNeg = k := nI_clamp (by omega)
  exact W.aald (v := .ref v) (ty := ty) hexec hb ha (hA n (fun j => va_rf (f j))) hr (fun q => by cases q) (by show ¬ (nI k < 0 ∨ (arrV _ _ _).slots.size ≤ _); rw [arrV_size]; exact vp_in_nI hk hn) (by show (arrV _ _ _).slots[_]? = _; rw [e1, arrV_read _ _ hk, hv]; rfl) rfl rfl hdg kk
theorem x_last (hexec : p.tables.exec = Jvm.exec) (hb : c.code = cc) (hA : ArrOfT s cA .long) {f : Nat → Int64} (ha : hL H cA a n f) (hlo : ∀ q ∈ locs, A q.base) (hAa : A a) {i : Int32} {x : Int64} (k : Nat) (hi : i = nI k) (hk : k < n) (hn : n < 2 ^ 31) (hdg : decode cc pc = .ok (.lastore, 1))
    (kk : ∀ (H1 : Heap) (locs1 : List Loc), hL H1 cA a n (vp_updL f k x) → XF (fun q => q = a) H H1 → (∀ q ∈ locs1, A q.base) → W p l e R s m args below meth c H1 locs1 cells slots Q (F0 m (pc + 1) ls rest)) : W p l e R s m args below meth c H locs cells slots Q (F0 m pc ls (.long x :: .int i :: .ref a :: rest)) := by
  subst hi
  have e1 : (nI k).toNatClampNeg = k := nI_clamp (by omega)
  refine W.last hexec hb ha (hA n (fun j => .long (f j))) (fun q => by cases q) (by show ¬ (nI k < 0 ∨ (arrV _ _ _).slots.size ≤ _); rw [arrV_size]; exact vp_in_nI hk hn) rfl rfl hdg fun H1 e2 z oq => ?_
  refine kk H1 _ ?_ ⟨Nat.le_of_eq z.symm, fun q _ hq => oq q hq⟩ (x_locs hlo hAa)
  show H1[a]? = some (vp_cell _ _)
  rw [e2, vp_cell_l, vp_cell_l, arrV_store, e1]
  congr 2
  funext q
  by_cases hq : q = k
  · subst hq
    simp [updV, vp_updL]
  · simp [updV, vp_updL, hq]
theorem x_iast (hexec : p.tables.exec = Jvm.exec) (hb : c.code = cc) (hA : ArrOfT s cA .int) {f : Nat → Int32} (ha : hI H cA a n f) (hlo : ∀ q ∈ locs, A q.base) (hAa : A a) {i : Int32} {x : Int32} (k : Nat) (hi : i = nI k) (hk : k < n) (hn : n < 2 ^ 31) (hdg : decode cc pc = .ok (.iastore, 1))
    (kk : ∀ (H1 : Heap) (locs1 : List Loc), hI H1 cA a n (upd f k x) → XF (fun q => q = a) H H1 → (∀ q ∈ locs1, A q.base) → W p l e R s m args below meth c H1 locs1 cells slots Q (F0 m (pc + 1) ls rest)) : W p l e R s m args below meth c H locs cells slots Q (F0 m pc ls (.int x :: .int i :: .ref a :: rest)) := by
  subst hi
  have e1 : (nI k).toNatClampNeg = k := nI_clamp (by omega)
  refine W.iast hexec hb ha (hA n (fun j => .int (f j))) (fun q => by cases q) (by show ¬ (nI k < 0 ∨ (arrV _ _ _).slots.size ≤ _); rw [arrV_size]; exact vp_in_nI hk hn) rfl rfl hdg fun H1 e2 z oq => ?_
  refine kk H1 _ ?_ ⟨Nat.le_of_eq z.symm, fun q _ hq => oq q hq⟩ (x_locs hlo hAa)
  show H1[a]? = some (vp_cell _ _)
  rw [e2, vp_cell_i, vp_cell_i, arrV_store, e1]
  congr 2
  funext q
  by_cases hq : q = k
  · subst hq
    simp [updV, upd]
  · simp [updV, upd, hq]
theorem x_len (hexec : p.tables.exec = Jvm.exec) (hb : c.code = cc) (hA : ArrOfT s cA .long) {f : Nat → Int64} (ha : hL H cA a n f) (hdg : decode cc pc = .ok (.arraylength, 1))
    (kk : W p l e R s m args below meth c H locs cells slots Q (F0 m (pc + 1) ls (.int (nI n) :: rest))) : W p l e R s m args below meth c H locs cells slots Q (F0 m pc ls (.ref a :: rest)) :=
  W.alen (n := Int32.ofNat n) hexec hb ha (hA n (fun j => .long (f j))) (by rw [vp_cell_l, arrV_size] <;> rfl) rfl rfl hdg kk
/-- a call's start: its arguments, the tables, what the heap holds -/
def xP (D : va_G) (cl : List vw_C) (tys : List (ClassId × FieldType)) (av : List Value) (B : Heap → Prop) : Array Value → State → Prop := fun v U => v = av.toArray ∧ va_K D cl tys U ∧ B U.heap
theorem xP_blind {D : va_G} {cl : List vw_C} {tys : List (ClassId × FieldType)} {av : List Value} {B : Heap → Prop} : FrameBlind (xP D cl tys av B) := fun a U g mk h => ⟨h.1, va_K.moved (u := U) (U := U.calling g mk a) (Vm.Alike.refl U.vm) h.2.1, h.2.2⟩
theorem xPre {D : va_G} {cl : List vw_C} {tys : List (ClassId × FieldType)} {As : List Value} {B : Heap → Prop} (hK : va_K D cl tys s) (hB : B H) : PreS s H (xP D cl tys As B) As := ⟨xP_blind, fun U hU hW => ⟨rfl, va_K.moved hW.alike hK, by rw [hU]; exact hB⟩⟩
theorem xPreV {D : va_G} {cl : List vw_C} {tys : List (ClassId × FieldType)} {As : List Value} {C : String} {b : Addr} {B : Heap → Prop} (hK : va_K D cl tys s) (hr : ∃ cellB : Cell, H[b]? = some cellB ∧ cellB.vm.isStatics = false ∧ s.vm.findClass C = some cellB.cls) (hB : B H) : PreV s H C b (xP D cl tys (.ref b :: As) B) As := ⟨xP_blind, hr, fun U hU hW => ⟨rfl, va_K.moved hW.alike hK, by rw [hU]; exact hB⟩⟩
/-- a call's end: the answer, the heap before and behind it -/
def xQv (B : Heap → Heap → Prop) : Array Value → State → Outcome → State → Prop := fun _ st o t => o = .returned none ∧ B st.heap t.heap
def xQi (B : Int32 → Heap → Heap → Prop) : Array Value → State → Outcome → State → Prop := fun _ st o t => ∃ r : Int32, o = .returned (some (.int r)) ∧ B r st.heap t.heap
def xQl (B : Int64 → Heap → Heap → Prop) : Array Value → State → Outcome → State → Prop := fun _ st o t => ∃ r : Int64, o = .returned (some (.long r)) ∧ B r st.heap t.heap
theorem x_lapp {A free : Nat → Prop} {locs L : List Loc} (h : ∀ q ∈ locs, A q.base) (hf : ∀ q, free q → A q) (hL : ∀ q ∈ L, free q.base) : ∀ q ∈ locs ++ L, A q.base := by
  intro q hq
  rcases List.mem_append.mp hq with h1 | h1
  · exact h q h1
  · exact hf _ (hL q h1)
theorem x_callv {st0 : List Value} {av : Array Value} {mc ms : Nat} {free : Addr → Prop} {B : Heap → Heap → Prop} (hr : va_Run p l e R s m args below meth c H locs cells slots mc ms (F0 m pc ls st0) rest (xQv B av) free) (hlo : ∀ q ∈ locs, A q.base) (hf : ∀ q, free q → A q)
    (kk : ∀ (H1 : Heap) (locs1 : List Loc), B H H1 → (∀ q ∈ locs1, A q.base) → W p l e R s m args below meth c H1 locs1 (cells + mc) (slots + ms) Q (F0 m (pc + 3) ls rest)) : W p l e R s m args below meth c H locs cells slots Q (F0 m pc ls st0) := by
  intro T hT X
  obtain ⟨v, st₀, t, T', L, h0, X', hL, e1, e2, ⟨hv, hb⟩, st⟩ := hr T hT X
  cases hv
  rw [h0] at hb
  obtain ⟨t2, a1, b1⟩ := kk t.heap (locs ++ L) hb (x_lapp hlo hf hL) T' e1 X'
  exact ⟨t2, st t2 a1, b1⟩
theorem x_calli {st0 : List Value} {av : Array Value} {mc ms : Nat} {free : Addr → Prop} {B : Int32 → Heap → Heap → Prop} (hr : va_Run p l e R s m args below meth c H locs cells slots mc ms (F0 m pc ls st0) rest (xQi B av) free) (hlo : ∀ q ∈ locs, A q.base) (hf : ∀ q, free q → A q)
    (kk : ∀ (r : Int32) (H1 : Heap) (locs1 : List Loc), B r H H1 → (∀ q ∈ locs1, A q.base) → W p l e R s m args below meth c H1 locs1 (cells + mc) (slots + ms) Q (F0 m (pc + 3) ls (.int r :: rest))) : W p l e R s m args below meth c H locs cells slots Q (F0 m pc ls st0) := by
  intro T hT X
  obtain ⟨v, st₀, t, T', L, h0, X', hL, e1, e2, ⟨r, hv, hb⟩, st⟩ := hr T hT X
  cases hv
  rw [h0] at hb
  obtain ⟨t2, a1, b1⟩ := kk r t.heap (locs ++ L) hb (x_lapp hlo hf hL) T' e1 X'
  exact ⟨t2, st t2 a1, b1⟩
theorem x_calll {st0 : List Value} {av : Array Value} {mc ms : Nat} {free : Addr → Prop} {B : Int64 → Heap → Heap → Prop} (hr : va_Run p l e R s m args below meth c H locs cells slots mc ms (F0 m pc ls st0) rest (xQl B av) free) (hlo : ∀ q ∈ locs, A q.base) (hf : ∀ q, free q → A q)
    (kk : ∀ (r : Int64) (H1 : Heap) (locs1 : List Loc), B r H H1 → (∀ q ∈ locs1, A q.base) → W p l e R s m args below meth c H1 locs1 (cells + mc) (slots + ms) Q (F0 m (pc + 3) ls (.long r :: rest))) : W p l e R s m args below meth c H locs cells slots Q (F0 m pc ls st0) := by
  intro T hT X
  obtain ⟨v, st₀, t, T', L, h0, X', hL, e1, e2, ⟨r, hv, hb⟩, st⟩ := hr T hT X
  cases hv
  rw [h0] at hb
  obtain ⟨t2, a1, b1⟩ := kk r t.heap (locs ++ L) hb (x_lapp hlo hf hL) T' e1 X'
  exact ⟨t2, st t2 a1, b1⟩
end XR
abbrev TY (cJ cI cQ cR : ClassId) : List (ClassId × FieldType) := [(cJ, .long), (cI, .int), (cQ, .array .long), (cR, .array .int)]
section XL
variable {p : Program} {l : Launch} {e : Env} {R : Room} {s : State} {m : MethodId} {args : Array Value} {below : List Frame} {meth : Method} {c : Code} {cells slots : Nat} {Q : State → Prop}
/-- a loop that counts up to n: from every state of the invariant at its head -/
theorem x_loop (pc : Nat) (I : Nat → Heap → List Loc → Array Slot → Prop) (n : Nat)
    (hstep : ∀ (i : Nat) (H : Heap) (locs : List Loc) (ls : Array Slot), i < n → I i H locs ls → (∀ (H' : Heap) (locs' : List Loc) (ls' : Array Slot), I (i + 1) H' locs' ls' → W p l e R s m args below meth c H' locs' cells slots Q (F0 m pc ls' [])) → W p l e R s m args below meth c H locs cells slots Q (F0 m pc ls []))
    (hend : ∀ (H : Heap) (locs : List Loc) (ls : Array Slot), I n H locs ls → W p l e R s m args below meth c H locs cells slots Q (F0 m pc ls [])) (i : Nat) (H : Heap) (locs : List Loc) (ls : Array Slot) (hi : i ≤ n) (h : I i H locs ls) : W p l e R s m args below meth c H locs cells slots Q (F0 m pc ls []) := by
  have key : ∀ (k i : Nat) (H : Heap) (locs : List Loc) (ls : Array Slot), i + k = n → I i H locs ls → W p l e R s m args below meth c H locs cells slots Q (F0 m pc ls []) := by
    intro k
    induction k with
    | zero =>
      intro i H locs ls hi h
      have e1 : i = n := by omega
      subst e1
      exact hend H locs ls h
    | succ k ih => exact fun i H locs ls hi h => hstep i H locs ls (by omega) h (fun H' locs' ls' h' => ih (i + 1) H' locs' ls' (by omega) h')
  exact key (n - i) i H locs ls (by omega) h
/-- a loop that counts down to 0 -/
theorem x_loopD (pc : Nat) (I : Nat → Heap → List Loc → Array Slot → Prop)
    (hstep : ∀ (i : Nat) (H : Heap) (locs : List Loc) (ls : Array Slot), I (i + 1) H locs ls → (∀ (H' : Heap) (locs' : List Loc) (ls' : Array Slot), I i H' locs' ls' → W p l e R s m args below meth c H' locs' cells slots Q (F0 m pc ls' [])) → W p l e R s m args below meth c H locs cells slots Q (F0 m pc ls []))
    (hend : ∀ (H : Heap) (locs : List Loc) (ls : Array Slot), I 0 H locs ls → W p l e R s m args below meth c H locs cells slots Q (F0 m pc ls [])) (i : Nat) (H : Heap) (locs : List Loc) (ls : Array Slot) (h : I i H locs ls) : W p l e R s m args below meth c H locs cells slots Q (F0 m pc ls []) := by
  have key : ∀ (k : Nat) (H : Heap) (locs : List Loc) (ls : Array Slot), I k H locs ls → W p l e R s m args below meth c H locs cells slots Q (F0 m pc ls []) := by
    intro k
    induction k with
    | zero => exact hend
    | succ k ih => exact fun H locs ls h => hstep k H locs ls h (fun H' locs' ls' h' => ih H' locs' ls' h')
  exact key i H locs ls h
theorem xcS {own : String} {index maxL mc ms : Nat} {y : MethodName} {bytes : ByteArray} {ret : Option FieldType} {rm : Room} (n : Nat) (hts : ∀ w ∈ WT, w.before args s = true) (hc : Cond.code y bytes maxL ret ∈ WT) (hini : Cond.initialized y.cls ∈ WT) (hl : Cond.methodLink own index y ∈ WT) (hst : Cond.static y ∈ WT) (hrc : rm.cells = mc) (hrs : rm.slots = ms)
    (hd : y.cls ≠ "java/lang/invoke/MethodHandle" ∧ y.cls ≠ "java/lang/invoke/VarHandle" ∧ (parseMethodDescriptor y.desc).map (fun d => d.parameters.length) = some n) (hR : rm.frames + 1 ≤ R.frames ∧ 8 + (maxL + 11) + rm.locals ≤ R.locals) :
    CallB R s args own index y bytes maxL ret (Cond.code y bytes maxL ret :: WT) rm mc ms n ∧ (Cond.static y).before args s = true := ⟨callB_of n hts (gdL hc) rfl hrc hrs (hts _ hini) (hts _ hl) hd hR, hts _ hst⟩
theorem xcV {own : String} {index maxL mc ms : Nat} {y : MethodName} {bytes : ByteArray} {ret : Option FieldType} {rm : Room} (n : Nat) (hts : ∀ w ∈ WT, w.before args s = true) (hc : Cond.code y bytes maxL ret ∈ WT) (hini : Cond.initialized y.cls ∈ WT) (hl : Cond.methodLink own index y ∈ WT) (hin : Cond.instanceMethod y ∈ WT) (hse : Cond.selects y.cls y y ∈ WT) (hrc : rm.cells = mc) (hrs : rm.slots = ms)
    (hd : y.cls ≠ "java/lang/invoke/MethodHandle" ∧ y.cls ≠ "java/lang/invoke/VarHandle" ∧ (parseMethodDescriptor y.desc).map (fun d => d.parameters.length) = some n) (hR : rm.frames + 1 ≤ R.frames ∧ 8 + (maxL + 11) + rm.locals ≤ R.locals) :
    CallW R s args own y.cls index y bytes maxL ret (Cond.code y bytes maxL ret :: WT) rm mc ms n := ⟨callB_of n hts (gdL hc) rfl hrc hrs (hts _ hini) (hts _ hl) hd hR, hts _ hin, hts _ hse⟩
end XL
end
section
-- rows of limbs that are the digits of one number; digits of and, or, xor, of the number with each bit the other one
theorem NL_up {f : Nat → Int64} {i v : Nat} (h : NL f i v) : NL (vp_updL f i (lN (dg v i))) (i + 1) v := by
  intro j hj
  by_cases e : j = i
  · subst e; rw [pk_uLs]
  · rw [pk_uLn e]; exact h j (by omega)
theorem NI_up {f : Nat → Int32} {i v : Nat} (h : NI f i v) : NI (upd f i (nI (dg v i))) (i + 1) v := by
  intro j hj
  by_cases e : j = i
  · subst e; rw [pk_us]
  · rw [pk_un e]; exact h j (by omega)
theorem dg_and (a b i : Nat) : dg (a &&& b) i = dg a i &&& dg b i := by
  apply Nat.eq_of_testBit_eq
  intro k
  rw [dg_tb, Nat.testBit_and, Nat.testBit_and, dg_tb, dg_tb]
  cases decide (k < 32) <;> simp
theorem dg_or (a b i : Nat) : dg (a ||| b) i = dg a i ||| dg b i := by
  apply Nat.eq_of_testBit_eq
  intro k
  rw [dg_tb, Nat.testBit_or, Nat.testBit_or, dg_tb, dg_tb]
  cases decide (k < 32) <;> simp
theorem dg_xor (a b i : Nat) : dg (a ^^^ b) i = dg a i ^^^ dg b i := by
  apply Nat.eq_of_testBit_eq
  intro k
  rw [dg_tb, Nat.testBit_xor, Nat.testBit_xor, dg_tb, dg_tb]
  cases decide (k < 32) <;> simp
theorem dg_not {a i : Nat} (ha : a < 2 ^ 256) (hi : i < 8) : dg (2 ^ 256 - (a + 1)) i = dg a i ^^^ 4294967295 := by
  apply Nat.eq_of_testBit_eq
  intro k
  rw [dg_tb, Nat.testBit_two_pow_sub_succ ha, Nat.testBit_xor, dg_tb, show (4294967295 : Nat) = 2 ^ 32 - 1 by decide, Nat.testBit_two_pow_sub_one]
  by_cases hk : k < 32
  · rw [decide_eq_true hk, decide_eq_true (show 32 * i + k < 256 by omega)]
    simp
  · rw [decide_eq_false hk]
    simp
theorem xor_lo {a : Nat} (h : a < 4294967296) : a ^^^ 4294967295 = 4294967295 - a := by
  have e := dg_not (a := a) (i := 0) (Nat.lt_of_lt_of_le h (by decide)) (by decide)
  have e2 : dg a 0 = a := by
    unfold dg
    rw [show 2 ^ (32 * 0) = 1 by decide, Nat.div_one, Nat.mod_eq_of_lt h]
  rw [e2] at e
  rw [← e]
  unfold dg
  rw [show 2 ^ (32 * 0) = 1 by decide, Nat.div_one]
  omega
/-- how two numbers stand -/
def ordv (x y : Nat) : Int32 := if x < y then -1 else if x = y then 0 else 1
/-- a limb of a row by its place, else what lies outside -/
def limbV (f : Nat → Int64) (i : Int32) (o : Int64) : Int64 := if i < 0 then o else if nI 8 ≤ i then o else f i.toNatClampNeg
theorem cmp_eq (a b : Int64) : lg_cmp a b = 0 ↔ a = b := lg_cmp_eq a b
theorem i_dec (i : Nat) : nI (i + 1) - 1 + Int32.ofInt (-1) = nI i - 1 := by
  rw [nI_pred, Int32.sub_eq_add_neg]
  rfl
end
section
section XC
variable {p : Program} {l : Launch} {e : Env} {R : Room} {s : State} {m : MethodId} {args : Array Value} {below : List Frame} {meth : Method} {c : Code} {cells slots : Nat} {Q : State → Prop} {H : Heap} {locs : List Loc}
/-- a place where roads meet: proved once for all states of I there -/
theorem x_cut {g : JFrame} (pc : Nat) (I : Heap → List Loc → Array Slot → Prop) (hk : ∀ (H : Heap) (locs : List Loc) (ls : Array Slot), I H locs ls → W p l e R s m args below meth c H locs cells slots Q (F0 m pc ls []))
    (hs : (∀ (H : Heap) (locs : List Loc) (ls : Array Slot), I H locs ls → W p l e R s m args below meth c H locs cells slots Q (F0 m pc ls [])) → W p l e R s m args below meth c H locs cells slots Q g) : W p l e R s m args below meth c H locs cells slots Q g := hs hk
end XC
theorem i_decn {n : Nat} (k : Nat) {z : Int} (hz : Int32.ofInt z = - nI k) (h : k ≤ n) : nI n + Int32.ofInt z = nI (n - k) := by
  rw [hz, ← Int32.sub_eq_add_neg, pk_sub h]
/-- n bits are needed for v -/
def ub (v n : Nat) : Prop := v < 2 ^ n ∧ (n = 0 ∨ 2 ^ (n - 1) ≤ v)
theorem nlz_end {d sh d1 : Nat} (h : d1 = d / 2 ^ sh) (h1 : 1 ≤ d1) (h4 : d1 < 4) (hs : sh ≤ 30) : 2 ^ (31 - (31 - sh - d1 / 2)) ≤ d ∧ d < 2 ^ (32 - (31 - sh - d1 / 2)) := by
  have hp := pw_pos sh
  have e1 := Nat.div_add_mod d (2 ^ sh)
  have e2 := Nat.mod_lt d hp
  rw [← h] at e1
  rcases (show d1 = 1 ∨ d1 = 2 ∨ d1 = 3 by omega) with e | e | e
  · subst e
    rw [show 31 - (31 - sh - 1 / 2) = sh by omega, show 32 - (31 - sh - 1 / 2) = sh + 1 by omega, Nat.pow_succ]
    omega
  · subst e
    rw [show 31 - (31 - sh - 2 / 2) = sh + 1 by omega, show 32 - (31 - sh - 2 / 2) = sh + 1 + 1 by omega, Nat.pow_succ, Nat.pow_succ]
    omega
  · subst e
    rw [show 31 - (31 - sh - 3 / 2) = sh + 1 by omega, show 32 - (31 - sh - 3 / 2) = sh + 1 + 1 by omega, Nat.pow_succ, Nat.pow_succ]
    omega
theorem sh_more {d sh k : Nat} : d / 2 ^ sh / 2 ^ k = d / 2 ^ (sh + k) := by rw [Nat.div_div_eq_div_mul, Nat.pow_add]
/-- the highest limb that isn't 0, and how many of its bits lead -/
theorem ub_of {v i k d : Nat} (hv : v / 2 ^ (32 * (i + 1)) = 0) (hd : d = dg v i) (hk : k ≤ 31) (h1 : 2 ^ (31 - k) ≤ d) (h2 : d < 2 ^ (32 - k)) : ub v (32 * (i + 1) - k) := by
  have e := dg_divs v i
  rw [hv, ← hd] at e
  have hp := pw_pos (32 * i)
  have e1 := Nat.div_add_mod v (2 ^ (32 * i))
  have e2 := Nat.mod_lt v hp
  have e3 : v / 2 ^ (32 * i) = d := by omega
  rw [e3] at e1
  refine ⟨?_, Or.inr ?_⟩
  · rw [show 32 * (i + 1) - k = 32 * i + (32 - k) by omega, Nat.pow_add]
    have h3 : 2 ^ (32 * i) * (d + 1) ≤ 2 ^ (32 * i) * 2 ^ (32 - k) := Nat.mul_le_mul_left _ h2
    rw [Nat.mul_add, Nat.mul_one] at h3
    omega
  · rw [show 32 * (i + 1) - k - 1 = 32 * i + (31 - k) by omega, Nat.pow_add]
    have h3 : 2 ^ (32 * i) * 2 ^ (31 - k) ≤ 2 ^ (32 * i) * d := Nat.mul_le_mul_left _ h1
    omega
theorem dg_z {v : Nat} (h : v < 4294967296) : dg v 0 = v := by
  unfold dg
  rw [show 2 ^ (32 * 0) = 1 by decide, Nat.div_one, Nat.mod_eq_of_lt h]
theorem pw_lt {i j : Nat} (h : i < j) : 2 ^ i < 2 ^ j := Nat.pow_lt_pow_right (by decide) h
theorem bit255 {v : Nat} (hv : v < 2 ^ 256) : v / 2 ^ 255 % 2 = if 2 ^ 255 ≤ v then 1 else 0 := by
  by_cases h : 2 ^ 255 ≤ v
  · rw [if_pos h]
    have h1 : v / 2 ^ 255 = 1 := by
      apply Nat.div_eq_of_lt_le <;> omega
    rw [h1]
  · rw [if_neg h, Nat.div_eq_of_lt (by omega)]
end
section
-- products: a row's end
theorem mo_16 {i V r c dx vy : Nat} (hV : V < 2 ^ (32 * (i + 8))) (hy : vy < 2 ^ 256) (h : r + 2 ^ (32 * (i + 8)) * c = V % 2 ^ (32 * (i + 8)) + 2 ^ (32 * i) * (dx * (vy % 2 ^ (32 * 8)))) : r + 2 ^ (32 * (i + 8)) * c = V + 2 ^ (32 * i) * (dx * vy) := by
  rw [h, Nat.mod_eq_of_lt hV, Nat.mod_eq_of_lt hy]
theorem mo_8 {i V r c dx vy : Nat} (hi : i ≤ 8) (hr : r < 2 ^ 256) (h : r + 2 ^ (32 * (i + (8 - i))) * c = V % 2 ^ (32 * (i + (8 - i))) + 2 ^ (32 * i) * (dx * (vy % 2 ^ (32 * (8 - i))))) : r = (V + 2 ^ (32 * i) * (dx * vy)) % 2 ^ 256 := by
  rw [show 32 * (i + (8 - i)) = 256 by omega] at h
  have hPQ : 2 ^ (32 * i) * 2 ^ (32 * (8 - i)) = 2 ^ 256 := by rw [← Nat.pow_add]; congr 1; omega
  have e1 := Nat.div_add_mod vy (2 ^ (32 * (8 - i)))
  have e2 := Nat.div_add_mod V (2 ^ 256)
  generalize 2 ^ (32 * (8 - i)) = Q at *
  generalize 2 ^ (32 * i) = P at *
  generalize 2 ^ 256 = M at *
  have e3 : P * (dx * vy) = M * (dx * (vy / Q)) + P * (dx * (vy % Q)) := by
    conv => lhs; rw [← e1]
    rw [Nat.mul_add, Nat.mul_add, ← hPQ]
    congr 1
    rw [Nat.mul_left_comm dx Q, Nat.mul_assoc]
  have e4 : V + P * (dx * vy) = r + M * (c + V / M + dx * (vy / Q)) := by
    rw [e3, Nat.mul_add, Nat.mul_add]
    omega
  rw [e4, Nat.add_mul_mod_self_left, Nat.mod_eq_of_lt hr]
theorem mo_s (vx vy i : Nat) : vx % 2 ^ (32 * (i + 1)) * vy = vx % 2 ^ (32 * i) * vy + 2 ^ (32 * i) * (dg vx i * vy) := by
  rw [dg_mods, Nat.add_mul, Nat.mul_assoc]
theorem mo_lt {vx vy i : Nat} (hy : vy < 2 ^ 256) : vx % 2 ^ (32 * i) * vy < 2 ^ (32 * (i + 8)) := by
  rw [show 32 * (i + 8) = 32 * i + 256 by omega, Nat.pow_add]
  exact Nat.mul_lt_mul_of_lt_of_le (Nat.mod_lt _ (pw_pos _)) (Nat.le_of_lt hy) (pw_pos 256)
-- bits of moved numbers
theorem tb_mul (x s t : Nat) : (x * 2 ^ s).testBit t = (decide (s ≤ t) && x.testBit (t - s)) := by
  rw [← Nat.shiftLeft_eq, Nat.testBit_shiftLeft]
theorem tb_div (x s t : Nat) : (x / 2 ^ s).testBit t = x.testBit (s + t) := by
  rw [Nat.testBit_div_two_pow, Nat.add_comm]
theorem tb_mod (x s t : Nat) : (x % 2 ^ s).testBit t = (decide (t < s) && x.testBit t) := Nat.testBit_mod_two_pow x s t
theorem mv_l (vx b i : Nat) : dg (vx * 2 ^ b) i = (((if b / 32 ≤ i then dg vx (i - b / 32) else 0) * 4294967296 ||| (if b / 32 + 1 ≤ i then dg vx (i - (b / 32 + 1)) else 0)) * 2 ^ (b % 32) % 18446744073709551616) / 4294967296 := by
  apply Nat.eq_of_testBit_eq
  intro t
  rw [dg_tb, tb_mul, show (18446744073709551616 : Nat) = 2 ^ 64 by decide, show (4294967296 : Nat) = 2 ^ 32 by decide, tb_div, tb_mod, tb_mul, Nat.testBit_or, tb_mul]
  have hs := Nat.mod_lt b (show 0 < 32 by decide)
  have hb := Nat.div_add_mod b 32
  generalize b / 32 = L at *
  generalize b % 32 = s at *
  by_cases ht : t < 32
  · rw [decide_eq_true ht, decide_eq_true (show 32 + t < 64 by omega), decide_eq_true (show s ≤ 32 + t by omega), Bool.true_and, Bool.true_and, Bool.true_and]
    by_cases h1 : s ≤ t
    · rw [decide_eq_true (show 32 ≤ 32 + t - s by omega), Bool.true_and]
      have h2 : (if L + 1 ≤ i then dg vx (i - (L + 1)) else 0).testBit (32 + t - s) = false := by
        split
        · rw [dg_tb, decide_eq_false (by omega), Bool.false_and]
        · exact Nat.zero_testBit _
      rw [h2, Bool.or_false]
      by_cases h3 : L ≤ i
      · rw [if_pos h3, dg_tb, decide_eq_true (show 32 + t - s - 32 < 32 by omega), decide_eq_true (show b ≤ 32 * i + t by omega), Bool.true_and, Bool.true_and]
        congr 1
        omega
      · rw [if_neg h3, Nat.zero_testBit, decide_eq_false (show ¬ b ≤ 32 * i + t by omega), Bool.false_and]
    · rw [decide_eq_false (show ¬ 32 ≤ 32 + t - s by omega), Bool.false_and, Bool.false_or]
      by_cases h3 : L + 1 ≤ i
      · rw [if_pos h3, dg_tb, decide_eq_true (show 32 + t - s < 32 by omega), decide_eq_true (show b ≤ 32 * i + t by omega), Bool.true_and, Bool.true_and]
        congr 1
        omega
      · rw [if_neg h3, Nat.zero_testBit, decide_eq_false (show ¬ b ≤ 32 * i + t by omega), Bool.false_and]
  · rw [decide_eq_false ht, decide_eq_false (show ¬ 32 + t < 64 by omega), Bool.false_and, Bool.false_and]
theorem mv_r (w b i : Nat) : dg (w / 2 ^ b) i = ((dg w (i + b / 32 + 1) * 4294967296 ||| dg w (i + b / 32)) / 2 ^ (b % 32)) % 4294967296 := by
  apply Nat.eq_of_testBit_eq
  intro t
  rw [dg_tb, tb_div, show (4294967296 : Nat) = 2 ^ 32 by decide, tb_mod, tb_div, Nat.testBit_or, tb_mul]
  have hs := Nat.mod_lt b (show 0 < 32 by decide)
  have hb := Nat.div_add_mod b 32
  generalize b / 32 = L at *
  generalize b % 32 = s at *
  by_cases ht : t < 32
  · rw [decide_eq_true ht, Bool.true_and, Bool.true_and, dg_tb, dg_tb]
    by_cases h1 : 32 ≤ s + t
    · rw [decide_eq_true h1, decide_eq_true (show s + t - 32 < 32 by omega), decide_eq_false (show ¬ s + t < 32 by omega), Bool.true_and, Bool.true_and, Bool.false_and, Bool.or_false]
      congr 1
      omega
    · rw [decide_eq_false h1, decide_eq_true (show s + t < 32 by omega), Bool.false_and, Bool.true_and, Bool.false_or]
      congr 1
      omega
  · rw [decide_eq_false ht, Bool.false_and, Bool.false_and]
theorem lv_ss (a b : Nat) : nI a - nI b - nI 1 = nI a - nI (b + 1) := by
  have h : nI (b + 1) = nI b + nI 1 := (nI_add b 1).symm
  rw [h, Int32.sub_eq_add_neg, Int32.sub_eq_add_neg, Int32.sub_eq_add_neg, Int32.neg_add, Int32.add_assoc, ← Int32.sub_eq_add_neg (-nI b)]
theorem limb_l {f : Nat → Int64} {i L : Nat} (hi : i < 8) (hL : L < 16) (o : Int64) : limbV f (nI i - nI L) o = if L ≤ i then f (i - L) else o := by
  unfold limbV
  by_cases h : L ≤ i
  · rw [if_pos h, pk_sub h, if_neg (nI_pos (by omega)), if_neg (nI_ge (by omega) (by decide)), nI_clamp (by omega)]
  · rw [if_neg h, if_pos (pk_sneg (by omega) (by omega))]
theorem limb_r {f : Nat → Int64} {k : Nat} (hk : k < 32) (o : Int64) : limbV f (nI k) o = if k < 8 then f k else o := by
  unfold limbV
  rw [if_neg (nI_pos (by omega))]
  by_cases h : k < 8
  · rw [if_pos h, if_neg (nI_ge h (by decide)), nI_clamp (by omega)]
  · rw [if_neg h, if_pos (nI_le (by omega) (by omega))]
end
section
-- the class's object at o: its array of rows at o + 1, the registers at o + 2 .. o + 17, result, first, second, whole, quotient, remainder at o + 18 .. o + 23
def CF (o : Nat) : List Value := [.ref (o + 1), .ref (o + 18), .ref (o + 19), .ref (o + 20), .ref (o + 21), .ref (o + 22), .ref (o + 23)]
def CB (D : va_G) (cQ : ClassId) (o : Nat) (H : Heap) : Prop := va_P D vwCl [(o, .inr (0, CF o))] H ∧ hQ H cQ (o + 1) 16 (fun i => if i < 16 then some (o + 2 + i) else none)
theorem CB.f {D : va_G} {cQ : ClassId} {o : Nat} {H H1 : Heap} {A : Nat → Prop} (h : CB D cQ o H) (hF : XF A H H1) (h0 : ¬ A o) (h1 : ¬ A (o + 1)) : CB D cQ o H1 := by
  refine ⟨h.1.kept (fun k q hq => ?_), hQ_f h.2 hF h1⟩
  have hl := (h.1 k q hq).lt
  match k, hq with
  | 0, hq => cases hq; exact hF.2 _ hl h0
  | k + 1, hq => cases hq
theorem CB.f1 {D : va_G} {cQ : ClassId} {o z : Nat} {H H1 : Heap} (h : CB D cQ o H) (hF : XF (fun q => q = z) H H1) (hz : o + 2 ≤ z) : CB D cQ o H1 := h.f hF (fun e => by have e : o = z := e; omega) (fun e => by have e : o + 1 = z := e; omega)
/-- the cells that the class's methods write -/
def CA (o : Nat) : Nat → Prop := fun q => o + 2 ≤ q ∧ q < o + 24
def DA (o : Nat) : Nat → Prop := fun q => q = o + 22 ∨ q = o + 23
theorem CB.fA {D : va_G} {cQ : ClassId} {o : Nat} {H H1 : Heap} (h : CB D cQ o H) (hF : XF (CA o) H H1) : CB D cQ o H1 := h.f hF (fun e => by have e := e.1; omega) (fun e => by have e := e.1; omega)
theorem CB.fD {D : va_G} {cQ : ClassId} {o : Nat} {H H1 : Heap} (h : CB D cQ o H) (hF : XF (DA o) H H1) : CB D cQ o H1 := h.f hF (fun e => by rcases e with e | e <;> omega) (fun e => by rcases e with e | e <;> omega)
theorem CB.rv {D : va_G} {cQ : ClassId} {o : Nat} {H : Heap} {s : State} {tys : List (ClassId × FieldType)} (h : CB D cQ o H) (hK : va_K D vwCl tys s) : ∃ cellB : Cell, H[o]? = some cellB ∧ cellB.vm.isStatics = false ∧ s.vm.findClass "WideNumbers" = some cellB.cls := va_recv (ci := 0) (q := ("WideNumbers", F_C, 7)) hK h.1 rfl (q0 := 0) rfl
-- division bit by bit
theorem dv_b (v t : Nat) : v / 2 ^ t = 2 * (v / 2 ^ (t + 1)) + v / 2 ^ t % 2 := by
  rw [Nat.pow_succ, ← Nat.div_div_eq_div_mul]
  exact (Nat.div_add_mod _ 2).symm
theorem dv_ge {T d b : Nat} (hb : b ≤ 1) (h : d ≤ 2 * (T % d) + b) (hd : 0 < d) : (2 * T + b) / d = 2 * (T / d) + 1 ∧ (2 * T + b) % d = 2 * (T % d) + b - d := by
  have e := Nat.div_add_mod T d
  have hm := Nat.mod_lt T hd
  generalize hR : T % d = R at *
  generalize hQ : T / d = Q at *
  have e2 : 2 * T + b = (2 * R + b - d) + d * (2 * Q + 1) := by
    rw [← e, Nat.mul_add d, Nat.mul_one, Nat.mul_left_comm d 2 Q]
    omega
  rw [e2, Nat.add_mul_div_left _ _ hd, Nat.add_mul_mod_self_left, Nat.div_eq_of_lt (by omega), Nat.mod_eq_of_lt (by omega)]
  omega
theorem dv_lt {T d b : Nat} (h : 2 * (T % d) + b < d) : (2 * T + b) / d = 2 * (T / d) ∧ (2 * T + b) % d = 2 * (T % d) + b := by
  have hd : 0 < d := by omega
  have e := Nat.div_add_mod T d
  generalize hR : T % d = R at *
  generalize hQ : T / d = Q at *
  have e2 : 2 * T + b = (2 * R + b) + d * (2 * Q) := by
    rw [← e, Nat.mul_left_comm d 2 Q]
    omega
  rw [e2, Nat.add_mul_div_left _ _ hd, Nat.add_mul_mod_self_left, Nat.div_eq_of_lt h, Nat.mod_eq_of_lt h]
  omega
theorem q_tw (Q t : Nat) : Q * 2 ^ (t + 1) = 2 * Q * 2 ^ t := by rw [Nat.pow_succ, Nat.mul_comm (2 ^ t) 2, ← Nat.mul_assoc, Nat.mul_comm Q 2]
theorem q_bit (Q t j : Nat) : dg ((2 * Q + 1) * 2 ^ t) j = if j = t / 32 then dg (2 * Q * 2 ^ t) j ||| 2 ^ (t % 32) else dg (2 * Q * 2 ^ t) j := by
  have key : ∀ k, ((2 * Q + 1) * 2 ^ t).testBit k = ((2 * Q * 2 ^ t).testBit k || decide (k = t)) := by
    intro k
    rw [tb_mul, tb_mul]
    by_cases h : t ≤ k
    · rw [decide_eq_true h, Bool.true_and, Bool.true_and]
      by_cases h2 : k = t
      · subst h2
        rw [Nat.sub_self, Nat.testBit_zero, decide_eq_true rfl, Bool.or_true]
        simp
      · rw [decide_eq_false h2, Bool.or_false]
        obtain ⟨u, hu⟩ : ∃ u, k - t = u + 1 := ⟨k - t - 1, by omega⟩
        rw [hu, Nat.testBit_succ, Nat.testBit_succ]
        congr 1
        omega
    · rw [decide_eq_false h, decide_eq_false (show ¬ k = t by omega)]
      rfl
  have hm := Nat.mod_lt t (show 0 < 32 by decide)
  have hd := Nat.div_add_mod t 32
  apply Nat.eq_of_testBit_eq
  intro u
  rw [dg_tb, key]
  by_cases hj : j = t / 32
  · rw [if_pos hj, Nat.testBit_or, dg_tb, Nat.testBit_two_pow]
    by_cases hu : u < 32
    · rw [decide_eq_true hu, Bool.true_and, Bool.true_and]
      congr 1
      exact decide_eq_decide.mpr ⟨fun h => by omega, fun h => by omega⟩
    · rw [decide_eq_false hu, Bool.false_and, Bool.false_and, decide_eq_false (show ¬ t % 32 = u by omega)]
      rfl
  · rw [if_neg hj, dg_tb]
    by_cases hu : u < 32
    · rw [decide_eq_false (show ¬ 32 * j + u = t by omega), Bool.or_false]
    · rw [decide_eq_false hu, Bool.false_and, Bool.false_and]
end
section
-- what each operation answers, in numbers
def ab (v : Nat) : Nat := if 2 ^ 255 ≤ v then 2 ^ 256 - v else v
/-- the number with its sign drawn out far to the left -/
def sx (u : Nat) : Nat := if 2 ^ 255 ≤ u then u + 2 ^ 256 * (2 ^ 512 - 1) else u
def sdv (a b : Nat) : Nat := if decide (2 ^ 255 ≤ a) = decide (2 ^ 255 ≤ b) then ab a / ab b else (2 ^ 256 - ab a / ab b) % 2 ^ 256
def srm (a b : Nat) : Nat := if 2 ^ 255 ≤ a then (2 ^ 256 - (if ab b = 0 then 0 else ab a % ab b)) % 2 ^ 256 else (if ab b = 0 then 0 else ab a % ab b)
def opv (op a b : Nat) : Nat := match op with
  | 0 => (a + b) % 2 ^ 256
  | 1 => (a + (2 ^ 256 - b)) % 2 ^ 256
  | 2 => a * b % 2 ^ 256
  | 3 => a / b
  | 4 => if b = 0 then 0 else a % b
  | 5 => sdv a b
  | 6 => srm a b
  | 7 => a ^ b % 2 ^ 256
  | 8 => sx (b * 2 ^ (8 * (31 - min a 31)) % 2 ^ 256) / 2 ^ (8 * (31 - min a 31)) % 2 ^ 256
  | 9 => b * 2 ^ (min a 256) % 2 ^ 256
  | 10 => b / 2 ^ (min a 256)
  | 11 => sx b / 2 ^ (min a 256) % 2 ^ 256
  | 12 => if a < 32 then b / 2 ^ (8 * (31 - a)) % 256 else 0
  | 13 => a &&& b
  | 14 => a ||| b
  | _ => a ^^^ b
theorem ab_lt {v : Nat} (h : v < 2 ^ 256) : ab v < 2 ^ 256 := by
  unfold ab
  split <;> omega
theorem NL_m {f : Nat → Int64} {v : Nat} (h : NL f 8 v) : NL f 8 (v % 2 ^ 256) := NL_cut h (Nat.le_refl 8)
theorem NI_m {f : Nat → Int32} {v : Nat} (h : NI f 8 v) : NI f 8 (v % 2 ^ 256) := NI_cut h (Nat.le_refl 8)
theorem dg_hi8 {u T k : Nat} (hu : u < 2 ^ 256) (hk : 8 ≤ k) : dg (u + 2 ^ 256 * T) k = dg T (k - 8) := by
  unfold dg
  rw [show 32 * k = 256 + 32 * (k - 8) by omega, Nat.pow_add, ← Nat.div_div_eq_div_mul, Nat.add_mul_div_left _ _ (pw_pos 256), Nat.div_eq_of_lt hu, Nat.zero_add]
theorem dg_ones {k : Nat} (hk : k < 16) : dg (2 ^ 512 - 1) k = 4294967295 := by
  apply Nat.eq_of_testBit_eq
  intro t
  rw [dg_tb, Nat.testBit_two_pow_sub_one, show (4294967295 : Nat) = 2 ^ 32 - 1 by decide, Nat.testBit_two_pow_sub_one]
  by_cases h : t < 32
  · rw [decide_eq_true h, decide_eq_true (show 32 * k + t < 512 by omega)]
    rfl
  · rw [decide_eq_false h]
    rfl
theorem dg_lo8 {u T k : Nat} (hk : k < 8) : dg (u + 2 ^ 256 * T) k = dg u k := dg_lo (i := 8) hk
theorem sx_lo {u : Nat} (k : Nat) (hk : k < 8) : dg (sx u) k = dg u k := by
  unfold sx
  split
  · exact dg_lo8 hk
  · rfl
theorem sx_hi {u : Nat} (hu : u < 2 ^ 256) (k : Nat) (h1 : 8 ≤ k) (h2 : k < 24) : dg (sx u) k = if 2 ^ 255 ≤ u then 4294967295 else 0 := by
  unfold sx
  split
  · rw [dg_hi8 hu h1, dg_ones (by omega)]
  · exact dg_big (Nat.lt_of_lt_of_le hu (pw_le (by omega)))
theorem by_8 (v k : Nat) : dg v (8 * k / 32) / 2 ^ (8 * k % 32) % 256 = v / 2 ^ (8 * k) % 256 := by
  apply Nat.eq_of_testBit_eq
  intro u
  rw [show (256 : Nat) = 2 ^ 8 by decide, tb_mod, tb_mod, tb_div, tb_div, dg_tb]
  by_cases h : u < 8
  · rw [decide_eq_true h, Bool.true_and, Bool.true_and, decide_eq_true (show 8 * k % 32 + u < 32 by omega), Bool.true_and]
    congr 1
    omega
  · rw [decide_eq_false h]
    rfl
theorem NL_s {v : Nat} (h : v < 4294967296) {f : Nat → Int64} (h0 : ∀ j, j < 8 → f j = lN 0) : NL (vp_updL f 0 (lN v)) 8 v := by
  intro j hj
  by_cases e : j = 0
  · subst e; rw [pk_uLs, dg_z h]
  · rw [pk_uLn e, h0 j hj, dg_big (Nat.lt_of_lt_of_le h (pw_le (i := 32) (by omega)))]
theorem pw_sq (x T M : Nat) : x ^ T % M * (x ^ T % M) % M = x ^ (2 * T) % M := by
  rw [← Nat.mul_mod, ← Nat.pow_add, Nat.two_mul]
theorem pw_sq1 (x T M : Nat) : x ^ (2 * T) % M * x % M = x ^ (2 * T + 1) % M := by
  rw [Nat.pow_succ, Nat.mul_mod, Nat.mod_mod, ← Nat.mul_mod]
theorem opv_lt {op a b : Nat} (ha : a < 2 ^ 256) (hb : b < 2 ^ 256) : opv op a b < 2 ^ 256 := by
  have hM : ∀ v : Nat, v % 2 ^ 256 < 2 ^ 256 := fun v => Nat.mod_lt _ (pw_pos 256)
  have hq : ab a / ab b < 2 ^ 256 := Nat.lt_of_le_of_lt (Nat.div_le_self _ _) (ab_lt ha)
  have hr : (if ab b = 0 then 0 else ab a % ab b) < 2 ^ 256 := by
    split
    · exact pw_pos 256
    · exact Nat.lt_of_le_of_lt (Nat.mod_le _ _) (ab_lt ha)
  unfold opv
  split
  · exact hM _
  · exact hM _
  · exact hM _
  · exact Nat.lt_of_le_of_lt (Nat.div_le_self _ _) ha
  · split
    · exact pw_pos 256
    · exact Nat.lt_of_le_of_lt (Nat.mod_le _ _) ha
  · unfold sdv
    split
    · exact hq
    · exact hM _
  · unfold srm
    split
    · exact hM _
    · exact hr
  · exact hM _
  · exact hM _
  · exact hM _
  · exact Nat.lt_of_le_of_lt (Nat.div_le_self _ _) hb
  · exact hM _
  · split
    · exact Nat.lt_of_lt_of_le (Nat.mod_lt _ (by decide)) (show 256 ≤ 2 ^ 256 by decide)
    · exact pw_pos 256
  · exact Nat.and_lt_two_pow a hb
  · exact Nat.or_lt_two_pow ha hb
  · exact Nat.xor_lt_two_pow ha hb
-- the scratch rows
def SA (o : Nat) : Nat → Prop := fun q => o + 18 ≤ q ∧ q < o + 24
theorem SA1 {o z : Nat} {H0 H H1 : Heap} (h : XF (SA o) H0 H) (hF : XF (fun q => q = z) H H1) (hz : o + 18 ≤ z ∧ z < o + 24) : XF (SA o) H0 H1 := h.tr hF (fun q e => by have e : q = z := e; rw [e]; exact hz)
theorem SAD {o : Nat} {H0 H H1 : Heap} (h : XF (SA o) H0 H) (hF : XF (DA o) H H1) : XF (SA o) H0 H1 := h.tr hF (fun q e => by rcases e with e | e <;> (rw [e]; exact ⟨by omega, by omega⟩))
theorem SAS {o : Nat} {H0 H H1 : Heap} (h : XF (SA o) H0 H) (hF : XF (SA o) H H1) : XF (SA o) H0 H1 := h.tr hF (fun _ e => e)
theorem CB.fS {D : va_G} {cQ : ClassId} {o : Nat} {H H1 : Heap} (h : CB D cQ o H) (hF : XF (SA o) H H1) : CB D cQ o H1 := h.f hF (fun e => by have e := e.1; omega) (fun e => by have e := e.1; omega)
theorem nDA {o a : Nat} (h : a < o + 22 ∨ o + 24 ≤ a) : ¬ DA o a := fun e => by rcases e with e | e <;> omega
theorem nSA {o a : Nat} (h : a < o + 18 ∨ o + 24 ≤ a) : ¬ SA o a := fun e => by have e1 := e.1; have e2 := e.2; omega
def SC (cJ : ClassId) (o : Nat) (H : Heap) : Prop := (∃ f, hL H cJ (o + 18) 8 f) ∧ (∃ f, hL H cJ (o + 19) 8 f) ∧ (∃ f, hL H cJ (o + 20) 8 f) ∧ (∃ f, hL H cJ (o + 21) 16 f) ∧ (∃ f, hL H cJ (o + 22) 16 f) ∧ ∃ f, hL H cJ (o + 23) 8 f
end
section
-- contracts of the leaves: bitAt, add
set_option maxHeartbeats 4000000 in
set_option maxRecDepth 100000 in
theorem c_bitAt (l : Launch) (D : va_G) (cJ cI cQ cR : ClassId) (x n b vx : Nat) (fx : Nat → Int64) (hn : n ≤ 16) (hb9 : b < 32 * n) (hN : NL fx n vx) : Met l y_C_bitAt w_C_bitAt { frames := 0, cells := 0, slots := 0, locals := 0 } (xP D vwCl (TY cJ cI cQ cR) [.ref x, .int (nI b)] (fun H => hL H cJ x n fx)) (xQl (fun r H0 H => H = H0 ∧ r = lN (vx / 2 ^ b % 2))) 0 0 (fun _ => False) := by
  refine Met.ofW (cc := b_C_bitAt) (maxL := 2) (ret := some .long) (by decide) rfl ?_
  intro p e s m args below meth c s₁ B hml hv
  obtain ⟨rfl, hK, hB⟩ := hv
  have hx := B.exec
  have hb := B.bytes
  have hr := B.returns
  have hts := atoms_spec (ws := w_C_bitAt) B.pre
  have htw : ∀ w ∈ WT, w.before _ s = true := fun w h => hts w (List.mem_cons_of_mem _ h)
  have hown : s.vm.findClass "WideNumbers" = some m.cls := findClass_of_methodNamed B.named
  have hlocks := B.notSynchronized
  have hJ : ArrOfT s cJ .long := (hK.2 0 _ rfl).1
  have hI9 : ArrOfT s cI .int := (hK.2 1 _ rfl).1
  have hl := lv_entry ([.ref x, .int (nI b)]) (n := 2) (Nat.le_of_ble_eq_true rfl)
  rw [lg_entry_eq]
  generalize (lg_sl ([.ref x, .int (nI b)]) ++ List.replicate (2 - (lg_sl ([.ref x, .int (nI b)])).length) Slot.unset).toArray = ls at hl ⊢
  have hl : lv_has ls 2 [(0, .ref x), (1, .int (nI b))] := hl
  refine lv_aload_n hx hb d_C_bitAt_0 rfl (lv_at hl 0 rfl) ?_
  refine lv_iload_n hx hb d_C_bitAt_1 rfl (lv_at hl 1 rfl) ?_
  refine lv_bipush (v := nI 32) hx hb d_C_bitAt_2 (by decide) ?_
  refine lv_idiv hx hb d_C_bitAt_4 (by decide) ?_
  refine x_topi (v := nI (b / 32)) (pk_div (by omega) (by decide) (by decide)) ?_
  refine x_lald hx hb hJ hB (b / 32) (rfl) (by omega) (by omega) (v := lN (dg vx (b / 32))) (hN _ (by omega)) d_C_bitAt_5 ?_
  refine lv_iload_n hx hb d_C_bitAt_6 rfl (lv_at hl 1 rfl) ?_
  refine lv_bipush (v := nI 32) hx hb d_C_bitAt_7 (by decide) ?_
  refine lv_irem hx hb d_C_bitAt_9 (by decide) ?_
  refine x_topi (v := nI (b % 32)) (pk_rem (by omega) (by decide) (by decide)) ?_
  have hd := dg_lt vx (b / 32)
  refine lv_lushr (v := lN (dg vx (b / 32) / 2 ^ (b % 32))) hx hb d_C_bitAt_10 (jN_shr (by omega) (by omega)) ?_
  refine lv_lconst (v := lN 1) hx hb d_C_bitAt_11 (by decide) ?_
  refine lv_land hx hb d_C_bitAt_12 ?_
  refine x_topl (v := lN (vx / 2 ^ b % 2)) (by rw [show (lN 1 : Int64) = 1 from rfl, jN_a1, dg_bit]) ?_
  exact W.lret hx hb hr (fun t ht hW => ⟨_, rfl, ht, rfl⟩) (fun _ h => nomatch h) d_C_bitAt_13
set_option maxHeartbeats 4000000 in
set_option maxRecDepth 100000 in
theorem c_add (l : Launch) (D : va_G) (cJ cI cQ cR : ClassId) (z x y n vx vy : Nat) (fz fx fy : Nat → Int64) (hn : 8 ≤ n ∧ n ≤ 16) (hxz : x ≠ z) (hyz : y ≠ z) (hvx : vx < 2 ^ 256) (hvy : vy < 2 ^ 256) (hNx : NL fx 8 vx) (hNy : NL fy 8 vy) : Met l y_C_add w_C_add { frames := 0, cells := 0, slots := 0, locals := 0 } (xP D vwCl (TY cJ cI cQ cR) [.ref z, .ref x, .ref y] (fun H => hL H cJ z n fz ∧ hL H cJ x 8 fx ∧ hL H cJ y 8 fy)) (xQl (fun r H0 H => XF (fun q => q = z) H0 H ∧ ∃ (c v : Nat) (f : Nat → Int64), r = lN c ∧ hL H cJ z n f ∧ (∀ j, 8 ≤ j → f j = fz j) ∧ NL f 8 v ∧ v < 2 ^ 256 ∧ v + 2 ^ 256 * c = vx + vy ∧ c ≤ 1)) 0 0 (fun q => q = z) := by
  refine Met.ofW (cc := b_C_add) (maxL := 8) (ret := some .long) (by decide) rfl ?_
  intro p e s m args below meth c s₁ B hml hv
  obtain ⟨rfl, hK, ⟨hz, hX, hY⟩⟩ := hv
  have hx := B.exec
  have hb := B.bytes
  have hr := B.returns
  have hts := atoms_spec (ws := w_C_add) B.pre
  have htw : ∀ w ∈ WT, w.before _ s = true := fun w h => hts w (List.mem_cons_of_mem _ h)
  have hown : s.vm.findClass "WideNumbers" = some m.cls := findClass_of_methodNamed B.named
  have hlocks := B.notSynchronized
  have hJ : ArrOfT s cJ .long := (hK.2 0 _ rfl).1
  have hI9 : ArrOfT s cI .int := (hK.2 1 _ rfl).1
  have hl := lv_entry ([.ref z, .ref x, .ref y]) (n := 8) (Nat.le_of_ble_eq_true rfl)
  rw [lg_entry_eq]
  generalize (lg_sl ([.ref z, .ref x, .ref y]) ++ List.replicate (8 - (lg_sl ([.ref z, .ref x, .ref y])).length) Slot.unset).toArray = ls at hl ⊢
  have hl : lv_has ls 8 [(0, .ref z), (1, .ref x), (2, .ref y)] := hl
  refine lv_lconst (v := lN 0) hx hb d_C_add_0 (by decide) ?_
  refine lv_lstore_n hx hb d_C_add_1 rfl hl (by decide) rfl (fun ls hl => ?_)
  have hl : lv_has ls 8 [(3, .long (lN 0)), (0, .ref z), (1, .ref x), (2, .ref y)] := hl
  refine lv_iconst (v := nI 0) hx hb d_C_add_2 (by decide) ?_
  refine lv_istore hx hb d_C_add_3 hl (by decide) rfl (fun ls hl => ?_)
  have hl : lv_has ls 8 [(5, .int (nI 0)), (3, .long (lN 0)), (0, .ref z), (1, .ref x), (2, .ref y)] := hl
  have hl : lv_has ls 8 [(5, .int (nI 0)), (3, .long (lN 0)), (0, .ref z), (1, .ref x), (2, .ref y)] := lv_sub hl [0, 1, 2, 3, 4] rfl
  refine x_loop 5 (fun i H locs ls => ∃ (c9 r : Nat) (f : Nat → Int64), lv_has ls 8 [(5, .int (nI i)), (3, .long (lN c9)), (0, .ref z), (1, .ref x), (2, .ref y)] ∧ (∀ q ∈ locs, q.base = z) ∧ XF (fun q => q = z) s.heap H ∧ hL H cJ z n f ∧ (∀ j, 8 ≤ j → f j = fz j) ∧ NL f i r ∧ r < 2 ^ (32 * i) ∧ r + 2 ^ (32 * i) * c9 = vx % 2 ^ (32 * i) + vy % 2 ^ (32 * i) ∧ c9 ≤ 1) 8 ?_ ?_ 0 _ _ _ (by omega) ?_
  · intro i H locs ls hi ⟨c9, r, f, hl, hlo, hF, hf, hhi, hN, hr9, he, hc9⟩ ih
    refine lv_iload hx hb d_C_add_5 (lv_at hl 0 rfl) ?_
    refine lv_bipush (v := nI 8) hx hb d_C_add_7 (by decide) ?_
    refine lv_icmp_ge (tgt := 47) hx hb d_C_add_9 (by decide) (fun hc => absurd hc (nI_ge (by omega) (by omega))) (fun _ => ?_)
    refine lv_aload_n hx hb d_C_add_12 rfl (lv_at hl 3 rfl) ?_
    refine lv_iload hx hb d_C_add_13 (lv_at hl 0 rfl) ?_
    refine x_lald hx hb hJ (hL_f hX hF hxz) (i) (rfl) (by omega) (by omega) (v := lN (dg vx i)) (hNx i (by omega)) d_C_add_15 ?_
    refine lv_aload_n hx hb d_C_add_16 rfl (lv_at hl 4 rfl) ?_
    refine lv_iload hx hb d_C_add_17 (lv_at hl 0 rfl) ?_
    refine x_lald hx hb hJ (hL_f hY hF hyz) (i) (rfl) (by omega) (by omega) (v := lN (dg vy i)) (hNy i (by omega)) d_C_add_19 ?_
    refine lv_ladd hx hb d_C_add_20 ?_
    refine lv_lload_n hx hb d_C_add_21 rfl (lv_at hl 1 rfl) ?_
    refine lv_ladd hx hb d_C_add_22 ?_
    refine x_topl (v := lN (dg vx i + dg vy i + c9)) (by rw [lN_add, lN_add]) ?_
    have hd1 := dg_lt vx i
    have hd2 := dg_lt vy i
    obtain ⟨S, hS⟩ : ∃ S, S = dg vx i + dg vy i + c9 := ⟨_, rfl⟩
    rw [← hS]
    refine lv_lstore hx hb d_C_add_23 hl (by decide) rfl (fun ls hl => ?_)
    have hl : lv_has ls 8 [(6, .long (lN S)), (5, .int (nI i)), (3, .long (lN c9)), (0, .ref z), (1, .ref x), (2, .ref y)] := hl
    refine lv_aload_n hx hb d_C_add_25 rfl (lv_at hl 3 rfl) ?_
    refine lv_iload hx hb d_C_add_26 (lv_at hl 1 rfl) ?_
    refine lv_lload hx hb d_C_add_28 (lv_at hl 0 rfl) ?_
    refine lv_ldc2 (v := (4294967295 : Int64)) hx hb hown (htw _ kw_126) d_C_add_30 ?_
    refine lv_land hx hb d_C_add_33 ?_
    refine x_topl (v := lN (S % 4294967296)) (jN_lo S) ?_
    refine x_last (A := fun q => q = z) hx hb hJ hf hlo (rfl) (i) (rfl) (by omega) (by omega) d_C_add_34 (fun H1 locs1 h1 hF1 hlo1 => ?_)
    refine lv_lload hx hb d_C_add_35 (lv_at hl 0 rfl) ?_
    refine lv_bipush (v := nI 32) hx hb d_C_add_37 (by decide) ?_
    refine lv_lushr (v := lN (S / 4294967296)) hx hb d_C_add_39 (jN_shr (k := 32) (by omega) (by decide)) ?_
    refine lv_lstore_n hx hb d_C_add_40 rfl hl (by decide) rfl (fun ls hl => ?_)
    have hl : lv_has ls 8 [(3, .long (lN (S / 4294967296))), (6, .long (lN S)), (5, .int (nI i)), (0, .ref z), (1, .ref x), (2, .ref y)] := hl
    refine lv_iinc (v := nI (i + 1)) (k := 2) hx hb d_C_add_41 hl rfl (nI_1 i) (by decide) rfl (fun ls hl => ?_)
    have hl : lv_has ls 8 [(5, .int (nI (i + 1))), (3, .long (lN (S / 4294967296))), (6, .long (lN S)), (0, .ref z), (1, .ref x), (2, .ref y)] := hl
    refine lv_goto (tgt := 5) hx hb d_C_add_44 (by decide) ?_
    have hl : lv_has ls 8 [(5, .int (nI (i + 1))), (3, .long (lN (S / 4294967296))), (0, .ref z), (1, .ref x), (2, .ref y)] := lv_sub hl [0, 1, 3, 4, 5] rfl
    refine ih H1 locs1 ls ⟨S / 4294967296, r + 2 ^ (32 * i) * (S % 4294967296), _, hl, hlo1, hF.tr hF1 (fun _ h => h), h1, fun j hj => by rw [pk_uLn (by omega)]; exact hhi j hj, NL_put hN hr9 (Nat.mod_lt _ (by decide)), dg_alt hr9 (Nat.mod_lt _ (by decide)), ?_, by omega⟩
    rw [dg_mods, dg_mods, pw_s]
    exact st_add he (by rw [← hS]; exact Nat.mod_add_div S 4294967296)
  · intro H locs ls ⟨c9, r, f, hl, hlo, hF, hf, hhi, hN, hr9, he, hc9⟩
    refine lv_iload hx hb d_C_add_5 (lv_at hl 0 rfl) ?_
    refine lv_bipush (v := nI 8) hx hb d_C_add_7 (by decide) ?_
    refine lv_icmp_ge (tgt := 47) hx hb d_C_add_9 (by decide) (fun _ => ?_) (fun hc => absurd (nI_le (Nat.le_refl 8) (by decide)) hc)
    refine lv_lload_n hx hb d_C_add_47 rfl (lv_at hl 1 rfl) ?_
    rw [Nat.mod_eq_of_lt hvx, Nat.mod_eq_of_lt hvy] at he
    exact W.lret hx hb hr (fun t ht hW => ⟨_, rfl, by rw [ht]; exact hF, c9, r, f, rfl, by rw [ht]; exact hf, hhi, hN, hr9, he, hc9⟩) hlo d_C_add_48
  · exact ⟨0, 0, fz, hl, (fun _ h => nomatch h), XF.rf, hz, fun _ _ => rfl, NL_0, by decide, by simp [Nat.mod_one], by decide⟩
end
section
-- contracts of the leaves
set_option maxHeartbeats 4000000 in
set_option maxRecDepth 100000 in
theorem c_subtract (l : Launch) (D : va_G) (cJ cI cQ cR : ClassId) (z x y vx vy : Nat) (fz fx fy : Nat → Int64) (hyz : y ≠ z) (hvx : vx < 2 ^ 256) (hvy : vy < 2 ^ 256) (hNx : NL fx 8 vx) (hNy : NL fy 8 vy) : Met l y_C_subtract w_C_subtract { frames := 0, cells := 0, slots := 0, locals := 0 } (xP D vwCl (TY cJ cI cQ cR) [.ref z, .ref x, .ref y] (fun H => hL H cJ z 8 fz ∧ hL H cJ x 8 fx ∧ hL H cJ y 8 fy)) (xQv (fun H0 H => XF (fun q => q = z) H0 H ∧ ∃ (v b9 : Nat) (f : Nat → Int64), hL H cJ z 8 f ∧ NL f 8 v ∧ v < 2 ^ 256 ∧ vx + 2 ^ 256 * b9 = v + vy ∧ b9 ≤ 1)) 0 0 (fun q => q = z) := by
  refine Met.ofW (cc := b_C_subtract) (maxL := 8) (ret := none) (by decide) rfl ?_
  intro p e s m args below meth c s₁ B hml hv
  obtain ⟨rfl, hK, ⟨hz, hX, hY⟩⟩ := hv
  have hx := B.exec
  have hb := B.bytes
  have hr := B.returns
  have hts := atoms_spec (ws := w_C_subtract) B.pre
  have htw : ∀ w ∈ WT, w.before _ s = true := fun w h => hts w (List.mem_cons_of_mem _ h)
  have hown : s.vm.findClass "WideNumbers" = some m.cls := findClass_of_methodNamed B.named
  have hlocks := B.notSynchronized
  have hJ : ArrOfT s cJ .long := (hK.2 0 _ rfl).1
  have hI9 : ArrOfT s cI .int := (hK.2 1 _ rfl).1
  have hl := lv_entry ([.ref z, .ref x, .ref y]) (n := 8) (Nat.le_of_ble_eq_true rfl)
  rw [lg_entry_eq]
  generalize (lg_sl ([.ref z, .ref x, .ref y]) ++ List.replicate (8 - (lg_sl ([.ref z, .ref x, .ref y])).length) Slot.unset).toArray = ls at hl ⊢
  have hl : lv_has ls 8 [(0, .ref z), (1, .ref x), (2, .ref y)] := hl
  refine lv_lconst (v := lN 0) hx hb d_C_subtract_0 (by decide) ?_
  refine lv_lstore_n hx hb d_C_subtract_1 rfl hl (by decide) rfl (fun ls hl => ?_)
  have hl : lv_has ls 8 [(3, .long (lN 0)), (0, .ref z), (1, .ref x), (2, .ref y)] := hl
  refine lv_iconst (v := nI 0) hx hb d_C_subtract_2 (by decide) ?_
  refine lv_istore hx hb d_C_subtract_3 hl (by decide) rfl (fun ls hl => ?_)
  have hl : lv_has ls 8 [(5, .int (nI 0)), (3, .long (lN 0)), (0, .ref z), (1, .ref x), (2, .ref y)] := hl
  have hl : lv_has ls 8 [(5, .int (nI 0)), (3, .long (lN 0)), (0, .ref z), (1, .ref x), (2, .ref y)] := lv_sub hl [0, 1, 2, 3, 4] rfl
  refine x_loop 5 (fun i H locs ls => ∃ (b9 r : Nat) (f gx : Nat → Int64), lv_has ls 8 [(5, .int (nI i)), (3, .long (lN b9)), (0, .ref z), (1, .ref x), (2, .ref y)] ∧ (∀ q ∈ locs, q.base = z) ∧ XF (fun q => q = z) s.heap H ∧ hL H cJ z 8 f ∧ hL H cJ x 8 gx ∧ (∀ j, i ≤ j → j < 8 → gx j = lN (dg vx j)) ∧ NL f i r ∧ r < 2 ^ (32 * i) ∧ vx % 2 ^ (32 * i) + 2 ^ (32 * i) * b9 = r + vy % 2 ^ (32 * i) ∧ b9 ≤ 1) 8 ?_ ?_ 0 _ _ _ (by omega) ?_
  · intro i H locs ls hi ⟨b9, r, f, gx, hl, hlo, hF, hf, hgx, hgv, hN, hr9, he, hb9⟩ ih
    refine lv_iload hx hb d_C_subtract_5 (lv_at hl 0 rfl) ?_
    refine lv_bipush (v := nI 8) hx hb d_C_subtract_7 (by decide) ?_
    refine lv_icmp_ge (tgt := 54) hx hb d_C_subtract_9 (by decide) (fun hc => absurd hc (nI_ge (by omega) (by omega))) (fun _ => ?_)
    refine lv_aload_n hx hb d_C_subtract_12 rfl (lv_at hl 3 rfl) ?_
    refine lv_iload hx hb d_C_subtract_13 (lv_at hl 0 rfl) ?_
    refine x_lald hx hb hJ hgx (i) (rfl) (by omega) (by omega) (v := lN (dg vx i)) (hgv i (Nat.le_refl i) hi) d_C_subtract_15 ?_
    refine lv_aload_n hx hb d_C_subtract_16 rfl (lv_at hl 4 rfl) ?_
    refine lv_iload hx hb d_C_subtract_17 (lv_at hl 0 rfl) ?_
    refine x_lald hx hb hJ (hL_f hY hF hyz) (i) (rfl) (by omega) (by omega) (v := lN (dg vy i)) (hNy i hi) d_C_subtract_19 ?_
    have hd1 := dg_lt vx i
    have hd2 := dg_lt vy i
    refine lv_lsub hx hb d_C_subtract_20 ?_
    refine lv_lload_n hx hb d_C_subtract_21 rfl (lv_at hl 1 rfl) ?_
    refine lv_lsub hx hb d_C_subtract_22 ?_
    refine x_topl (v := lN ((dg vx i + 18446744073709551616 - dg vy i + 18446744073709551616 - b9) % 18446744073709551616)) (by rw [jN_sub (by omega), jN_sub (by omega), jN_mod]) ?_
    obtain ⟨S, hS⟩ : ∃ S, S = (dg vx i + 18446744073709551616 - dg vy i + 18446744073709551616 - b9) % 18446744073709551616 := ⟨_, rfl⟩
    rw [← hS]
    refine lv_lstore hx hb d_C_subtract_23 hl (by decide) rfl (fun ls hl => ?_)
    have hl : lv_has ls 8 [(6, .long (lN S)), (5, .int (nI i)), (3, .long (lN b9)), (0, .ref z), (1, .ref x), (2, .ref y)] := hl
    refine lv_aload_n hx hb d_C_subtract_25 rfl (lv_at hl 3 rfl) ?_
    refine lv_iload hx hb d_C_subtract_26 (lv_at hl 1 rfl) ?_
    refine lv_lload hx hb d_C_subtract_28 (lv_at hl 0 rfl) ?_
    refine lv_ldc2 (v := (4294967295 : Int64)) hx hb hown (htw _ kw_126) d_C_subtract_30 ?_
    refine lv_land hx hb d_C_subtract_33 ?_
    refine x_topl (v := lN (S % 4294967296)) (jN_lo S) ?_
    refine x_last (A := fun q => q = z) hx hb hJ hf hlo (rfl) (i) (rfl) (by omega) (by omega) d_C_subtract_34 (fun H1 locs1 h1 hF1 hlo1 => ?_)
    obtain ⟨gx1, hgx1, hgv1⟩ := hL_al hf h1 hF1 hgx
    refine lv_lload hx hb d_C_subtract_35 (lv_at hl 0 rfl) ?_
    refine lv_lconst (v := lN 0) hx hb d_C_subtract_37 (by decide) ?_
    refine W.lcmp hx hb d_C_subtract_38 ?_
    refine lv_if_ge (tgt := 46) hx hb d_C_subtract_39 (by decide) (fun hc => ?_) (fun hc => ?_)
    · have hS2 : ¬ 9223372036854775808 ≤ S := fun h => absurd ((lg_cmp_ge _ _).mp hc) (Int64.not_le.mpr ((jN_neg (by omega)).mpr h))
      refine lv_lconst (v := lN 0) hx hb d_C_subtract_46 (by decide) ?_
      refine lv_lstore_n hx hb d_C_subtract_47 rfl hl (by decide) rfl (fun ls hl => ?_)
      have hl : lv_has ls 8 [(3, .long (lN 0)), (6, .long (lN S)), (5, .int (nI i)), (0, .ref z), (1, .ref x), (2, .ref y)] := hl
      refine lv_iinc (v := nI (i + 1)) (k := 2) hx hb d_C_subtract_48 hl rfl (nI_1 i) (by decide) rfl (fun ls hl => ?_)
      have hl : lv_has ls 8 [(5, .int (nI (i + 1))), (3, .long (lN 0)), (6, .long (lN S)), (0, .ref z), (1, .ref x), (2, .ref y)] := hl
      refine lv_goto (tgt := 5) hx hb d_C_subtract_51 (by decide) ?_
      have hl : lv_has ls 8 [(5, .int (nI (i + 1))), (3, .long (lN 0)), (0, .ref z), (1, .ref x), (2, .ref y)] := lv_sub hl [0, 1, 3, 4, 5] rfl
      refine ih H1 locs1 ls ⟨0, r + 2 ^ (32 * i) * (S % 4294967296), _, gx1, hl, hlo1, hF.tr hF1 (fun _ h => h), h1, hgx1, fun j hj hj8 => by rw [hgv1 j hj8 (by omega)]; exact hgv j (by omega) hj8, NL_put hN hr9 (Nat.mod_lt _ (by decide)), dg_alt hr9 (Nat.mod_lt _ (by decide)), ?_, by omega⟩
      rw [dg_mods, dg_mods, pw_s]
      exact st_sub he (by omega)
    · have hS2 : 9223372036854775808 ≤ S := (jN_neg (by omega)).mp (Int64.not_le.mp (fun h => hc ((lg_cmp_ge _ _).mpr h)))
      refine lv_lconst (v := lN 1) hx hb d_C_subtract_42 (by decide) ?_
      refine lv_goto (tgt := 47) hx hb d_C_subtract_43 (by decide) ?_
      refine lv_lstore_n hx hb d_C_subtract_47 rfl hl (by decide) rfl (fun ls hl => ?_)
      have hl : lv_has ls 8 [(3, .long (lN 1)), (6, .long (lN S)), (5, .int (nI i)), (0, .ref z), (1, .ref x), (2, .ref y)] := hl
      refine lv_iinc (v := nI (i + 1)) (k := 2) hx hb d_C_subtract_48 hl rfl (nI_1 i) (by decide) rfl (fun ls hl => ?_)
      have hl : lv_has ls 8 [(5, .int (nI (i + 1))), (3, .long (lN 1)), (6, .long (lN S)), (0, .ref z), (1, .ref x), (2, .ref y)] := hl
      refine lv_goto (tgt := 5) hx hb d_C_subtract_51 (by decide) ?_
      have hl : lv_has ls 8 [(5, .int (nI (i + 1))), (3, .long (lN 1)), (0, .ref z), (1, .ref x), (2, .ref y)] := lv_sub hl [0, 1, 3, 4, 5] rfl
      refine ih H1 locs1 ls ⟨1, r + 2 ^ (32 * i) * (S % 4294967296), _, gx1, hl, hlo1, hF.tr hF1 (fun _ h => h), h1, hgx1, fun j hj hj8 => by rw [hgv1 j hj8 (by omega)]; exact hgv j (by omega) hj8, NL_put hN hr9 (Nat.mod_lt _ (by decide)), dg_alt hr9 (Nat.mod_lt _ (by decide)), ?_, by omega⟩
      rw [dg_mods, dg_mods, pw_s]
      exact st_sub he (by omega)
  · intro H locs ls ⟨b9, r, f, gx, hl, hlo, hF, hf, hgx, hgv, hN, hr9, he, hb9⟩
    refine lv_iload hx hb d_C_subtract_5 (lv_at hl 0 rfl) ?_
    refine lv_bipush (v := nI 8) hx hb d_C_subtract_7 (by decide) ?_
    refine lv_icmp_ge (tgt := 54) hx hb d_C_subtract_9 (by decide) (fun _ => ?_) (fun hc => absurd (nI_le (Nat.le_refl _) (by omega)) hc)
    rw [Nat.mod_eq_of_lt hvx, Nat.mod_eq_of_lt hvy] at he
    exact W.vret hx hb hr (fun t ht hW => ⟨rfl, by rw [ht]; exact hF, r, b9, f, by rw [ht]; exact hf, hN, hr9, he, hb9⟩) hlo d_C_subtract_54
  · exact ⟨0, 0, fz, fx, hl, (fun _ h => nomatch h), XF.rf, hz, hX, (fun j _ h => hNx j h), NL_0, by decide, by simp [Nat.mod_one], by decide⟩
set_option maxHeartbeats 4000000 in
set_option maxRecDepth 100000 in
theorem c_dbl (l : Launch) (D : va_G) (cJ cI cQ cR : ClassId) (z vz b0 : Nat) (fz : Nat → Int64) (hvz : vz < 2 ^ 256) (hb0 : b0 ≤ 1) (hNz : NL fz 8 vz) : Met l y_C_doubleAndAdd w_C_doubleAndAdd { frames := 0, cells := 0, slots := 0, locals := 0 } (xP D vwCl (TY cJ cI cQ cR) [.ref z, .long (lN b0)] (fun H => hL H cJ z 8 fz)) (xQl (fun r H0 H => XF (fun q => q = z) H0 H ∧ ∃ (c v : Nat) (f : Nat → Int64), r = lN c ∧ hL H cJ z 8 f ∧ NL f 8 v ∧ v < 2 ^ 256 ∧ v + 2 ^ 256 * c = 2 * vz + b0 ∧ c ≤ 1)) 0 0 (fun q => q = z) := by
  refine Met.ofW (cc := b_C_doubleAndAdd) (maxL := 8) (ret := some .long) (by decide) rfl ?_
  intro p e s m args below meth c s₁ B hml hv
  obtain ⟨rfl, hK, hz⟩ := hv
  have hx := B.exec
  have hb := B.bytes
  have hr := B.returns
  have hts := atoms_spec (ws := w_C_doubleAndAdd) B.pre
  have htw : ∀ w ∈ WT, w.before _ s = true := fun w h => hts w (List.mem_cons_of_mem _ h)
  have hown : s.vm.findClass "WideNumbers" = some m.cls := findClass_of_methodNamed B.named
  have hlocks := B.notSynchronized
  have hJ : ArrOfT s cJ .long := (hK.2 0 _ rfl).1
  have hI9 : ArrOfT s cI .int := (hK.2 1 _ rfl).1
  have hl := lv_entry ([.ref z, .long (lN b0)]) (n := 8) (Nat.le_of_ble_eq_true rfl)
  rw [lg_entry_eq]
  generalize (lg_sl ([.ref z, .long (lN b0)]) ++ List.replicate (8 - (lg_sl ([.ref z, .long (lN b0)])).length) Slot.unset).toArray = ls at hl ⊢
  have hl : lv_has ls 8 [(0, .ref z), (1, .long (lN b0))] := hl
  refine lv_lload_n hx hb d_C_doubleAndAdd_0 rfl (lv_at hl 1 rfl) ?_
  refine lv_lstore_n hx hb d_C_doubleAndAdd_1 rfl hl (by decide) rfl (fun ls hl => ?_)
  have hl : lv_has ls 8 [(3, .long (lN b0)), (0, .ref z), (1, .long (lN b0))] := hl
  refine lv_iconst (v := nI 0) hx hb d_C_doubleAndAdd_2 (by decide) ?_
  refine lv_istore hx hb d_C_doubleAndAdd_3 hl (by decide) rfl (fun ls hl => ?_)
  have hl : lv_has ls 8 [(5, .int (nI 0)), (3, .long (lN b0)), (0, .ref z), (1, .long (lN b0))] := hl
  have hl : lv_has ls 8 [(5, .int (nI 0)), (3, .long (lN b0)), (0, .ref z)] := lv_sub hl [0, 1, 2] rfl
  refine x_loop 5 (fun i H locs ls => ∃ (c9 r : Nat) (f : Nat → Int64), lv_has ls 8 [(5, .int (nI i)), (3, .long (lN c9)), (0, .ref z)] ∧ (∀ q ∈ locs, q.base = z) ∧ XF (fun q => q = z) s.heap H ∧ hL H cJ z 8 f ∧ (∀ j, i ≤ j → j < 8 → f j = lN (dg vz j)) ∧ NL f i r ∧ r < 2 ^ (32 * i) ∧ r + 2 ^ (32 * i) * c9 = 2 * (vz % 2 ^ (32 * i)) + b0 ∧ c9 ≤ 1) 8 ?_ ?_ 0 _ _ _ (by omega) ?_
  · intro i H locs ls hi ⟨c9, r, f, hl, hlo, hF, hf, hfv, hN, hr9, he, hc9⟩ ih
    refine lv_iload hx hb d_C_doubleAndAdd_5 (lv_at hl 0 rfl) ?_
    refine lv_bipush (v := nI 8) hx hb d_C_doubleAndAdd_7 (by decide) ?_
    refine lv_icmp_ge (tgt := 44) hx hb d_C_doubleAndAdd_9 (by decide) (fun hc => absurd hc (nI_ge (by omega) (by omega))) (fun _ => ?_)
    refine lv_aload_n hx hb d_C_doubleAndAdd_12 rfl (lv_at hl 2 rfl) ?_
    refine lv_iload hx hb d_C_doubleAndAdd_13 (lv_at hl 0 rfl) ?_
    refine x_lald hx hb hJ hf (i) (rfl) (by omega) (by omega) (v := lN (dg vz i)) (hfv i (Nat.le_refl i) hi) d_C_doubleAndAdd_15 ?_
    have hd1 := dg_lt vz i
    refine lv_iconst (v := nI 1) hx hb d_C_doubleAndAdd_16 (by decide) ?_
    refine lv_lshl (v := lN (dg vz i * 2)) hx hb d_C_doubleAndAdd_17 (jN_shl (k := 1) _ (by decide)) ?_
    refine lv_lload_n hx hb d_C_doubleAndAdd_18 rfl (lv_at hl 1 rfl) ?_
    refine lv_lor hx hb d_C_doubleAndAdd_19 ?_
    refine x_topl (v := lN (2 * dg vz i + c9)) (by rw [jN_or, show dg vz i * 2 = dg vz i * 2 ^ 1 from rfl, or_add (show c9 < 2 ^ 1 by omega)]; exact congrArg lN (by omega)) ?_
    obtain ⟨S, hS⟩ : ∃ S, S = 2 * dg vz i + c9 := ⟨_, rfl⟩
    rw [← hS]
    refine lv_lstore hx hb d_C_doubleAndAdd_20 hl (by decide) rfl (fun ls hl => ?_)
    have hl : lv_has ls 8 [(6, .long (lN S)), (5, .int (nI i)), (3, .long (lN c9)), (0, .ref z)] := hl
    refine lv_aload_n hx hb d_C_doubleAndAdd_22 rfl (lv_at hl 3 rfl) ?_
    refine lv_iload hx hb d_C_doubleAndAdd_23 (lv_at hl 1 rfl) ?_
    refine lv_lload hx hb d_C_doubleAndAdd_25 (lv_at hl 0 rfl) ?_
    refine lv_ldc2 (v := (4294967295 : Int64)) hx hb hown (htw _ kw_126) d_C_doubleAndAdd_27 ?_
    refine lv_land hx hb d_C_doubleAndAdd_30 ?_
    refine x_topl (v := lN (S % 4294967296)) (jN_lo S) ?_
    refine x_last (A := fun q => q = z) hx hb hJ hf hlo (rfl) (i) (rfl) (by omega) (by omega) d_C_doubleAndAdd_31 (fun H1 locs1 h1 hF1 hlo1 => ?_)
    refine lv_lload hx hb d_C_doubleAndAdd_32 (lv_at hl 0 rfl) ?_
    refine lv_bipush (v := nI 32) hx hb d_C_doubleAndAdd_34 (by decide) ?_
    refine lv_lushr (v := lN (S / 4294967296)) hx hb d_C_doubleAndAdd_36 (jN_shr (k := 32) (by omega) (by decide)) ?_
    refine lv_lstore_n hx hb d_C_doubleAndAdd_37 rfl hl (by decide) rfl (fun ls hl => ?_)
    have hl : lv_has ls 8 [(3, .long (lN (S / 4294967296))), (6, .long (lN S)), (5, .int (nI i)), (0, .ref z)] := hl
    refine lv_iinc (v := nI (i + 1)) (k := 2) hx hb d_C_doubleAndAdd_38 hl rfl (nI_1 i) (by decide) rfl (fun ls hl => ?_)
    have hl : lv_has ls 8 [(5, .int (nI (i + 1))), (3, .long (lN (S / 4294967296))), (6, .long (lN S)), (0, .ref z)] := hl
    refine lv_goto (tgt := 5) hx hb d_C_doubleAndAdd_41 (by decide) ?_
    have hl : lv_has ls 8 [(5, .int (nI (i + 1))), (3, .long (lN (S / 4294967296))), (0, .ref z)] := lv_sub hl [0, 1, 3] rfl
    refine ih H1 locs1 ls ⟨S / 4294967296, r + 2 ^ (32 * i) * (S % 4294967296), _, hl, hlo1, hF.tr hF1 (fun _ h => h), h1, fun j hj hj8 => by rw [pk_uLn (by omega)]; exact hfv j (by omega) hj8, NL_put hN hr9 (Nat.mod_lt _ (by decide)), dg_alt hr9 (Nat.mod_lt _ (by decide)), ?_, by omega⟩
    rw [dg_mods, pw_s]
    exact st_dbl he (by rw [← hS]; exact Nat.mod_add_div S 4294967296)
  · intro H locs ls ⟨c9, r, f, hl, hlo, hF, hf, hfv, hN, hr9, he, hc9⟩
    refine lv_iload hx hb d_C_doubleAndAdd_5 (lv_at hl 0 rfl) ?_
    refine lv_bipush (v := nI 8) hx hb d_C_doubleAndAdd_7 (by decide) ?_
    refine lv_icmp_ge (tgt := 44) hx hb d_C_doubleAndAdd_9 (by decide) (fun _ => ?_) (fun hc => absurd (nI_le (Nat.le_refl _) (by omega)) hc)
    refine lv_lload_n hx hb d_C_doubleAndAdd_44 rfl (lv_at hl 1 rfl) ?_
    rw [Nat.mod_eq_of_lt hvz] at he
    exact W.lret hx hb hr (fun t ht hW => ⟨_, rfl, by rw [ht]; exact hF, c9, r, f, rfl, by rw [ht]; exact hf, hN, hr9, he, hc9⟩) hlo d_C_doubleAndAdd_45
  · exact ⟨b0, 0, fz, hl, (fun _ h => nomatch h), XF.rf, hz, (fun j _ h => hNz j h), NL_0, by decide, by simp [Nat.mod_one], hb0⟩
set_option maxHeartbeats 4000000 in
set_option maxRecDepth 100000 in
theorem c_negate (l : Launch) (D : va_G) (cJ cI cQ cR : ClassId) (z x n vx : Nat) (fz fx : Nat → Int64) (hn : 8 ≤ n ∧ n ≤ 16) (hxz : x ≠ z) (hvx : vx < 2 ^ 256) (hNx : NL fx 8 vx) : Met l y_C_negate w_C_negate { frames := 0, cells := 0, slots := 0, locals := 0 } (xP D vwCl (TY cJ cI cQ cR) [.ref z, .ref x] (fun H => hL H cJ z 8 fz ∧ hL H cJ x n fx)) (xQv (fun H0 H => XF (fun q => q = z) H0 H ∧ ∃ (f : Nat → Int64), hL H cJ z 8 f ∧ NL f 8 ((2 ^ 256 - vx) % 2 ^ 256))) 0 0 (fun q => q = z) := by
  refine Met.ofW (cc := b_C_negate) (maxL := 7) (ret := none) (by decide) rfl ?_
  intro p e s m args below meth c s₁ B hml hv
  obtain ⟨rfl, hK, ⟨hz, hX⟩⟩ := hv
  have hx := B.exec
  have hb := B.bytes
  have hr := B.returns
  have hts := atoms_spec (ws := w_C_negate) B.pre
  have htw : ∀ w ∈ WT, w.before _ s = true := fun w h => hts w (List.mem_cons_of_mem _ h)
  have hown : s.vm.findClass "WideNumbers" = some m.cls := findClass_of_methodNamed B.named
  have hlocks := B.notSynchronized
  have hJ : ArrOfT s cJ .long := (hK.2 0 _ rfl).1
  have hI9 : ArrOfT s cI .int := (hK.2 1 _ rfl).1
  have hl := lv_entry ([.ref z, .ref x]) (n := 7) (Nat.le_of_ble_eq_true rfl)
  rw [lg_entry_eq]
  generalize (lg_sl ([.ref z, .ref x]) ++ List.replicate (7 - (lg_sl ([.ref z, .ref x])).length) Slot.unset).toArray = ls at hl ⊢
  have hl : lv_has ls 7 [(0, .ref z), (1, .ref x)] := hl
  refine lv_lconst (v := lN 1) hx hb d_C_negate_0 (by decide) ?_
  refine lv_lstore_n hx hb d_C_negate_1 rfl hl (by decide) rfl (fun ls hl => ?_)
  have hl : lv_has ls 7 [(2, .long (lN 1)), (0, .ref z), (1, .ref x)] := hl
  refine lv_iconst (v := nI 0) hx hb d_C_negate_2 (by decide) ?_
  refine lv_istore hx hb d_C_negate_3 hl (by decide) rfl (fun ls hl => ?_)
  have hl : lv_has ls 7 [(4, .int (nI 0)), (2, .long (lN 1)), (0, .ref z), (1, .ref x)] := hl
  have hl : lv_has ls 7 [(4, .int (nI 0)), (2, .long (lN 1)), (0, .ref z), (1, .ref x)] := lv_sub hl [0, 1, 2, 3] rfl
  refine x_loop 5 (fun i H locs ls => ∃ (c9 r : Nat) (f : Nat → Int64), lv_has ls 7 [(4, .int (nI i)), (2, .long (lN c9)), (0, .ref z), (1, .ref x)] ∧ (∀ q ∈ locs, q.base = z) ∧ XF (fun q => q = z) s.heap H ∧ hL H cJ z 8 f ∧ NL f i r ∧ r < 2 ^ (32 * i) ∧ r + 2 ^ (32 * i) * c9 + vx % 2 ^ (32 * i) = 2 ^ (32 * i) ∧ c9 ≤ 1) 8 ?_ ?_ 0 _ _ _ (by omega) ?_
  · intro i H locs ls hi ⟨c9, r, f, hl, hlo, hF, hf, hN, hr9, he, hc9⟩ ih
    refine lv_iload hx hb d_C_negate_5 (lv_at hl 0 rfl) ?_
    refine lv_bipush (v := nI 8) hx hb d_C_negate_7 (by decide) ?_
    refine lv_icmp_ge (tgt := 46) hx hb d_C_negate_9 (by decide) (fun hc => absurd hc (nI_ge (by omega) (by omega))) (fun _ => ?_)
    refine lv_aload_n hx hb d_C_negate_12 rfl (lv_at hl 3 rfl) ?_
    refine lv_iload hx hb d_C_negate_13 (lv_at hl 0 rfl) ?_
    refine x_lald hx hb hJ (hL_f hX hF hxz) (i) (rfl) (by omega) (by omega) (v := lN (dg vx i)) (hNx i hi) d_C_negate_15 ?_
    have hd1 := dg_lt vx i
    refine lv_ldc2 (v := (4294967295 : Int64)) hx hb hown (htw _ kw_126) d_C_negate_16 ?_
    refine lv_lxor hx hb d_C_negate_19 ?_
    refine x_topl (v := lN (4294967295 - dg vx i)) (by rw [show (4294967295 : Int64) = lN 4294967295 from rfl, jN_xor, xor_lo hd1]) ?_
    refine lv_lload_n hx hb d_C_negate_20 rfl (lv_at hl 1 rfl) ?_
    refine lv_ladd hx hb d_C_negate_21 ?_
    refine x_topl (v := lN (4294967295 - dg vx i + c9)) (lN_add _ _) ?_
    obtain ⟨S, hS⟩ : ∃ S, S = 4294967295 - dg vx i + c9 := ⟨_, rfl⟩
    rw [← hS]
    refine lv_lstore hx hb d_C_negate_22 hl (by decide) rfl (fun ls hl => ?_)
    have hl : lv_has ls 7 [(5, .long (lN S)), (4, .int (nI i)), (2, .long (lN c9)), (0, .ref z), (1, .ref x)] := hl
    refine lv_aload_n hx hb d_C_negate_24 rfl (lv_at hl 3 rfl) ?_
    refine lv_iload hx hb d_C_negate_25 (lv_at hl 1 rfl) ?_
    refine lv_lload hx hb d_C_negate_27 (lv_at hl 0 rfl) ?_
    refine lv_ldc2 (v := (4294967295 : Int64)) hx hb hown (htw _ kw_126) d_C_negate_29 ?_
    refine lv_land hx hb d_C_negate_32 ?_
    refine x_topl (v := lN (S % 4294967296)) (jN_lo S) ?_
    refine x_last (A := fun q => q = z) hx hb hJ hf hlo (rfl) (i) (rfl) (by omega) (by omega) d_C_negate_33 (fun H1 locs1 h1 hF1 hlo1 => ?_)
    refine lv_lload hx hb d_C_negate_34 (lv_at hl 0 rfl) ?_
    refine lv_bipush (v := nI 32) hx hb d_C_negate_36 (by decide) ?_
    refine lv_lushr (v := lN (S / 4294967296)) hx hb d_C_negate_38 (jN_shr (k := 32) (by omega) (by decide)) ?_
    refine lv_lstore_n hx hb d_C_negate_39 rfl hl (by decide) rfl (fun ls hl => ?_)
    have hl : lv_has ls 7 [(2, .long (lN (S / 4294967296))), (5, .long (lN S)), (4, .int (nI i)), (0, .ref z), (1, .ref x)] := hl
    refine lv_iinc (v := nI (i + 1)) (k := 2) hx hb d_C_negate_40 hl rfl (nI_1 i) (by decide) rfl (fun ls hl => ?_)
    have hl : lv_has ls 7 [(4, .int (nI (i + 1))), (2, .long (lN (S / 4294967296))), (5, .long (lN S)), (0, .ref z), (1, .ref x)] := hl
    refine lv_goto (tgt := 5) hx hb d_C_negate_43 (by decide) ?_
    have hl : lv_has ls 7 [(4, .int (nI (i + 1))), (2, .long (lN (S / 4294967296))), (0, .ref z), (1, .ref x)] := lv_sub hl [0, 1, 3, 4] rfl
    refine ih H1 locs1 ls ⟨S / 4294967296, r + 2 ^ (32 * i) * (S % 4294967296), _, hl, hlo1, hF.tr hF1 (fun _ h => h), h1, NL_put hN hr9 (Nat.mod_lt _ (by decide)), dg_alt hr9 (Nat.mod_lt _ (by decide)), ?_, by omega⟩
    rw [dg_mods, pw_s]
    exact st_neg he (by omega)
  · intro H locs ls ⟨c9, r, f, hl, hlo, hF, hf, hN, hr9, he, hc9⟩
    refine lv_iload hx hb d_C_negate_5 (lv_at hl 0 rfl) ?_
    refine lv_bipush (v := nI 8) hx hb d_C_negate_7 (by decide) ?_
    refine lv_icmp_ge (tgt := 46) hx hb d_C_negate_9 (by decide) (fun _ => ?_) (fun hc => absurd (nI_le (Nat.le_refl _) (by omega)) hc)
    rw [Nat.mod_eq_of_lt hvx] at he
    have hv : r = (2 ^ 256 - vx) % 2 ^ 256 := by omega
    rw [hv] at hN
    exact W.vret hx hb hr (fun t ht hW => ⟨rfl, by rw [ht]; exact hF, f, by rw [ht]; exact hf, hN⟩) hlo d_C_negate_46
  · exact ⟨1, 0, fz, hl, (fun _ h => nomatch h), XF.rf, hz, NL_0, by decide, by simp [Nat.mod_one], by decide⟩
set_option maxHeartbeats 4000000 in
set_option maxRecDepth 100000 in
theorem c_and (l : Launch) (D : va_G) (cJ cI cQ cR : ClassId) (z x y vx vy : Nat) (fz fx fy : Nat → Int64) (hxz : x ≠ z) (hyz : y ≠ z) (hNx : NL fx 8 vx) (hNy : NL fy 8 vy) : Met l y_C_and w_C_and { frames := 0, cells := 0, slots := 0, locals := 0 } (xP D vwCl (TY cJ cI cQ cR) [.ref z, .ref x, .ref y] (fun H => hL H cJ z 8 fz ∧ hL H cJ x 8 fx ∧ hL H cJ y 8 fy)) (xQv (fun H0 H => XF (fun q => q = z) H0 H ∧ ∃ (f : Nat → Int64), hL H cJ z 8 f ∧ NL f 8 (vx &&& vy))) 0 0 (fun q => q = z) := by
  refine Met.ofW (cc := b_C_and) (maxL := 4) (ret := none) (by decide) rfl ?_
  intro p e s m args below meth c s₁ B hml hv
  obtain ⟨rfl, hK, ⟨hz, hX, hY⟩⟩ := hv
  have hx := B.exec
  have hb := B.bytes
  have hr := B.returns
  have hts := atoms_spec (ws := w_C_and) B.pre
  have htw : ∀ w ∈ WT, w.before _ s = true := fun w h => hts w (List.mem_cons_of_mem _ h)
  have hown : s.vm.findClass "WideNumbers" = some m.cls := findClass_of_methodNamed B.named
  have hlocks := B.notSynchronized
  have hJ : ArrOfT s cJ .long := (hK.2 0 _ rfl).1
  have hI9 : ArrOfT s cI .int := (hK.2 1 _ rfl).1
  have hl := lv_entry ([.ref z, .ref x, .ref y]) (n := 4) (Nat.le_of_ble_eq_true rfl)
  rw [lg_entry_eq]
  generalize (lg_sl ([.ref z, .ref x, .ref y]) ++ List.replicate (4 - (lg_sl ([.ref z, .ref x, .ref y])).length) Slot.unset).toArray = ls at hl ⊢
  have hl : lv_has ls 4 [(0, .ref z), (1, .ref x), (2, .ref y)] := hl
  refine lv_iconst (v := nI 0) hx hb d_C_and_0 (by decide) ?_
  refine lv_istore_n hx hb d_C_and_1 rfl hl (by decide) rfl (fun ls hl => ?_)
  have hl : lv_has ls 4 [(3, .int (nI 0)), (0, .ref z), (1, .ref x), (2, .ref y)] := hl
  have hl : lv_has ls 4 [(3, .int (nI 0)), (0, .ref z), (1, .ref x), (2, .ref y)] := lv_sub hl [0, 1, 2, 3] rfl
  refine x_loop 2 (fun i H locs ls => ∃ (f : Nat → Int64), lv_has ls 4 [(3, .int (nI i)), (0, .ref z), (1, .ref x), (2, .ref y)] ∧ (∀ q ∈ locs, q.base = z) ∧ XF (fun q => q = z) s.heap H ∧ hL H cJ z 8 f ∧ NL f i (vx &&& vy)) 8 ?_ ?_ 0 _ _ _ (by omega) ?_
  · intro i H locs ls hi ⟨f, hl, hlo, hF, hf, hN⟩ ih
    refine lv_iload_n hx hb d_C_and_2 rfl (lv_at hl 0 rfl) ?_
    refine lv_bipush (v := nI 8) hx hb d_C_and_3 (by decide) ?_
    refine lv_icmp_ge (tgt := 24) hx hb d_C_and_5 (by decide) (fun hc => absurd hc (nI_ge (by omega) (by omega))) (fun _ => ?_)
    refine lv_aload_n hx hb d_C_and_8 rfl (lv_at hl 1 rfl) ?_
    refine lv_iload_n hx hb d_C_and_9 rfl (lv_at hl 0 rfl) ?_
    refine lv_aload_n hx hb d_C_and_10 rfl (lv_at hl 2 rfl) ?_
    refine lv_iload_n hx hb d_C_and_11 rfl (lv_at hl 0 rfl) ?_
    refine x_lald hx hb hJ (hL_f hX hF hxz) (i) (rfl) (by omega) (by omega) (v := lN (dg vx i)) (hNx i hi) d_C_and_12 ?_
    refine lv_aload_n hx hb d_C_and_13 rfl (lv_at hl 3 rfl) ?_
    refine lv_iload_n hx hb d_C_and_14 rfl (lv_at hl 0 rfl) ?_
    refine x_lald hx hb hJ (hL_f hY hF hyz) (i) (rfl) (by omega) (by omega) (v := lN (dg vy i)) (hNy i hi) d_C_and_15 ?_
    refine lv_land hx hb d_C_and_16 ?_
    refine x_topl (v := lN (dg (vx &&& vy) i)) (by rw [jN_and, dg_and]) ?_
    refine x_last (A := fun q => q = z) hx hb hJ hf hlo (rfl) (i) (rfl) (by omega) (by omega) d_C_and_17 (fun H1 locs1 h1 hF1 hlo1 => ?_)
    refine lv_iinc (v := nI (i + 1)) (k := 0) hx hb d_C_and_18 hl rfl (nI_1 i) (by decide) rfl (fun ls hl => ?_)
    have hl : lv_has ls 4 [(3, .int (nI (i + 1))), (0, .ref z), (1, .ref x), (2, .ref y)] := hl
    refine lv_goto (tgt := 2) hx hb d_C_and_21 (by decide) ?_
    have hl : lv_has ls 4 [(3, .int (nI (i + 1))), (0, .ref z), (1, .ref x), (2, .ref y)] := lv_sub hl [0, 1, 2, 3] rfl
    exact ih H1 locs1 ls ⟨_, hl, hlo1, hF.tr hF1 (fun _ h => h), h1, NL_up hN⟩
  · intro H locs ls ⟨f, hl, hlo, hF, hf, hN⟩
    refine lv_iload_n hx hb d_C_and_2 rfl (lv_at hl 0 rfl) ?_
    refine lv_bipush (v := nI 8) hx hb d_C_and_3 (by decide) ?_
    refine lv_icmp_ge (tgt := 24) hx hb d_C_and_5 (by decide) (fun _ => ?_) (fun hc => absurd (nI_le (Nat.le_refl _) (by omega)) hc)
    exact W.vret hx hb hr (fun t ht hW => ⟨rfl, by rw [ht]; exact hF, f, by rw [ht]; exact hf, hN⟩) hlo d_C_and_24
  · exact ⟨fz, hl, (fun _ h => nomatch h), XF.rf, hz, NL_0⟩
set_option maxHeartbeats 4000000 in
set_option maxRecDepth 100000 in
theorem c_or (l : Launch) (D : va_G) (cJ cI cQ cR : ClassId) (z x y vx vy : Nat) (fz fx fy : Nat → Int64) (hxz : x ≠ z) (hyz : y ≠ z) (hNx : NL fx 8 vx) (hNy : NL fy 8 vy) : Met l y_C_or w_C_or { frames := 0, cells := 0, slots := 0, locals := 0 } (xP D vwCl (TY cJ cI cQ cR) [.ref z, .ref x, .ref y] (fun H => hL H cJ z 8 fz ∧ hL H cJ x 8 fx ∧ hL H cJ y 8 fy)) (xQv (fun H0 H => XF (fun q => q = z) H0 H ∧ ∃ (f : Nat → Int64), hL H cJ z 8 f ∧ NL f 8 (vx ||| vy))) 0 0 (fun q => q = z) := by
  refine Met.ofW (cc := b_C_or) (maxL := 4) (ret := none) (by decide) rfl ?_
  intro p e s m args below meth c s₁ B hml hv
  obtain ⟨rfl, hK, ⟨hz, hX, hY⟩⟩ := hv
  have hx := B.exec
  have hb := B.bytes
  have hr := B.returns
  have hts := atoms_spec (ws := w_C_or) B.pre
  have htw : ∀ w ∈ WT, w.before _ s = true := fun w h => hts w (List.mem_cons_of_mem _ h)
  have hown : s.vm.findClass "WideNumbers" = some m.cls := findClass_of_methodNamed B.named
  have hlocks := B.notSynchronized
  have hJ : ArrOfT s cJ .long := (hK.2 0 _ rfl).1
  have hI9 : ArrOfT s cI .int := (hK.2 1 _ rfl).1
  have hl := lv_entry ([.ref z, .ref x, .ref y]) (n := 4) (Nat.le_of_ble_eq_true rfl)
  rw [lg_entry_eq]
  generalize (lg_sl ([.ref z, .ref x, .ref y]) ++ List.replicate (4 - (lg_sl ([.ref z, .ref x, .ref y])).length) Slot.unset).toArray = ls at hl ⊢
  have hl : lv_has ls 4 [(0, .ref z), (1, .ref x), (2, .ref y)] := hl
  refine lv_iconst (v := nI 0) hx hb d_C_or_0 (by decide) ?_
  refine lv_istore_n hx hb d_C_or_1 rfl hl (by decide) rfl (fun ls hl => ?_)
  have hl : lv_has ls 4 [(3, .int (nI 0)), (0, .ref z), (1, .ref x), (2, .ref y)] := hl
  have hl : lv_has ls 4 [(3, .int (nI 0)), (0, .ref z), (1, .ref x), (2, .ref y)] := lv_sub hl [0, 1, 2, 3] rfl
  refine x_loop 2 (fun i H locs ls => ∃ (f : Nat → Int64), lv_has ls 4 [(3, .int (nI i)), (0, .ref z), (1, .ref x), (2, .ref y)] ∧ (∀ q ∈ locs, q.base = z) ∧ XF (fun q => q = z) s.heap H ∧ hL H cJ z 8 f ∧ NL f i (vx ||| vy)) 8 ?_ ?_ 0 _ _ _ (by omega) ?_
  · intro i H locs ls hi ⟨f, hl, hlo, hF, hf, hN⟩ ih
    refine lv_iload_n hx hb d_C_or_2 rfl (lv_at hl 0 rfl) ?_
    refine lv_bipush (v := nI 8) hx hb d_C_or_3 (by decide) ?_
    refine lv_icmp_ge (tgt := 24) hx hb d_C_or_5 (by decide) (fun hc => absurd hc (nI_ge (by omega) (by omega))) (fun _ => ?_)
    refine lv_aload_n hx hb d_C_or_8 rfl (lv_at hl 1 rfl) ?_
    refine lv_iload_n hx hb d_C_or_9 rfl (lv_at hl 0 rfl) ?_
    refine lv_aload_n hx hb d_C_or_10 rfl (lv_at hl 2 rfl) ?_
    refine lv_iload_n hx hb d_C_or_11 rfl (lv_at hl 0 rfl) ?_
    refine x_lald hx hb hJ (hL_f hX hF hxz) (i) (rfl) (by omega) (by omega) (v := lN (dg vx i)) (hNx i hi) d_C_or_12 ?_
    refine lv_aload_n hx hb d_C_or_13 rfl (lv_at hl 3 rfl) ?_
    refine lv_iload_n hx hb d_C_or_14 rfl (lv_at hl 0 rfl) ?_
    refine x_lald hx hb hJ (hL_f hY hF hyz) (i) (rfl) (by omega) (by omega) (v := lN (dg vy i)) (hNy i hi) d_C_or_15 ?_
    refine lv_lor hx hb d_C_or_16 ?_
    refine x_topl (v := lN (dg (vx ||| vy) i)) (by rw [jN_or, dg_or]) ?_
    refine x_last (A := fun q => q = z) hx hb hJ hf hlo (rfl) (i) (rfl) (by omega) (by omega) d_C_or_17 (fun H1 locs1 h1 hF1 hlo1 => ?_)
    refine lv_iinc (v := nI (i + 1)) (k := 0) hx hb d_C_or_18 hl rfl (nI_1 i) (by decide) rfl (fun ls hl => ?_)
    have hl : lv_has ls 4 [(3, .int (nI (i + 1))), (0, .ref z), (1, .ref x), (2, .ref y)] := hl
    refine lv_goto (tgt := 2) hx hb d_C_or_21 (by decide) ?_
    have hl : lv_has ls 4 [(3, .int (nI (i + 1))), (0, .ref z), (1, .ref x), (2, .ref y)] := lv_sub hl [0, 1, 2, 3] rfl
    exact ih H1 locs1 ls ⟨_, hl, hlo1, hF.tr hF1 (fun _ h => h), h1, NL_up hN⟩
  · intro H locs ls ⟨f, hl, hlo, hF, hf, hN⟩
    refine lv_iload_n hx hb d_C_or_2 rfl (lv_at hl 0 rfl) ?_
    refine lv_bipush (v := nI 8) hx hb d_C_or_3 (by decide) ?_
    refine lv_icmp_ge (tgt := 24) hx hb d_C_or_5 (by decide) (fun _ => ?_) (fun hc => absurd (nI_le (Nat.le_refl _) (by omega)) hc)
    exact W.vret hx hb hr (fun t ht hW => ⟨rfl, by rw [ht]; exact hF, f, by rw [ht]; exact hf, hN⟩) hlo d_C_or_24
  · exact ⟨fz, hl, (fun _ h => nomatch h), XF.rf, hz, NL_0⟩
set_option maxHeartbeats 4000000 in
set_option maxRecDepth 100000 in
theorem c_xor (l : Launch) (D : va_G) (cJ cI cQ cR : ClassId) (z x y vx vy : Nat) (fz fx fy : Nat → Int64) (hxz : x ≠ z) (hyz : y ≠ z) (hNx : NL fx 8 vx) (hNy : NL fy 8 vy) : Met l y_C_exclusiveOr w_C_exclusiveOr { frames := 0, cells := 0, slots := 0, locals := 0 } (xP D vwCl (TY cJ cI cQ cR) [.ref z, .ref x, .ref y] (fun H => hL H cJ z 8 fz ∧ hL H cJ x 8 fx ∧ hL H cJ y 8 fy)) (xQv (fun H0 H => XF (fun q => q = z) H0 H ∧ ∃ (f : Nat → Int64), hL H cJ z 8 f ∧ NL f 8 (vx ^^^ vy))) 0 0 (fun q => q = z) := by
  refine Met.ofW (cc := b_C_exclusiveOr) (maxL := 4) (ret := none) (by decide) rfl ?_
  intro p e s m args below meth c s₁ B hml hv
  obtain ⟨rfl, hK, ⟨hz, hX, hY⟩⟩ := hv
  have hx := B.exec
  have hb := B.bytes
  have hr := B.returns
  have hts := atoms_spec (ws := w_C_exclusiveOr) B.pre
  have htw : ∀ w ∈ WT, w.before _ s = true := fun w h => hts w (List.mem_cons_of_mem _ h)
  have hown : s.vm.findClass "WideNumbers" = some m.cls := findClass_of_methodNamed B.named
  have hlocks := B.notSynchronized
  have hJ : ArrOfT s cJ .long := (hK.2 0 _ rfl).1
  have hI9 : ArrOfT s cI .int := (hK.2 1 _ rfl).1
  have hl := lv_entry ([.ref z, .ref x, .ref y]) (n := 4) (Nat.le_of_ble_eq_true rfl)
  rw [lg_entry_eq]
  generalize (lg_sl ([.ref z, .ref x, .ref y]) ++ List.replicate (4 - (lg_sl ([.ref z, .ref x, .ref y])).length) Slot.unset).toArray = ls at hl ⊢
  have hl : lv_has ls 4 [(0, .ref z), (1, .ref x), (2, .ref y)] := hl
  refine lv_iconst (v := nI 0) hx hb d_C_exclusiveOr_0 (by decide) ?_
  refine lv_istore_n hx hb d_C_exclusiveOr_1 rfl hl (by decide) rfl (fun ls hl => ?_)
  have hl : lv_has ls 4 [(3, .int (nI 0)), (0, .ref z), (1, .ref x), (2, .ref y)] := hl
  have hl : lv_has ls 4 [(3, .int (nI 0)), (0, .ref z), (1, .ref x), (2, .ref y)] := lv_sub hl [0, 1, 2, 3] rfl
  refine x_loop 2 (fun i H locs ls => ∃ (f : Nat → Int64), lv_has ls 4 [(3, .int (nI i)), (0, .ref z), (1, .ref x), (2, .ref y)] ∧ (∀ q ∈ locs, q.base = z) ∧ XF (fun q => q = z) s.heap H ∧ hL H cJ z 8 f ∧ NL f i (vx ^^^ vy)) 8 ?_ ?_ 0 _ _ _ (by omega) ?_
  · intro i H locs ls hi ⟨f, hl, hlo, hF, hf, hN⟩ ih
    refine lv_iload_n hx hb d_C_exclusiveOr_2 rfl (lv_at hl 0 rfl) ?_
    refine lv_bipush (v := nI 8) hx hb d_C_exclusiveOr_3 (by decide) ?_
    refine lv_icmp_ge (tgt := 24) hx hb d_C_exclusiveOr_5 (by decide) (fun hc => absurd hc (nI_ge (by omega) (by omega))) (fun _ => ?_)
    refine lv_aload_n hx hb d_C_exclusiveOr_8 rfl (lv_at hl 1 rfl) ?_
    refine lv_iload_n hx hb d_C_exclusiveOr_9 rfl (lv_at hl 0 rfl) ?_
    refine lv_aload_n hx hb d_C_exclusiveOr_10 rfl (lv_at hl 2 rfl) ?_
    refine lv_iload_n hx hb d_C_exclusiveOr_11 rfl (lv_at hl 0 rfl) ?_
    refine x_lald hx hb hJ (hL_f hX hF hxz) (i) (rfl) (by omega) (by omega) (v := lN (dg vx i)) (hNx i hi) d_C_exclusiveOr_12 ?_
    refine lv_aload_n hx hb d_C_exclusiveOr_13 rfl (lv_at hl 3 rfl) ?_
    refine lv_iload_n hx hb d_C_exclusiveOr_14 rfl (lv_at hl 0 rfl) ?_
    refine x_lald hx hb hJ (hL_f hY hF hyz) (i) (rfl) (by omega) (by omega) (v := lN (dg vy i)) (hNy i hi) d_C_exclusiveOr_15 ?_
    refine lv_lxor hx hb d_C_exclusiveOr_16 ?_
    refine x_topl (v := lN (dg (vx ^^^ vy) i)) (by rw [jN_xor, dg_xor]) ?_
    refine x_last (A := fun q => q = z) hx hb hJ hf hlo (rfl) (i) (rfl) (by omega) (by omega) d_C_exclusiveOr_17 (fun H1 locs1 h1 hF1 hlo1 => ?_)
    refine lv_iinc (v := nI (i + 1)) (k := 0) hx hb d_C_exclusiveOr_18 hl rfl (nI_1 i) (by decide) rfl (fun ls hl => ?_)
    have hl : lv_has ls 4 [(3, .int (nI (i + 1))), (0, .ref z), (1, .ref x), (2, .ref y)] := hl
    refine lv_goto (tgt := 2) hx hb d_C_exclusiveOr_21 (by decide) ?_
    have hl : lv_has ls 4 [(3, .int (nI (i + 1))), (0, .ref z), (1, .ref x), (2, .ref y)] := lv_sub hl [0, 1, 2, 3] rfl
    exact ih H1 locs1 ls ⟨_, hl, hlo1, hF.tr hF1 (fun _ h => h), h1, NL_up hN⟩
  · intro H locs ls ⟨f, hl, hlo, hF, hf, hN⟩
    refine lv_iload_n hx hb d_C_exclusiveOr_2 rfl (lv_at hl 0 rfl) ?_
    refine lv_bipush (v := nI 8) hx hb d_C_exclusiveOr_3 (by decide) ?_
    refine lv_icmp_ge (tgt := 24) hx hb d_C_exclusiveOr_5 (by decide) (fun _ => ?_) (fun hc => absurd (nI_le (Nat.le_refl _) (by omega)) hc)
    exact W.vret hx hb hr (fun t ht hW => ⟨rfl, by rw [ht]; exact hF, f, by rw [ht]; exact hf, hN⟩) hlo d_C_exclusiveOr_24
  · exact ⟨fz, hl, (fun _ h => nomatch h), XF.rf, hz, NL_0⟩
set_option maxHeartbeats 4000000 in
set_option maxRecDepth 100000 in
theorem c_invert (l : Launch) (D : va_G) (cJ cI cQ cR : ClassId) (z x vx : Nat) (fz fx : Nat → Int64) (hxz : x ≠ z) (hvx : vx < 2 ^ 256) (hNx : NL fx 8 vx) : Met l y_C_invert w_C_invert { frames := 0, cells := 0, slots := 0, locals := 0 } (xP D vwCl (TY cJ cI cQ cR) [.ref z, .ref x] (fun H => hL H cJ z 8 fz ∧ hL H cJ x 8 fx)) (xQv (fun H0 H => XF (fun q => q = z) H0 H ∧ ∃ (f : Nat → Int64), hL H cJ z 8 f ∧ NL f 8 (2 ^ 256 - (vx + 1)))) 0 0 (fun q => q = z) := by
  refine Met.ofW (cc := b_C_invert) (maxL := 3) (ret := none) (by decide) rfl ?_
  intro p e s m args below meth c s₁ B hml hv
  obtain ⟨rfl, hK, ⟨hz, hX⟩⟩ := hv
  have hx := B.exec
  have hb := B.bytes
  have hr := B.returns
  have hts := atoms_spec (ws := w_C_invert) B.pre
  have htw : ∀ w ∈ WT, w.before _ s = true := fun w h => hts w (List.mem_cons_of_mem _ h)
  have hown : s.vm.findClass "WideNumbers" = some m.cls := findClass_of_methodNamed B.named
  have hlocks := B.notSynchronized
  have hJ : ArrOfT s cJ .long := (hK.2 0 _ rfl).1
  have hI9 : ArrOfT s cI .int := (hK.2 1 _ rfl).1
  have hl := lv_entry ([.ref z, .ref x]) (n := 3) (Nat.le_of_ble_eq_true rfl)
  rw [lg_entry_eq]
  generalize (lg_sl ([.ref z, .ref x]) ++ List.replicate (3 - (lg_sl ([.ref z, .ref x])).length) Slot.unset).toArray = ls at hl ⊢
  have hl : lv_has ls 3 [(0, .ref z), (1, .ref x)] := hl
  refine lv_iconst (v := nI 0) hx hb d_C_invert_0 (by decide) ?_
  refine lv_istore_n hx hb d_C_invert_1 rfl hl (by decide) rfl (fun ls hl => ?_)
  have hl : lv_has ls 3 [(2, .int (nI 0)), (0, .ref z), (1, .ref x)] := hl
  have hl : lv_has ls 3 [(2, .int (nI 0)), (0, .ref z), (1, .ref x)] := lv_sub hl [0, 1, 2] rfl
  refine x_loop 2 (fun i H locs ls => ∃ (f : Nat → Int64), lv_has ls 3 [(2, .int (nI i)), (0, .ref z), (1, .ref x)] ∧ (∀ q ∈ locs, q.base = z) ∧ XF (fun q => q = z) s.heap H ∧ hL H cJ z 8 f ∧ NL f i (2 ^ 256 - (vx + 1))) 8 ?_ ?_ 0 _ _ _ (by omega) ?_
  · intro i H locs ls hi ⟨f, hl, hlo, hF, hf, hN⟩ ih
    refine lv_iload_n hx hb d_C_invert_2 rfl (lv_at hl 0 rfl) ?_
    refine lv_bipush (v := nI 8) hx hb d_C_invert_3 (by decide) ?_
    refine lv_icmp_ge (tgt := 24) hx hb d_C_invert_5 (by decide) (fun hc => absurd hc (nI_ge (by omega) (by omega))) (fun _ => ?_)
    refine lv_aload_n hx hb d_C_invert_8 rfl (lv_at hl 1 rfl) ?_
    refine lv_iload_n hx hb d_C_invert_9 rfl (lv_at hl 0 rfl) ?_
    refine lv_aload_n hx hb d_C_invert_10 rfl (lv_at hl 2 rfl) ?_
    refine lv_iload_n hx hb d_C_invert_11 rfl (lv_at hl 0 rfl) ?_
    refine x_lald hx hb hJ (hL_f hX hF hxz) (i) (rfl) (by omega) (by omega) (v := lN (dg vx i)) (hNx i hi) d_C_invert_12 ?_
    refine lv_ldc2 (v := (4294967295 : Int64)) hx hb hown (htw _ kw_126) d_C_invert_13 ?_
    refine lv_lxor hx hb d_C_invert_16 ?_
    refine x_topl (v := lN (dg (2 ^ 256 - (vx + 1)) i)) (by rw [show (4294967295 : Int64) = lN 4294967295 from rfl, jN_xor, dg_not hvx hi]) ?_
    refine x_last (A := fun q => q = z) hx hb hJ hf hlo (rfl) (i) (rfl) (by omega) (by omega) d_C_invert_17 (fun H1 locs1 h1 hF1 hlo1 => ?_)
    refine lv_iinc (v := nI (i + 1)) (k := 0) hx hb d_C_invert_18 hl rfl (nI_1 i) (by decide) rfl (fun ls hl => ?_)
    have hl : lv_has ls 3 [(2, .int (nI (i + 1))), (0, .ref z), (1, .ref x)] := hl
    refine lv_goto (tgt := 2) hx hb d_C_invert_21 (by decide) ?_
    have hl : lv_has ls 3 [(2, .int (nI (i + 1))), (0, .ref z), (1, .ref x)] := lv_sub hl [0, 1, 2] rfl
    exact ih H1 locs1 ls ⟨_, hl, hlo1, hF.tr hF1 (fun _ h => h), h1, NL_up hN⟩
  · intro H locs ls ⟨f, hl, hlo, hF, hf, hN⟩
    refine lv_iload_n hx hb d_C_invert_2 rfl (lv_at hl 0 rfl) ?_
    refine lv_bipush (v := nI 8) hx hb d_C_invert_3 (by decide) ?_
    refine lv_icmp_ge (tgt := 24) hx hb d_C_invert_5 (by decide) (fun _ => ?_) (fun hc => absurd (nI_le (Nat.le_refl _) (by omega)) hc)
    exact W.vret hx hb hr (fun t ht hW => ⟨rfl, by rw [ht]; exact hF, f, by rw [ht]; exact hf, hN⟩) hlo d_C_invert_24
  · exact ⟨fz, hl, (fun _ h => nomatch h), XF.rf, hz, NL_0⟩
set_option maxHeartbeats 4000000 in
set_option maxRecDepth 100000 in
theorem c_fill (l : Launch) (D : va_G) (cJ cI cQ cR : ClassId) (z n : Nat) (v9 : Int64) (fz : Nat → Int64) (hn : n ≤ 16) : Met l y_J_fill_Arrays w_J_fill_Arrays { frames := 0, cells := 0, slots := 0, locals := 0 } (xP D vwCl (TY cJ cI cQ cR) [.ref z, .long v9] (fun H => hL H cJ z n fz)) (xQv (fun H0 H => XF (fun q => q = z) H0 H ∧ ∃ (f : Nat → Int64), hL H cJ z n f ∧ ∀ j, j < n → f j = v9)) 0 0 (fun q => q = z) := by
  refine Met.ofW (cc := b_J_fill_Arrays) (maxL := 5) (ret := none) (by decide) rfl ?_
  intro p e s m args below meth c s₁ B hml hv
  obtain ⟨rfl, hK, hz⟩ := hv
  have hx := B.exec
  have hb := B.bytes
  have hr := B.returns
  have hts := atoms_spec (ws := w_J_fill_Arrays) B.pre
  have htw : ∀ w ∈ WT, w.before _ s = true := fun w h => hts w (List.mem_cons_of_mem _ h)
  have hown : s.vm.findClass "java/util/Arrays" = some m.cls := findClass_of_methodNamed B.named
  have hlocks := B.notSynchronized
  have hJ : ArrOfT s cJ .long := (hK.2 0 _ rfl).1
  have hI9 : ArrOfT s cI .int := (hK.2 1 _ rfl).1
  have hl := lv_entry ([.ref z, .long v9]) (n := 5) (Nat.le_of_ble_eq_true rfl)
  rw [lg_entry_eq]
  generalize (lg_sl ([.ref z, .long v9]) ++ List.replicate (5 - (lg_sl ([.ref z, .long v9])).length) Slot.unset).toArray = ls at hl ⊢
  have hl : lv_has ls 5 [(0, .ref z), (1, .long v9)] := hl
  refine lv_iconst (v := nI 0) hx hb d_J_fill_Arrays_0 (by decide) ?_
  refine lv_istore_n hx hb d_J_fill_Arrays_1 rfl hl (by decide) rfl (fun ls hl => ?_)
  have hl : lv_has ls 5 [(3, .int (nI 0)), (0, .ref z), (1, .long v9)] := hl
  refine lv_aload_n hx hb d_J_fill_Arrays_2 rfl (lv_at hl 1 rfl) ?_
  refine x_len hx hb hJ hz d_J_fill_Arrays_3 ?_
  refine lv_istore hx hb d_J_fill_Arrays_4 hl (by decide) rfl (fun ls hl => ?_)
  have hl : lv_has ls 5 [(4, .int (nI n)), (3, .int (nI 0)), (0, .ref z), (1, .long v9)] := hl
  have hl : lv_has ls 5 [(3, .int (nI 0)), (4, .int (nI n)), (0, .ref z), (1, .long v9)] := lv_sub hl [1, 0, 2, 3] rfl
  refine x_loop 6 (fun i H locs ls => ∃ (f : Nat → Int64), lv_has ls 5 [(3, .int (nI i)), (4, .int (nI n)), (0, .ref z), (1, .long v9)] ∧ (∀ q ∈ locs, q.base = z) ∧ XF (fun q => q = z) s.heap H ∧ hL H cJ z n f ∧ ∀ j, j < i → f j = v9) n ?_ ?_ 0 _ _ _ (by omega) ?_
  · intro i H locs ls hi ⟨f, hl, hlo, hF, hf, hN⟩ ih
    refine lv_iload_n hx hb d_J_fill_Arrays_6 rfl (lv_at hl 0 rfl) ?_
    refine lv_iload hx hb d_J_fill_Arrays_7 (lv_at hl 1 rfl) ?_
    refine lv_icmp_ge (tgt := 22) hx hb d_J_fill_Arrays_9 (by decide) (fun hc => absurd hc (nI_ge (by omega) (by omega))) (fun _ => ?_)
    refine lv_aload_n hx hb d_J_fill_Arrays_12 rfl (lv_at hl 2 rfl) ?_
    refine lv_iload_n hx hb d_J_fill_Arrays_13 rfl (lv_at hl 0 rfl) ?_
    refine lv_lload_n hx hb d_J_fill_Arrays_14 rfl (lv_at hl 3 rfl) ?_
    refine x_last (A := fun q => q = z) hx hb hJ hf hlo (rfl) (i) (rfl) (by omega) (by omega) d_J_fill_Arrays_15 (fun H1 locs1 h1 hF1 hlo1 => ?_)
    refine lv_iinc (v := nI (i + 1)) (k := 0) hx hb d_J_fill_Arrays_16 hl rfl (nI_1 i) (by decide) rfl (fun ls hl => ?_)
    have hl : lv_has ls 5 [(3, .int (nI (i + 1))), (4, .int (nI n)), (0, .ref z), (1, .long v9)] := hl
    refine lv_goto (tgt := 6) hx hb d_J_fill_Arrays_19 (by decide) ?_
    have hl : lv_has ls 5 [(3, .int (nI (i + 1))), (4, .int (nI n)), (0, .ref z), (1, .long v9)] := lv_sub hl [0, 1, 2, 3] rfl
    exact ih H1 locs1 ls ⟨_, hl, hlo1, hF.tr hF1 (fun _ h => h), h1, fun j hj => by
      by_cases ej : j = i
      · subst ej; rw [pk_uLs]
      · rw [pk_uLn ej]; exact hN j (by omega)⟩
  · intro H locs ls ⟨f, hl, hlo, hF, hf, hN⟩
    refine lv_iload_n hx hb d_J_fill_Arrays_6 rfl (lv_at hl 0 rfl) ?_
    refine lv_iload hx hb d_J_fill_Arrays_7 (lv_at hl 1 rfl) ?_
    refine lv_icmp_ge (tgt := 22) hx hb d_J_fill_Arrays_9 (by decide) (fun _ => ?_) (fun hc => absurd (nI_le (Nat.le_refl _) (by omega)) hc)
    exact W.vret hx hb hr (fun t ht hW => ⟨rfl, by rw [ht]; exact hF, f, by rw [ht]; exact hf, hN⟩) hlo d_J_fill_Arrays_22
  · exact ⟨fz, hl, (fun _ h => nomatch h), XF.rf, hz, (fun j h => absurd h (Nat.not_lt_zero j))⟩
set_option maxHeartbeats 4000000 in
set_option maxRecDepth 100000 in
theorem c_order (l : Launch) (D : va_G) (cJ cI cQ cR : ClassId) (x y vx vy : Nat) (fx fy : Nat → Int64) (hvx : vx < 2 ^ 256) (hvy : vy < 2 ^ 256) (hNx : NL fx 8 vx) (hNy : NL fy 8 vy) : Met l y_C_order w_C_order { frames := 0, cells := 0, slots := 0, locals := 0 } (xP D vwCl (TY cJ cI cQ cR) [.ref x, .ref y] (fun H => hL H cJ x 8 fx ∧ hL H cJ y 8 fy)) (xQi (fun r H0 H => H = H0 ∧ r = ordv vx vy)) 0 0 (fun _ => False) := by
  refine Met.ofW (cc := b_C_order) (maxL := 3) (ret := some .int) (by decide) rfl ?_
  intro p e s m args below meth c s₁ B hml hv
  obtain ⟨rfl, hK, ⟨hX, hY⟩⟩ := hv
  have hx := B.exec
  have hb := B.bytes
  have hr := B.returns
  have hts := atoms_spec (ws := w_C_order) B.pre
  have htw : ∀ w ∈ WT, w.before _ s = true := fun w h => hts w (List.mem_cons_of_mem _ h)
  have hown : s.vm.findClass "WideNumbers" = some m.cls := findClass_of_methodNamed B.named
  have hlocks := B.notSynchronized
  have hJ : ArrOfT s cJ .long := (hK.2 0 _ rfl).1
  have hI9 : ArrOfT s cI .int := (hK.2 1 _ rfl).1
  have hl := lv_entry ([.ref x, .ref y]) (n := 3) (Nat.le_of_ble_eq_true rfl)
  rw [lg_entry_eq]
  generalize (lg_sl ([.ref x, .ref y]) ++ List.replicate (3 - (lg_sl ([.ref x, .ref y])).length) Slot.unset).toArray = ls at hl ⊢
  have hl : lv_has ls 3 [(0, .ref x), (1, .ref y)] := hl
  refine lv_bipush (v := nI 8 - 1) hx hb d_C_order_0 (by decide) ?_
  refine lv_istore_n hx hb d_C_order_2 rfl hl (by decide) rfl (fun ls hl => ?_)
  have hl : lv_has ls 3 [(2, .int (nI 8 - 1)), (0, .ref x), (1, .ref y)] := hl
  have hl : lv_has ls 3 [(2, .int (nI 8 - 1)), (0, .ref x), (1, .ref y)] := lv_sub hl [0, 1, 2] rfl
  refine x_loopD 3 (fun i H locs ls => i ≤ 8 ∧ lv_has ls 3 [(2, .int (nI i - 1)), (0, .ref x), (1, .ref y)] ∧ locs = [] ∧ H = s.heap ∧ vx / 2 ^ (32 * i) = vy / 2 ^ (32 * i)) ?_ ?_ 8 _ _ _ ?_
  · intro i H locs ls ⟨hi, hl, hlo, hH, he⟩ ih
    subst hlo
    subst hH
    refine lv_iload_n hx hb d_C_order_3 rfl (lv_at hl 0 rfl) ?_
    refine x_topi (v := nI i) (nI_pred i) ?_
    refine lv_if_lt (tgt := 39) hx hb d_C_order_4 (by decide) (fun hc => absurd hc (nI_pos (by omega))) (fun _ => ?_)
    have hd1 := dg_lt vx i
    have hd2 := dg_lt vy i
    have e1 := dg_divs vx i
    have e2 := dg_divs vy i
    refine lv_aload_n hx hb d_C_order_7 rfl (lv_at hl 1 rfl) ?_
    refine lv_iload_n hx hb d_C_order_8 rfl (lv_at hl 0 rfl) ?_
    refine x_lald hx hb hJ hX (i) (nI_pred i) (by omega) (by omega) (v := lN (dg vx i)) (hNx i (by omega)) d_C_order_9 ?_
    refine lv_aload_n hx hb d_C_order_10 rfl (lv_at hl 2 rfl) ?_
    refine lv_iload_n hx hb d_C_order_11 rfl (lv_at hl 0 rfl) ?_
    refine x_lald hx hb hJ hY (i) (nI_pred i) (by omega) (by omega) (v := lN (dg vy i)) (hNy i (by omega)) d_C_order_12 ?_
    refine W.lcmp hx hb d_C_order_13 ?_
    refine lv_if_eq (tgt := 33) hx hb d_C_order_14 (by decide) (fun hc => ?_) (fun hc => ?_)
    · have hd := (jN_eq (by omega) (by omega)).mp ((cmp_eq _ _).mp hc)
      refine lv_iinc (v := nI i - 1) (k := 0) hx hb d_C_order_33 hl rfl (i_dec i) (by decide) rfl (fun ls hl => ?_)
      have hl : lv_has ls 3 [(2, .int (nI i - 1)), (0, .ref x), (1, .ref y)] := hl
      refine lv_goto (tgt := 3) hx hb d_C_order_36 (by decide) ?_
      exact ih _ _ ls ⟨by omega, hl, rfl, rfl, by rw [e1, e2, he, hd]⟩
    · have hd : dg vx i ≠ dg vy i := fun h => hc ((cmp_eq _ _).mpr (by rw [h]))
      refine lv_aload_n hx hb d_C_order_17 rfl (lv_at hl 1 rfl) ?_
      refine lv_iload_n hx hb d_C_order_18 rfl (lv_at hl 0 rfl) ?_
      refine x_lald hx hb hJ hX (i) (nI_pred i) (by omega) (by omega) (v := lN (dg vx i)) (hNx i (by omega)) d_C_order_19 ?_
      refine lv_aload_n hx hb d_C_order_20 rfl (lv_at hl 2 rfl) ?_
      refine lv_iload_n hx hb d_C_order_21 rfl (lv_at hl 0 rfl) ?_
      refine x_lald hx hb hJ hY (i) (nI_pred i) (by omega) (by omega) (v := lN (dg vy i)) (hNy i (by omega)) d_C_order_22 ?_
      refine W.lcmp hx hb d_C_order_23 ?_
      refine lv_if_ge (tgt := 31) hx hb d_C_order_24 (by decide) (fun hc2 => ?_) (fun hc2 => ?_)
      · have hlt : dg vy i < dg vx i := Nat.lt_of_le_of_ne (Nat.not_lt.mp (fun h => absurd ((lg_cmp_ge _ _).mp hc2) (Int64.not_le.mpr ((jN_lt (by omega) (by omega)).mpr h)))) (fun h => hd h.symm)
        have hv : vy < vx := Nat.lt_of_not_le (fun h => by have := Nat.div_le_div_right (c := 2 ^ (32 * i)) h; omega)
        refine lv_iconst (v := nI 1) hx hb d_C_order_31 (by decide) ?_
        exact W.iret hx hb hr (fun t ht hW => ⟨_, rfl, ht, by unfold ordv; rw [if_neg (by omega), if_neg (by omega)]; rfl⟩) (fun _ h => nomatch h) d_C_order_32
      · have hlt : dg vx i < dg vy i := (jN_lt (by omega) (by omega)).mp (Int64.not_le.mp (fun h => hc2 ((lg_cmp_ge _ _).mpr h)))
        have hv : vx < vy := Nat.lt_of_not_le (fun h => by have := Nat.div_le_div_right (c := 2 ^ (32 * i)) h; omega)
        refine lv_iconst (v := -1) hx hb d_C_order_27 (by decide) ?_
        refine lv_goto (tgt := 32) hx hb d_C_order_28 (by decide) ?_
        exact W.iret hx hb hr (fun t ht hW => ⟨_, rfl, ht, by unfold ordv; rw [if_pos hv]⟩) (fun _ h => nomatch h) d_C_order_32
  · intro H locs ls ⟨hi, hl, hlo, hH, he⟩
    subst hlo
    subst hH
    refine lv_iload_n hx hb d_C_order_3 rfl (lv_at hl 0 rfl) ?_
    refine lv_if_lt (tgt := 39) hx hb d_C_order_4 (by decide) (fun _ => ?_) (fun hc => absurd (by decide) hc)
    refine lv_iconst (v := nI 0) hx hb d_C_order_39 (by decide) ?_
    have hv : vx = vy := by simpa using he
    exact W.iret hx hb hr (fun t ht hW => ⟨_, rfl, ht, by unfold ordv; rw [if_neg (by omega), if_pos hv]; rfl⟩) (fun _ h => nomatch h) d_C_order_40
  · exact ⟨by decide, hl, rfl, rfl, by rw [Nat.div_eq_of_lt hvx, Nat.div_eq_of_lt hvy]⟩
set_option maxHeartbeats 4000000 in
set_option maxRecDepth 100000 in
theorem c_lowLimb (l : Launch) (D : va_G) (cJ cI cQ cR : ClassId) (k : Nat) (hk : k < 4) : Met l y_C_lowLimbOfPart w_C_lowLimbOfPart { frames := 0, cells := 0, slots := 0, locals := 0 } (xP D vwCl (TY cJ cI cQ cR) [.int (nI k)] (fun H => True)) (xQi (fun r H0 H => H = H0 ∧ r = nI (2 * (3 - k)))) 0 0 (fun _ => False) := by
  refine Met.ofW (cc := b_C_lowLimbOfPart) (maxL := 1) (ret := some .int) (by decide) rfl ?_
  intro p e s m args below meth c s₁ B hml hv
  obtain ⟨rfl, hK, hB⟩ := hv
  have hx := B.exec
  have hb := B.bytes
  have hr := B.returns
  have hts := atoms_spec (ws := w_C_lowLimbOfPart) B.pre
  have htw : ∀ w ∈ WT, w.before _ s = true := fun w h => hts w (List.mem_cons_of_mem _ h)
  have hown : s.vm.findClass "WideNumbers" = some m.cls := findClass_of_methodNamed B.named
  have hlocks := B.notSynchronized
  have hJ : ArrOfT s cJ .long := (hK.2 0 _ rfl).1
  have hI9 : ArrOfT s cI .int := (hK.2 1 _ rfl).1
  have hl := lv_entry ([.int (nI k)]) (n := 1) (Nat.le_of_ble_eq_true rfl)
  rw [lg_entry_eq]
  generalize (lg_sl ([.int (nI k)]) ++ List.replicate (1 - (lg_sl ([.int (nI k)])).length) Slot.unset).toArray = ls at hl ⊢
  have hl : lv_has ls 1 [(0, .int (nI k))] := hl
  refine lv_iconst (v := nI 2) hx hb d_C_lowLimbOfPart_0 (by decide) ?_
  refine lv_iconst (v := nI 3) hx hb d_C_lowLimbOfPart_1 (by decide) ?_
  refine lv_iload_n hx hb d_C_lowLimbOfPart_2 rfl (lv_at hl 0 rfl) ?_
  refine lv_isub hx hb d_C_lowLimbOfPart_3 ?_
  refine x_topi (v := nI (3 - k)) (pk_sub (by omega)) ?_
  refine lv_imul hx hb d_C_lowLimbOfPart_4 ?_
  refine x_topi (v := nI (2 * (3 - k))) (pk_mul _ _) ?_
  exact W.iret hx hb hr (fun t ht hW => ⟨_, rfl, ht, rfl⟩) (fun _ h => nomatch h) d_C_lowLimbOfPart_5
set_option maxHeartbeats 4000000 in
set_option maxRecDepth 100000 in
theorem c_limbOr (l : Launch) (D : va_G) (cJ cI cQ cR : ClassId) (x : Nat) (i : Int32) (o : Int64) (fx : Nat → Int64) : Met l y_C_limbOr w_C_limbOr { frames := 0, cells := 0, slots := 0, locals := 0 } (xP D vwCl (TY cJ cI cQ cR) [.ref x, .int i, .long o] (fun H => hL H cJ x 8 fx)) (xQl (fun r H0 H => H = H0 ∧ r = limbV fx i o)) 0 0 (fun _ => False) := by
  refine Met.ofW (cc := b_C_limbOr) (maxL := 4) (ret := some .long) (by decide) rfl ?_
  intro p e s m args below meth c s₁ B hml hv
  obtain ⟨rfl, hK, hX⟩ := hv
  have hx := B.exec
  have hb := B.bytes
  have hr := B.returns
  have hts := atoms_spec (ws := w_C_limbOr) B.pre
  have htw : ∀ w ∈ WT, w.before _ s = true := fun w h => hts w (List.mem_cons_of_mem _ h)
  have hown : s.vm.findClass "WideNumbers" = some m.cls := findClass_of_methodNamed B.named
  have hlocks := B.notSynchronized
  have hJ : ArrOfT s cJ .long := (hK.2 0 _ rfl).1
  have hI9 : ArrOfT s cI .int := (hK.2 1 _ rfl).1
  have hl := lv_entry ([.ref x, .int i, .long o]) (n := 4) (Nat.le_of_ble_eq_true rfl)
  rw [lg_entry_eq]
  generalize (lg_sl ([.ref x, .int i, .long o]) ++ List.replicate (4 - (lg_sl ([.ref x, .int i, .long o])).length) Slot.unset).toArray = ls at hl ⊢
  have hl : lv_has ls 4 [(0, .ref x), (1, .int i), (2, .long o)] := hl
  refine lv_iload_n hx hb d_C_limbOr_0 rfl (lv_at hl 1 rfl) ?_
  refine lv_if_lt (tgt := 16) hx hb d_C_limbOr_1 (by decide) (fun hc => ?_) (fun hc => ?_)
  · refine lv_lload_n hx hb d_C_limbOr_16 rfl (lv_at hl 2 rfl) ?_
    exact W.lret hx hb hr (fun t ht hW => ⟨_, rfl, ht, by unfold limbV; rw [if_pos hc]⟩) (fun _ h => nomatch h) d_C_limbOr_17
  · refine lv_iload_n hx hb d_C_limbOr_4 rfl (lv_at hl 1 rfl) ?_
    refine lv_bipush (v := nI 8) hx hb d_C_limbOr_5 (by decide) ?_
    refine lv_icmp_ge (tgt := 16) hx hb d_C_limbOr_7 (by decide) (fun hc2 => ?_) (fun hc2 => ?_)
    · refine lv_lload_n hx hb d_C_limbOr_16 rfl (lv_at hl 2 rfl) ?_
      exact W.lret hx hb hr (fun t ht hW => ⟨_, rfl, ht, by unfold limbV; rw [if_neg hc, if_pos hc2]⟩) (fun _ h => nomatch h) d_C_limbOr_17
    · obtain ⟨k, hk, ek⟩ := nI_of hc
      subst ek
      have hk8 : k < 8 := Nat.lt_of_not_le (fun h => hc2 (nI_le h hk))
      refine lv_aload_n hx hb d_C_limbOr_10 rfl (lv_at hl 0 rfl) ?_
      refine lv_iload_n hx hb d_C_limbOr_11 rfl (lv_at hl 1 rfl) ?_
      refine x_lald hx hb hJ hX (k) (rfl) (by omega) (by omega) (v := fx k) (rfl) d_C_limbOr_12 ?_
      refine lv_goto (tgt := 17) hx hb d_C_limbOr_13 (by decide) ?_
      exact W.lret hx hb hr (fun t ht hW => ⟨_, rfl, ht, by unfold limbV; rw [if_neg hc, if_neg hc2, nI_clamp hk]⟩) (fun _ h => nomatch h) d_C_limbOr_17
end
section
-- contracts of the leaves
set_option maxHeartbeats 4000000 in
set_option maxRecDepth 100000 in
theorem c_copy (l : Launch) (D : va_G) (cJ cI cQ cR : ClassId) (z x n vx : Nat) (fz fx : Nat → Int64) (hn : 8 ≤ n ∧ n ≤ 16) (hxz : x ≠ z) (hNx : NL fx 8 vx) : Met l y_C_copyNumber w_C_copyNumber { frames := 1, cells := 0, slots := 0, locals := 64 } (xP D vwCl (TY cJ cI cQ cR) [.ref z, .ref x] (fun H => hL H cJ z 8 fz ∧ hL H cJ x n fx)) (xQv (fun H0 H => XF (fun q => q = z) H0 H ∧ ∃ (f : Nat → Int64), hL H cJ z 8 f ∧ NL f 8 vx)) 0 0 (fun q => q = z ∨ q = x) := by
  refine Met.ofW (cc := b_C_copyNumber) (maxL := 2) (ret := none) (by decide) rfl ?_
  intro p e s m args below meth c s₁ B hml hv
  obtain ⟨rfl, hK, ⟨hz, hX⟩⟩ := hv
  have hx := B.exec
  have hb := B.bytes
  have hr := B.returns
  have hts := atoms_spec (ws := w_C_copyNumber) B.pre
  have htw : ∀ w ∈ WT, w.before _ s = true := fun w h => hts w (List.mem_cons_of_mem _ h)
  have hown : s.vm.findClass "WideNumbers" = some m.cls := findClass_of_methodNamed B.named
  have hlocks := B.notSynchronized
  have hJ : ArrOfT s cJ .long := (hK.2 0 _ rfl).1
  have hI9 : ArrOfT s cI .int := (hK.2 1 _ rfl).1
  have hl := lv_entry ([.ref z, .ref x]) (n := 2) (Nat.le_of_ble_eq_true rfl)
  rw [lg_entry_eq]
  generalize (lg_sl ([.ref z, .ref x]) ++ List.replicate (2 - (lg_sl ([.ref z, .ref x])).length) Slot.unset).toArray = ls at hl ⊢
  have hl : lv_has ls 2 [(0, .ref z), (1, .ref x)] := hl
  refine lv_aload_n hx hb d_C_copyNumber_0 rfl (lv_at hl 1 rfl) ?_
  refine lv_iconst (v := nI 0) hx hb d_C_copyNumber_1 (by decide) ?_
  refine lv_aload_n hx hb d_C_copyNumber_2 rfl (lv_at hl 0 rfl) ?_
  refine lv_iconst (v := nI 0) hx hb d_C_copyNumber_3 (by decide) ?_
  refine lv_bipush (v := nI 8) hx hb d_C_copyNumber_4 (by decide) ?_
  have hP : va_P D vwCl [(x, .inl (cJ, n, .inr (.inl fx))), (z, .inl (cJ, 8, .inr (.inl fz)))] s.heap := by
    intro k q hq
    match k, hq with
    | 0, hq => cases hq; exact hX
    | 1, hq => cases hq; exact hz
    | k + 2, hq => cases hq
  have hD : va_D (fun q => q = z ∨ q = x) [(x, .inl (cJ, n, .inr (.inl fx))), (z, .inl (cJ, 8, .inr (.inl fz)))] := by
    refine ⟨?_, ?_⟩
    · intro i j p q hp hq e
      match i, j, hp, hq with
      | 0, 0, _, _ => rfl
      | 1, 1, _, _ => rfl
      | 0, 1, hp, hq => cases hp; cases hq; exact absurd e hxz
      | 1, 0, hp, hq => cases hp; cases hq; exact absurd e.symm hxz
      | i + 2, _, hp, _ => cases hp
      | _, j + 2, _, hq => cases hq
    · intro k q hq
      match k, hq with
      | 0, hq => cases hq; exact Or.inr rfl
      | 1, hq => cases hq; exact Or.inl rfl
      | k + 2, hq => cases hq
  have hS : va_S (fun q => q = z ∨ q = x) s.heap s.heap [] := va_S.rf
  refine va_copyl (sp := nI 0) (dp := nI 0) (n := nI 8) hx hb (hml.trans hl.1.symm) hown (htw _ kw_180) (htw _ kw_182) (htw _ kw_181) (htw _ kw_9) hK hP hD hS 0 1 0 0 rfl rfl rfl rfl rfl (by decide) (by decide) (by decide) (by show 0 + 8 ≤ n; omega) (by decide) (fun _ _ => rfl) (by decide) (Nat.le_of_ble_eq_true (by decide +kernel)) d_C_copyNumber_6 (fun H1 locs1 hP1 hD1 hS1 => ?_)
  have e1 : hL H1 cJ x n fx := hP1 0 _ rfl
  have e2 : hL H1 cJ z 8 (va_cpy fx fz 0 0 8) := hP1 1 _ rfl
  have hF : XF (fun q => q = z) s.heap H1 := by
    refine ⟨hS1.1, fun q hlt hq => ?_⟩
    by_cases ex : q = x
    · subst ex
      exact e1.trans hX.symm
    · exact hS1.2.1 q hlt (fun h => h.elim hq ex)
  exact W.vret hx hb hr (fun t ht hW => ⟨rfl, by rw [ht]; exact hF, _, by rw [ht]; exact e2, fun j hj => by rw [pk_cpy_in (Nat.zero_le j) (by omega)]; simpa using hNx j hj⟩) hS1.2.2 d_C_copyNumber_9
end
section
-- contracts
set_option maxHeartbeats 4000000 in
set_option maxRecDepth 100000 in
theorem c_nlz (l : Launch) (D : va_G) (cJ cI cQ cR : ClassId) (d : Nat) (hd : 0 < d) (hd2 : d < 4294967296) : Met l y_J_numberOfLeadingZeros_Integer w_J_numberOfLeadingZeros_Integer { frames := 0, cells := 0, slots := 0, locals := 0 } (xP D vwCl (TY cJ cI cQ cR) [.int (nI d)] (fun H => True)) (xQi (fun r H0 H => H = H0 ∧ ∃ k : Nat, r = nI k ∧ k ≤ 31 ∧ 2 ^ (31 - k) ≤ d ∧ d < 2 ^ (32 - k))) 0 0 (fun _ => False) := by
  refine Met.ofW (cc := b_J_numberOfLeadingZeros_Integer) (maxL := 2) (ret := some .int) (by decide) rfl ?_
  intro p e s m args below meth c s₁ B hml hv
  obtain ⟨rfl, hK, hB⟩ := hv
  have hx := B.exec
  have hb := B.bytes
  have hr := B.returns
  have hts := atoms_spec (ws := w_J_numberOfLeadingZeros_Integer) B.pre
  have htw : ∀ w ∈ WT, w.before _ s = true := fun w h => hts w (List.mem_cons_of_mem _ h)
  have hown : s.vm.findClass "java/lang/Integer" = some m.cls := findClass_of_methodNamed B.named
  have hlocks := B.notSynchronized
  have hJ : ArrOfT s cJ .long := (hK.2 0 _ rfl).1
  have hI9 : ArrOfT s cI .int := (hK.2 1 _ rfl).1
  have hl := lv_entry ([.int (nI d)]) (n := 2) (Nat.le_of_ble_eq_true rfl)
  rw [lg_entry_eq]
  generalize (lg_sl ([.int (nI d)]) ++ List.replicate (2 - (lg_sl ([.int (nI d)])).length) Slot.unset).toArray = ls at hl ⊢
  have hl : lv_has ls 2 [(0, .int (nI d))] := hl
  refine lv_iload_n hx hb d_J_numberOfLeadingZeros_Integer_0 rfl (lv_at hl 0 rfl) ?_
  refine lv_if_gt (tgt := 15) hx hb d_J_numberOfLeadingZeros_Integer_1 (by decide) (fun hc => ?_) (fun hc => ?_)
  · have hsm : d < 2147483648 := Nat.lt_of_not_le (fun h => by
      have h1 := Int32.lt_iff_toInt_lt.mp hc
      rw [iN_toInt hd2, if_neg (by omega)] at h1
      have h2 : (0 : Int32).toInt = 0 := rfl
      omega)
    refine lv_bipush (v := nI 31) hx hb d_J_numberOfLeadingZeros_Integer_15 (by decide) ?_
    refine lv_istore_n hx hb d_J_numberOfLeadingZeros_Integer_17 rfl hl (by decide) rfl (fun ls hl => ?_)
    have hl : lv_has ls 2 [(1, .int (nI 31)), (0, .int (nI d))] := hl
    have hl : lv_has ls 2 [(1, .int (nI 31)), (0, .int (nI d))] := lv_sub hl [0, 1] rfl
    refine x_cut 33 (fun H locs ls => H = s.heap ∧ locs = [] ∧ ∃ (sh d1 : Nat), lv_has ls 2 [(1, .int (nI (31 - sh))), (0, .int (nI d1))] ∧ d1 = d / 2 ^ sh ∧ 1 ≤ d1 ∧ d1 < 65536 ∧ sh ≤ 16) ?_ (fun J => ?_)
    · rintro H locs ls ⟨rfl, rfl, sh, d1, hl, he, h1, h2, hs⟩
      refine x_cut 48 (fun H locs ls => H = s.heap ∧ locs = [] ∧ ∃ (sh d1 : Nat), lv_has ls 2 [(1, .int (nI (31 - sh))), (0, .int (nI d1))] ∧ d1 = d / 2 ^ sh ∧ 1 ≤ d1 ∧ d1 < 256 ∧ sh ≤ 24) ?_ (fun J => ?_)
      · rintro H locs ls ⟨rfl, rfl, sh, d1, hl, he, h1, h2, hs⟩
        refine x_cut 61 (fun H locs ls => H = s.heap ∧ locs = [] ∧ ∃ (sh d1 : Nat), lv_has ls 2 [(1, .int (nI (31 - sh))), (0, .int (nI d1))] ∧ d1 = d / 2 ^ sh ∧ 1 ≤ d1 ∧ d1 < 16 ∧ sh ≤ 28) ?_ (fun J => ?_)
        · rintro H locs ls ⟨rfl, rfl, sh, d1, hl, he, h1, h2, hs⟩
          refine x_cut 73 (fun H locs ls => H = s.heap ∧ locs = [] ∧ ∃ (sh d1 : Nat), lv_has ls 2 [(1, .int (nI (31 - sh))), (0, .int (nI d1))] ∧ d1 = d / 2 ^ sh ∧ 1 ≤ d1 ∧ d1 < 4 ∧ sh ≤ 30) ?_ (fun J => ?_)
          · rintro H locs ls ⟨rfl, rfl, sh, d1, hl, he, h1, h2, hs⟩
            refine lv_iload_n hx hb d_J_numberOfLeadingZeros_Integer_73 rfl (lv_at hl 0 rfl) ?_
            refine lv_iload_n hx hb d_J_numberOfLeadingZeros_Integer_74 rfl (lv_at hl 1 rfl) ?_
            refine lv_iconst (v := nI 1) hx hb d_J_numberOfLeadingZeros_Integer_75 (by decide) ?_
            refine lv_iushr (v := nI (d1 / 2 ^ 1)) hx hb d_J_numberOfLeadingZeros_Integer_76 (pk_ushrN (by omega) (nI 1) 1 (by decide)) ?_
            refine lv_isub hx hb d_J_numberOfLeadingZeros_Integer_77 ?_
            refine x_topi (v := nI (31 - sh - d1 / 2)) (pk_sub (by omega)) ?_
            exact W.iret hx hb hr (fun t ht hW => ⟨_, rfl, ht, 31 - sh - d1 / 2, rfl, by omega, nlz_end he h1 h2 hs⟩) (fun _ h => nomatch h) d_J_numberOfLeadingZeros_Integer_78
          · refine lv_iload_n hx hb d_J_numberOfLeadingZeros_Integer_61 rfl (lv_at hl 1 rfl) ?_
            refine lv_iconst (v := nI 4) hx hb d_J_numberOfLeadingZeros_Integer_62 (by decide) ?_
            refine lv_icmp_lt (tgt := 73) hx hb d_J_numberOfLeadingZeros_Integer_63 (by decide) (fun hc => ?_) (fun hc => ?_)
            · have hlt := (nI_ltI (by omega) (by decide)).mp hc
              exact J _ _ ls ⟨rfl, rfl, sh, d1, hl, he, h1, hlt, by omega⟩
            · have hge : 4 ≤ d1 := Nat.le_of_not_lt (fun h => hc ((nI_ltI (by omega) (by decide)).mpr h))
              refine lv_iinc (v := nI (31 - sh - 2)) (k := 0) hx hb d_J_numberOfLeadingZeros_Integer_66 hl rfl (i_decn 2 (by decide) (by omega)) (by decide) rfl (fun ls hl => ?_)
              have hl : lv_has ls 2 [(1, .int (nI (31 - sh - 2))), (0, .int (nI d1))] := hl
              refine lv_iload_n hx hb d_J_numberOfLeadingZeros_Integer_69 rfl (lv_at hl 1 rfl) ?_
              refine lv_iconst (v := nI 2) hx hb d_J_numberOfLeadingZeros_Integer_70 (by decide) ?_
              refine lv_iushr (v := nI (d1 / 2 ^ 2)) hx hb d_J_numberOfLeadingZeros_Integer_71 (pk_ushrN (by omega) (nI 2) 2 (by decide)) ?_
              refine lv_istore_n hx hb d_J_numberOfLeadingZeros_Integer_72 rfl hl (by decide) rfl (fun ls hl => ?_)
              have hl : lv_has ls 2 [(0, .int (nI (d1 / 2 ^ 2))), (1, .int (nI (31 - sh - 2)))] := hl
              have hl : lv_has ls 2 [(1, .int (nI (31 - sh - 2))), (0, .int (nI (d1 / 2 ^ 2)))] := lv_sub hl [1, 0] rfl
              exact J _ _ ls ⟨rfl, rfl, sh + 2, d1 / 2 ^ 2, by rw [show 31 - (sh + 2) = 31 - sh - 2 by omega]; exact hl, by rw [he, sh_more], by omega, by omega, by omega⟩
        · refine lv_iload_n hx hb d_J_numberOfLeadingZeros_Integer_48 rfl (lv_at hl 1 rfl) ?_
          refine lv_bipush (v := nI 16) hx hb d_J_numberOfLeadingZeros_Integer_49 (by decide) ?_
          refine lv_icmp_lt (tgt := 61) hx hb d_J_numberOfLeadingZeros_Integer_51 (by decide) (fun hc => ?_) (fun hc => ?_)
          · have hlt := (nI_ltI (by omega) (by decide)).mp hc
            exact J _ _ ls ⟨rfl, rfl, sh, d1, hl, he, h1, hlt, by omega⟩
          · have hge : 16 ≤ d1 := Nat.le_of_not_lt (fun h => hc ((nI_ltI (by omega) (by decide)).mpr h))
            refine lv_iinc (v := nI (31 - sh - 4)) (k := 0) hx hb d_J_numberOfLeadingZeros_Integer_54 hl rfl (i_decn 4 (by decide) (by omega)) (by decide) rfl (fun ls hl => ?_)
            have hl : lv_has ls 2 [(1, .int (nI (31 - sh - 4))), (0, .int (nI d1))] := hl
            refine lv_iload_n hx hb d_J_numberOfLeadingZeros_Integer_57 rfl (lv_at hl 1 rfl) ?_
            refine lv_iconst (v := nI 4) hx hb d_J_numberOfLeadingZeros_Integer_58 (by decide) ?_
            refine lv_iushr (v := nI (d1 / 2 ^ 4)) hx hb d_J_numberOfLeadingZeros_Integer_59 (pk_ushrN (by omega) (nI 4) 4 (by decide)) ?_
            refine lv_istore_n hx hb d_J_numberOfLeadingZeros_Integer_60 rfl hl (by decide) rfl (fun ls hl => ?_)
            have hl : lv_has ls 2 [(0, .int (nI (d1 / 2 ^ 4))), (1, .int (nI (31 - sh - 4)))] := hl
            have hl : lv_has ls 2 [(1, .int (nI (31 - sh - 4))), (0, .int (nI (d1 / 2 ^ 4)))] := lv_sub hl [1, 0] rfl
            exact J _ _ ls ⟨rfl, rfl, sh + 4, d1 / 2 ^ 4, by rw [show 31 - (sh + 4) = 31 - sh - 4 by omega]; exact hl, by rw [he, sh_more], by omega, by omega, by omega⟩
      · refine lv_iload_n hx hb d_J_numberOfLeadingZeros_Integer_33 rfl (lv_at hl 1 rfl) ?_
        refine lv_sipush (v := nI 256) hx hb d_J_numberOfLeadingZeros_Integer_34 (by decide) ?_
        refine lv_icmp_lt (tgt := 48) hx hb d_J_numberOfLeadingZeros_Integer_37 (by decide) (fun hc => ?_) (fun hc => ?_)
        · have hlt := (nI_ltI (by omega) (by decide)).mp hc
          exact J _ _ ls ⟨rfl, rfl, sh, d1, hl, he, h1, hlt, by omega⟩
        · have hge : 256 ≤ d1 := Nat.le_of_not_lt (fun h => hc ((nI_ltI (by omega) (by decide)).mpr h))
          refine lv_iinc (v := nI (31 - sh - 8)) (k := 0) hx hb d_J_numberOfLeadingZeros_Integer_40 hl rfl (i_decn 8 (by decide) (by omega)) (by decide) rfl (fun ls hl => ?_)
          have hl : lv_has ls 2 [(1, .int (nI (31 - sh - 8))), (0, .int (nI d1))] := hl
          refine lv_iload_n hx hb d_J_numberOfLeadingZeros_Integer_43 rfl (lv_at hl 1 rfl) ?_
          refine lv_bipush (v := nI 8) hx hb d_J_numberOfLeadingZeros_Integer_44 (by decide) ?_
          refine lv_iushr (v := nI (d1 / 2 ^ 8)) hx hb d_J_numberOfLeadingZeros_Integer_46 (pk_ushrN (by omega) (nI 8) 8 (by decide)) ?_
          refine lv_istore_n hx hb d_J_numberOfLeadingZeros_Integer_47 rfl hl (by decide) rfl (fun ls hl => ?_)
          have hl : lv_has ls 2 [(0, .int (nI (d1 / 2 ^ 8))), (1, .int (nI (31 - sh - 8)))] := hl
          have hl : lv_has ls 2 [(1, .int (nI (31 - sh - 8))), (0, .int (nI (d1 / 2 ^ 8)))] := lv_sub hl [1, 0] rfl
          exact J _ _ ls ⟨rfl, rfl, sh + 8, d1 / 2 ^ 8, by rw [show 31 - (sh + 8) = 31 - sh - 8 by omega]; exact hl, by rw [he, sh_more], by omega, by omega, by omega⟩
    · obtain ⟨sh, d1, he, hs, h1, h2, es⟩ : ∃ sh d1, d1 = d / 2 ^ sh ∧ sh ≤ 0 ∧ 1 ≤ d1 ∧ d1 < 2147483648 ∧ sh = 0 := ⟨0, d, by simp, by decide, hd, hsm, rfl⟩
      have ed : d1 = d := by subst es; simpa using he
      rw [← ed] at hl
      have hl : lv_has ls 2 [(1, .int (nI (31 - sh))), (0, .int (nI d1))] := by rw [es]; exact hl
      refine lv_iload_n hx hb d_J_numberOfLeadingZeros_Integer_18 rfl (lv_at hl 1 rfl) ?_
      refine lv_ldcw (v := (65536 : Int32)) hx hb hown (htw _ kw_167) d_J_numberOfLeadingZeros_Integer_19 ?_
      refine x_topi (v := nI 65536) (rfl) ?_
      refine lv_icmp_lt (tgt := 33) hx hb d_J_numberOfLeadingZeros_Integer_22 (by decide) (fun hc => ?_) (fun hc => ?_)
      · have hlt := (nI_ltI (by omega) (by decide)).mp hc
        exact J _ _ ls ⟨rfl, rfl, sh, d1, hl, he, h1, hlt, by omega⟩
      · have hge : 65536 ≤ d1 := Nat.le_of_not_lt (fun h => hc ((nI_ltI (by omega) (by decide)).mpr h))
        refine lv_iinc (v := nI (31 - sh - 16)) (k := 0) hx hb d_J_numberOfLeadingZeros_Integer_25 hl rfl (i_decn 16 (by decide) (by omega)) (by decide) rfl (fun ls hl => ?_)
        have hl : lv_has ls 2 [(1, .int (nI (31 - sh - 16))), (0, .int (nI d1))] := hl
        refine lv_iload_n hx hb d_J_numberOfLeadingZeros_Integer_28 rfl (lv_at hl 1 rfl) ?_
        refine lv_bipush (v := nI 16) hx hb d_J_numberOfLeadingZeros_Integer_29 (by decide) ?_
        refine lv_iushr (v := nI (d1 / 2 ^ 16)) hx hb d_J_numberOfLeadingZeros_Integer_31 (pk_ushrN (by omega) (nI 16) 16 (by decide)) ?_
        refine lv_istore_n hx hb d_J_numberOfLeadingZeros_Integer_32 rfl hl (by decide) rfl (fun ls hl => ?_)
        have hl : lv_has ls 2 [(0, .int (nI (d1 / 2 ^ 16))), (1, .int (nI (31 - sh - 16)))] := hl
        have hl : lv_has ls 2 [(1, .int (nI (31 - sh - 16))), (0, .int (nI (d1 / 2 ^ 16)))] := lv_sub hl [1, 0] rfl
        exact J _ _ ls ⟨rfl, rfl, sh + 16, d1 / 2 ^ 16, by rw [show 31 - (sh + 16) = 31 - sh - 16 by omega]; exact hl, by rw [he, sh_more], by omega, by omega, by omega⟩
  · have hbig : 2147483648 ≤ d := Nat.le_of_not_lt (fun h => hc (by rw [← nI_0]; exact nI_lt hd h))
    refine lv_iload_n hx hb d_J_numberOfLeadingZeros_Integer_4 rfl (lv_at hl 0 rfl) ?_
    refine lv_if_ne (tgt := 13) hx hb d_J_numberOfLeadingZeros_Integer_5 (by decide) (fun _ => ?_) (fun hc2 => absurd ((iN_eq hd2 (by decide : 0 < 4294967296)).mp (hc2.trans nI_0.symm)) (by omega))
    refine lv_iconst (v := nI 0) hx hb d_J_numberOfLeadingZeros_Integer_13 (by decide) ?_
    exact W.iret hx hb hr (fun t ht hW => ⟨_, rfl, ht, 0, rfl, by decide, hbig, hd2⟩) (fun _ h => nomatch h) d_J_numberOfLeadingZeros_Integer_14
set_option maxHeartbeats 4000000 in
set_option maxRecDepth 100000 in
theorem c_usedBits (l : Launch) (D : va_G) (cJ cI cQ cR : ClassId) (x n vx : Nat) (fx : Nat → Int64) (hn : n ≤ 16) (hvx : vx < 2 ^ (32 * n)) (hNx : NL fx n vx) : Met l y_C_usedBits w_C_usedBits { frames := 1, cells := 0, slots := 0, locals := 21 } (xP D vwCl (TY cJ cI cQ cR) [.ref x] (fun H => hL H cJ x n fx)) (xQi (fun r H0 H => H = H0 ∧ ∃ k : Nat, r = nI k ∧ ub vx k ∧ k ≤ 32 * n)) 0 0 (fun _ => False) := by
  refine Met.ofW (cc := b_C_usedBits) (maxL := 2) (ret := some .int) (by decide) rfl ?_
  intro p e s m args below meth c s₁ B hml hv
  obtain ⟨rfl, hK, hX⟩ := hv
  have hx := B.exec
  have hb := B.bytes
  have hr := B.returns
  have hts := atoms_spec (ws := w_C_usedBits) B.pre
  have htw : ∀ w ∈ WT, w.before _ s = true := fun w h => hts w (List.mem_cons_of_mem _ h)
  have hown : s.vm.findClass "WideNumbers" = some m.cls := findClass_of_methodNamed B.named
  have hlocks := B.notSynchronized
  have hJ : ArrOfT s cJ .long := (hK.2 0 _ rfl).1
  have hI9 : ArrOfT s cI .int := (hK.2 1 _ rfl).1
  have hl := lv_entry ([.ref x]) (n := 2) (Nat.le_of_ble_eq_true rfl)
  rw [lg_entry_eq]
  generalize (lg_sl ([.ref x]) ++ List.replicate (2 - (lg_sl ([.ref x])).length) Slot.unset).toArray = ls at hl ⊢
  have hl : lv_has ls 2 [(0, .ref x)] := hl
  refine lv_aload_n hx hb d_C_usedBits_0 rfl (lv_at hl 0 rfl) ?_
  refine x_len hx hb hJ hX d_C_usedBits_1 ?_
  refine lv_iconst (v := nI 1) hx hb d_C_usedBits_2 (by decide) ?_
  refine lv_isub hx hb d_C_usedBits_3 ?_
  refine x_topi (v := nI n - 1) (rfl) ?_
  refine lv_istore_n hx hb d_C_usedBits_4 rfl hl (by decide) rfl (fun ls hl => ?_)
  have hl : lv_has ls 2 [(1, .int (nI n - 1)), (0, .ref x)] := hl
  refine x_loopD 5 (fun i H locs ls => i ≤ n ∧ lv_has ls 2 [(1, .int (nI i - 1)), (0, .ref x)] ∧ locs = [] ∧ H = s.heap ∧ vx / 2 ^ (32 * i) = 0) ?_ ?_ n _ _ _ ?_
  · rintro i H locs ls ⟨hi, hl, rfl, rfl, he⟩ ih
    have hlo : ∀ q ∈ ([] : List Loc), (fun _ => False) q.base := fun _ h => nomatch h
    refine lv_iload_n hx hb d_C_usedBits_5 rfl (lv_at hl 0 rfl) ?_
    refine x_topi (v := nI i) (nI_pred i) ?_
    refine lv_if_lt (tgt := 38) hx hb d_C_usedBits_6 (by decide) (fun hc => absurd hc (nI_pos (by omega))) (fun _ => ?_)
    have hd1 := dg_lt vx i
    have e1 := dg_divs vx i
    refine lv_aload_n hx hb d_C_usedBits_9 rfl (lv_at hl 1 rfl) ?_
    refine lv_iload_n hx hb d_C_usedBits_10 rfl (lv_at hl 0 rfl) ?_
    refine x_lald hx hb hJ hX (i) (nI_pred i) (by omega) (by omega) (v := lN (dg vx i)) (hNx i (by omega)) d_C_usedBits_11 ?_
    refine lv_lconst (v := lN 0) hx hb d_C_usedBits_12 (by decide) ?_
    refine W.lcmp hx hb d_C_usedBits_13 ?_
    refine lv_if_eq (tgt := 32) hx hb d_C_usedBits_14 (by decide) (fun hc => ?_) (fun hc => ?_)
    · have hd := (jN_eq (by omega) (by decide)).mp ((cmp_eq _ _).mp hc)
      refine lv_iinc (v := nI i - 1) (k := 0) hx hb d_C_usedBits_32 hl rfl (i_dec i) (by decide) rfl (fun ls hl => ?_)
      have hl : lv_has ls 2 [(1, .int (nI i - 1)), (0, .ref x)] := hl
      refine lv_goto (tgt := 5) hx hb d_C_usedBits_35 (by decide) ?_
      exact ih _ _ ls ⟨by omega, hl, rfl, rfl, by rw [e1, he, hd]⟩
    · have hd : 0 < dg vx i := Nat.pos_of_ne_zero (fun h => hc ((cmp_eq _ _).mpr (by rw [h])))
      refine lv_bipush (v := nI 32) hx hb d_C_usedBits_17 (by decide) ?_
      refine lv_iload_n hx hb d_C_usedBits_19 rfl (lv_at hl 0 rfl) ?_
      refine x_topi (v := nI i) (nI_pred i) ?_
      refine lv_iconst (v := nI 1) hx hb d_C_usedBits_20 (by decide) ?_
      refine lv_iadd hx hb d_C_usedBits_21 ?_
      refine x_topi (v := nI (i + 1)) (nI_1 i) ?_
      refine lv_imul hx hb d_C_usedBits_22 ?_
      refine x_topi (v := nI (32 * (i + 1))) (pk_mul _ _) ?_
      refine lv_aload_n hx hb d_C_usedBits_23 rfl (lv_at hl 1 rfl) ?_
      refine lv_iload_n hx hb d_C_usedBits_24 rfl (lv_at hl 0 rfl) ?_
      refine x_lald hx hb hJ hX (i) (nI_pred i) (by omega) (by omega) (v := lN (dg vx i)) (hNx i (by omega)) d_C_usedBits_25 ?_
      refine lv_l2i (v := nI (dg vx i)) hx hb d_C_usedBits_26 (lN_i _) ?_
      refine x_calli (A := fun _ => False) (va_runS (As := [.int (nI (dg vx i))]) (rest := [.int (nI (32 * (i + 1)))]) ⟨hx, hb, hml, hown, htw⟩ (c_nlz l D cJ cI cQ cR (dg vx i) hd hd1) (xcS 1 htw kw_166 kw_8 kw_164 kw_165 rfl rfl ⟨by decide, by decide, by decide +kernel⟩ ⟨Nat.le_of_ble_eq_true rfl, Nat.le_of_ble_eq_true rfl⟩) (xPre hK trivial) rfl rfl hl.1 rfl (lv_room (Nat.le_of_ble_eq_true rfl)) d_C_usedBits_27 ⟨Nat.le_of_ble_eq_true rfl, Nat.le_of_ble_eq_true rfl⟩) hlo (fun _ h => h) (fun r H1 locs1 hB1 hlo1 => ?_)
      obtain ⟨rfl, k, rfl, hk, h1, h2⟩ := hB1
      refine lv_isub hx hb d_C_usedBits_30 ?_
      refine x_topi (v := nI (32 * (i + 1) - k)) (pk_sub (by omega)) ?_
      exact W.iret hx hb hr (fun t ht hW => ⟨_, rfl, ht, 32 * (i + 1) - k, rfl, ub_of he rfl hk h1 h2, by omega⟩) hlo1 d_C_usedBits_31
  · rintro H locs ls ⟨hi, hl, rfl, rfl, he⟩
    refine lv_iload_n hx hb d_C_usedBits_5 rfl (lv_at hl 0 rfl) ?_
    refine lv_if_lt (tgt := 38) hx hb d_C_usedBits_6 (by decide) (fun _ => ?_) (fun hc => absurd (by decide) hc)
    refine lv_iconst (v := nI 0) hx hb d_C_usedBits_38 (by decide) ?_
    have hv : vx = 0 := by simpa using he
    exact W.iret hx hb hr (fun t ht hW => ⟨_, rfl, ht, 0, rfl, ⟨by rw [hv]; decide, Or.inl rfl⟩, Nat.zero_le _⟩) (fun _ h => nomatch h) d_C_usedBits_39
  · exact ⟨Nat.le_refl n, hl, rfl, rfl, Nat.div_eq_of_lt hvx⟩
set_option maxHeartbeats 4000000 in
set_option maxRecDepth 100000 in
theorem c_valueUpTo (l : Launch) (D : va_G) (cJ cI cQ cR : ClassId) (x vx b : Nat) (fx : Nat → Int64) (hvx : vx < 2 ^ 256) (hb9 : b ≤ 256) (hNx : NL fx 8 vx) : Met l y_C_valueUpTo w_C_valueUpTo { frames := 2, cells := 0, slots := 0, locals := 42 } (xP D vwCl (TY cJ cI cQ cR) [.ref x, .int (nI b)] (fun H => hL H cJ x 8 fx)) (xQi (fun r H0 H => H = H0 ∧ r = nI (min vx b))) 0 0 (fun _ => False) := by
  refine Met.ofW (cc := b_C_valueUpTo) (maxL := 2) (ret := some .int) (by decide) rfl ?_
  intro p e s m args below meth c s₁ B hml hv
  obtain ⟨rfl, hK, hX⟩ := hv
  have hx := B.exec
  have hb := B.bytes
  have hr := B.returns
  have hts := atoms_spec (ws := w_C_valueUpTo) B.pre
  have htw : ∀ w ∈ WT, w.before _ s = true := fun w h => hts w (List.mem_cons_of_mem _ h)
  have hown : s.vm.findClass "WideNumbers" = some m.cls := findClass_of_methodNamed B.named
  have hlocks := B.notSynchronized
  have hJ : ArrOfT s cJ .long := (hK.2 0 _ rfl).1
  have hI9 : ArrOfT s cI .int := (hK.2 1 _ rfl).1
  have hl := lv_entry ([.ref x, .int (nI b)]) (n := 2) (Nat.le_of_ble_eq_true rfl)
  rw [lg_entry_eq]
  generalize (lg_sl ([.ref x, .int (nI b)]) ++ List.replicate (2 - (lg_sl ([.ref x, .int (nI b)])).length) Slot.unset).toArray = ls at hl ⊢
  have hl : lv_has ls 2 [(0, .ref x), (1, .int (nI b))] := hl
  have hlo : ∀ q ∈ ([] : List Loc), (fun _ => False) q.base := fun _ h => nomatch h
  refine lv_aload_n hx hb d_C_valueUpTo_0 rfl (lv_at hl 0 rfl) ?_
  refine x_calli (A := fun _ => False) (va_runS (As := [.ref x]) (rest := []) ⟨hx, hb, hml, hown, htw⟩ (c_usedBits l D cJ cI cQ cR x 8 vx fx (by decide) hvx hNx) (xcS 1 htw kw_163 kw_1 kw_161 kw_162 rfl rfl ⟨by decide, by decide, by decide +kernel⟩ ⟨Nat.le_of_ble_eq_true rfl, Nat.le_of_ble_eq_true rfl⟩) (xPre hK hX) rfl rfl hl.1 rfl (lv_room (Nat.le_of_ble_eq_true rfl)) d_C_valueUpTo_1 ⟨Nat.le_of_ble_eq_true rfl, Nat.le_of_ble_eq_true rfl⟩) hlo (fun _ h => h) (fun r H1 locs1 hB1 hlo1 => ?_)
  obtain ⟨rfl, k, rfl, ⟨hk, hk2⟩, hk3⟩ := hB1
  refine lv_bipush (v := nI 32) hx hb d_C_valueUpTo_4 (by decide) ?_
  refine lv_icmp_gt (tgt := 18) hx hb d_C_valueUpTo_6 (by decide) (fun hc => ?_) (fun hc => ?_)
  · have h33 := (nI_ltI (by decide) (by omega)).mp hc
    have hbig : 2 ^ 32 ≤ vx := Nat.le_trans (pw_le (show 32 ≤ k - 1 by omega)) (hk2.resolve_left (by omega))
    refine lv_iload_n hx hb d_C_valueUpTo_18 rfl (lv_at hl 1 rfl) ?_
    refine lv_goto (tgt := 26) hx hb d_C_valueUpTo_19 (by decide) ?_
    exact W.iret hx hb hr (fun t ht hW => ⟨_, rfl, ht, congrArg nI (by omega)⟩) hlo1 d_C_valueUpTo_26
  · have h32 : k ≤ 32 := Nat.le_of_not_lt (fun h => hc (nI_lt h (by omega)))
    have hsm : vx < 4294967296 := Nat.lt_of_lt_of_le hk (pw_le h32)
    refine lv_aload_n hx hb d_C_valueUpTo_9 rfl (lv_at hl 0 rfl) ?_
    refine lv_iconst (v := nI 0) hx hb d_C_valueUpTo_10 (by decide) ?_
    refine x_lald hx hb hJ hX (0) (rfl) (by omega) (by omega) (v := lN vx) (by rw [hNx 0 (by decide), dg_z hsm]) d_C_valueUpTo_11 ?_
    refine lv_iload_n hx hb d_C_valueUpTo_12 rfl (lv_at hl 1 rfl) ?_
    refine lv_i2l (v := lN b) hx hb d_C_valueUpTo_13 (nI_l (by omega)) ?_
    refine W.lcmp hx hb d_C_valueUpTo_14 ?_
    refine lv_if_le (tgt := 22) hx hb d_C_valueUpTo_15 (by decide) (fun hc2 => ?_) (fun hc2 => ?_)
    · have hle : vx ≤ b := Nat.le_of_not_lt (fun h => absurd ((lg_cmp_le _ _).mp hc2) (Int64.not_le.mpr ((jN_lt (by omega) (by omega)).mpr h)))
      refine lv_aload_n hx hb d_C_valueUpTo_22 rfl (lv_at hl 0 rfl) ?_
      refine lv_iconst (v := nI 0) hx hb d_C_valueUpTo_23 (by decide) ?_
      refine x_lald hx hb hJ hX (0) (rfl) (by omega) (by omega) (v := lN vx) (by rw [hNx 0 (by decide), dg_z hsm]) d_C_valueUpTo_24 ?_
      refine lv_l2i (v := nI vx) hx hb d_C_valueUpTo_25 (lN_i _) ?_
      exact W.iret hx hb hr (fun t ht hW => ⟨_, rfl, ht, congrArg nI (by omega)⟩) hlo1 d_C_valueUpTo_26
    · have hgt : b < vx := Nat.lt_of_not_le (fun h => hc2 ((lg_cmp_le _ _).mpr (Int64.not_lt.mp (fun z => absurd ((jN_lt (by omega) (by omega)).mp z) (by omega)))))
      refine lv_iload_n hx hb d_C_valueUpTo_18 rfl (lv_at hl 1 rfl) ?_
      refine lv_goto (tgt := 26) hx hb d_C_valueUpTo_19 (by decide) ?_
      exact W.iret hx hb hr (fun t ht hW => ⟨_, rfl, ht, congrArg nI (by omega)⟩) hlo1 d_C_valueUpTo_26
set_option maxHeartbeats 4000000 in
set_option maxRecDepth 100000 in
theorem c_isNegative (l : Launch) (D : va_G) (cJ cI cQ cR : ClassId) (x vx : Nat) (fx : Nat → Int64) (hvx : vx < 2 ^ 256) (hNx : NL fx 8 vx) : Met l y_C_isNegative w_C_isNegative { frames := 1, cells := 0, slots := 0, locals := 21 } (xP D vwCl (TY cJ cI cQ cR) [.ref x] (fun H => hL H cJ x 8 fx)) (xQi (fun r H0 H => H = H0 ∧ r = if 2 ^ 255 ≤ vx then 1 else 0)) 0 0 (fun _ => False) := by
  refine Met.ofW (cc := b_C_isNegative) (maxL := 1) (ret := some .boolean) (by decide) rfl ?_
  intro p e s m args below meth c s₁ B hml hv
  obtain ⟨rfl, hK, hX⟩ := hv
  have hx := B.exec
  have hb := B.bytes
  have hr := B.returns
  have hts := atoms_spec (ws := w_C_isNegative) B.pre
  have htw : ∀ w ∈ WT, w.before _ s = true := fun w h => hts w (List.mem_cons_of_mem _ h)
  have hown : s.vm.findClass "WideNumbers" = some m.cls := findClass_of_methodNamed B.named
  have hlocks := B.notSynchronized
  have hJ : ArrOfT s cJ .long := (hK.2 0 _ rfl).1
  have hI9 : ArrOfT s cI .int := (hK.2 1 _ rfl).1
  have hl := lv_entry ([.ref x]) (n := 1) (Nat.le_of_ble_eq_true rfl)
  rw [lg_entry_eq]
  generalize (lg_sl ([.ref x]) ++ List.replicate (1 - (lg_sl ([.ref x])).length) Slot.unset).toArray = ls at hl ⊢
  have hl : lv_has ls 1 [(0, .ref x)] := hl
  have hlo : ∀ q ∈ ([] : List Loc), (fun _ => False) q.base := fun _ h => nomatch h
  refine lv_aload_n hx hb d_C_isNegative_0 rfl (lv_at hl 0 rfl) ?_
  refine lv_sipush (v := nI 255) hx hb d_C_isNegative_1 (by decide) ?_
  refine x_calll (A := fun _ => False) (va_runS (As := [.ref x, .int (nI 255)]) (rest := []) ⟨hx, hb, hml, hown, htw⟩ (c_bitAt l D cJ cI cQ cR x 8 255 vx fx (by decide) (by decide) hNx) (xcS 2 htw kw_170 kw_1 kw_168 kw_169 rfl rfl ⟨by decide, by decide, by decide +kernel⟩ ⟨Nat.le_of_ble_eq_true rfl, Nat.le_of_ble_eq_true rfl⟩) (xPre hK hX) rfl rfl hl.1 rfl (lv_room (Nat.le_of_ble_eq_true rfl)) d_C_isNegative_4 ⟨Nat.le_of_ble_eq_true rfl, Nat.le_of_ble_eq_true rfl⟩) hlo (fun _ h => h) (fun r H1 locs1 hB1 hlo1 => ?_)
  obtain ⟨rfl, rfl⟩ := hB1
  rw [bit255 hvx]
  refine lv_lconst (v := lN 0) hx hb d_C_isNegative_7 (by decide) ?_
  refine W.lcmp hx hb d_C_isNegative_8 ?_
  refine lv_if_eq (tgt := 16) hx hb d_C_isNegative_9 (by decide) (fun hc => ?_) (fun hc => ?_)
  · have hn : ¬ 2 ^ 255 ≤ vx := fun h => by
      rw [if_pos h] at hc
      exact absurd hc (by decide)
    refine lv_iconst (v := nI 0) hx hb d_C_isNegative_16 (by decide) ?_
    exact W.zret hx hb hr rfl (fun t ht hW => ⟨_, rfl, ht, by rw [if_neg hn]; rfl⟩) hlo1 d_C_isNegative_17
  · have hn : 2 ^ 255 ≤ vx := Decidable.byContradiction (fun h => hc (by rw [if_neg h]; decide))
    refine lv_iconst (v := nI 1) hx hb d_C_isNegative_12 (by decide) ?_
    refine lv_goto (tgt := 17) hx hb d_C_isNegative_13 (by decide) ?_
    exact W.zret hx hb hr rfl (fun t ht hW => ⟨_, rfl, ht, by rw [if_pos hn]; rfl⟩) hlo1 d_C_isNegative_17
set_option maxHeartbeats 4000000 in
set_option maxRecDepth 100000 in
theorem c_limbOfSign (l : Launch) (D : va_G) (cJ cI cQ cR : ClassId) (x vx : Nat) (fx : Nat → Int64) (hvx : vx < 2 ^ 256) (hNx : NL fx 8 vx) : Met l y_C_limbOfSign w_C_limbOfSign { frames := 2, cells := 0, slots := 0, locals := 41 } (xP D vwCl (TY cJ cI cQ cR) [.ref x] (fun H => hL H cJ x 8 fx)) (xQl (fun r H0 H => H = H0 ∧ r = lN (if 2 ^ 255 ≤ vx then 4294967295 else 0))) 0 0 (fun _ => False) := by
  refine Met.ofW (cc := b_C_limbOfSign) (maxL := 1) (ret := some .long) (by decide) rfl ?_
  intro p e s m args below meth c s₁ B hml hv
  obtain ⟨rfl, hK, hX⟩ := hv
  have hx := B.exec
  have hb := B.bytes
  have hr := B.returns
  have hts := atoms_spec (ws := w_C_limbOfSign) B.pre
  have htw : ∀ w ∈ WT, w.before _ s = true := fun w h => hts w (List.mem_cons_of_mem _ h)
  have hown : s.vm.findClass "WideNumbers" = some m.cls := findClass_of_methodNamed B.named
  have hlocks := B.notSynchronized
  have hJ : ArrOfT s cJ .long := (hK.2 0 _ rfl).1
  have hI9 : ArrOfT s cI .int := (hK.2 1 _ rfl).1
  have hl := lv_entry ([.ref x]) (n := 1) (Nat.le_of_ble_eq_true rfl)
  rw [lg_entry_eq]
  generalize (lg_sl ([.ref x]) ++ List.replicate (1 - (lg_sl ([.ref x])).length) Slot.unset).toArray = ls at hl ⊢
  have hl : lv_has ls 1 [(0, .ref x)] := hl
  have hlo : ∀ q ∈ ([] : List Loc), (fun _ => False) q.base := fun _ h => nomatch h
  refine lv_aload_n hx hb d_C_limbOfSign_0 rfl (lv_at hl 0 rfl) ?_
  refine x_calli (A := fun _ => False) (va_runS (As := [.ref x]) (rest := []) ⟨hx, hb, hml, hown, htw⟩ (c_isNegative l D cJ cI cQ cR x vx fx hvx hNx) (xcS 1 htw kw_189 kw_1 kw_187 kw_188 rfl rfl ⟨by decide, by decide, by decide +kernel⟩ ⟨Nat.le_of_ble_eq_true rfl, Nat.le_of_ble_eq_true rfl⟩) (xPre hK hX) rfl rfl hl.1 rfl (lv_room (Nat.le_of_ble_eq_true rfl)) d_C_limbOfSign_1 ⟨Nat.le_of_ble_eq_true rfl, Nat.le_of_ble_eq_true rfl⟩) hlo (fun _ h => h) (fun r H1 locs1 hB1 hlo1 => ?_)
  obtain ⟨rfl, rfl⟩ := hB1
  refine lv_if_eq (tgt := 13) hx hb d_C_limbOfSign_4 (by decide) (fun hc => ?_) (fun hc => ?_)
  · have hn : ¬ 2 ^ 255 ≤ vx := fun h => by
      rw [if_pos h] at hc
      exact absurd hc (by decide)
    refine lv_lconst (v := lN 0) hx hb d_C_limbOfSign_13 (by decide) ?_
    exact W.lret hx hb hr (fun t ht hW => ⟨_, rfl, ht, by rw [if_neg hn]⟩) hlo1 d_C_limbOfSign_14
  · have hn : 2 ^ 255 ≤ vx := Decidable.byContradiction (fun h => hc (by rw [if_neg h]))
    refine lv_ldc2 (v := (4294967295 : Int64)) hx hb hown (htw _ kw_126) d_C_limbOfSign_7 ?_
    refine lv_goto (tgt := 14) hx hb d_C_limbOfSign_10 (by decide) ?_
    exact W.lret hx hb hr (fun t ht hW => ⟨_, rfl, ht, by rw [if_pos hn]; rfl⟩) hlo1 d_C_limbOfSign_14
set_option maxHeartbeats 4000000 in
set_option maxRecDepth 100000 in
theorem c_copyWithSign (l : Launch) (D : va_G) (cJ cI cQ cR : ClassId) (z x n vx : Nat) (b : Int32) (fz fx : Nat → Int64) (hn : 8 ≤ n ∧ n ≤ 16) (hxz : x ≠ z) (hvx : vx < 2 ^ 256) (hNx : NL fx 8 vx) : Met l y_C_copyWithSign w_C_copyWithSign { frames := 2, cells := 0, slots := 0, locals := 85 } (xP D vwCl (TY cJ cI cQ cR) [.ref z, .ref x, .int b] (fun H => hL H cJ z 8 fz ∧ hL H cJ x n fx)) (xQv (fun H0 H => XF (fun q => q = z) H0 H ∧ ∃ (f : Nat → Int64), hL H cJ z 8 f ∧ NL f 8 (if b = 0 then vx else (2 ^ 256 - vx) % 2 ^ 256))) 0 0 (fun q => q = z ∨ q = x) := by
  refine Met.ofW (cc := b_C_copyWithSign) (maxL := 3) (ret := none) (by decide) rfl ?_
  intro p e s m args below meth c s₁ B hml hv
  obtain ⟨rfl, hK, ⟨hz, hX⟩⟩ := hv
  have hx := B.exec
  have hb := B.bytes
  have hr := B.returns
  have hts := atoms_spec (ws := w_C_copyWithSign) B.pre
  have htw : ∀ w ∈ WT, w.before _ s = true := fun w h => hts w (List.mem_cons_of_mem _ h)
  have hown : s.vm.findClass "WideNumbers" = some m.cls := findClass_of_methodNamed B.named
  have hlocks := B.notSynchronized
  have hJ : ArrOfT s cJ .long := (hK.2 0 _ rfl).1
  have hI9 : ArrOfT s cI .int := (hK.2 1 _ rfl).1
  have hl := lv_entry ([.ref z, .ref x, .int b]) (n := 3) (Nat.le_of_ble_eq_true rfl)
  rw [lg_entry_eq]
  generalize (lg_sl ([.ref z, .ref x, .int b]) ++ List.replicate (3 - (lg_sl ([.ref z, .ref x, .int b])).length) Slot.unset).toArray = ls at hl ⊢
  have hl : lv_has ls 3 [(0, .ref z), (1, .ref x), (2, .int b)] := hl
  have hlo : ∀ q ∈ ([] : List Loc), (fun q => q = z ∨ q = x) q.base := fun _ h => nomatch h
  refine lv_iload_n hx hb d_C_copyWithSign_0 rfl (lv_at hl 2 rfl) ?_
  refine lv_if_eq (tgt := 12) hx hb d_C_copyWithSign_1 (by decide) (fun hc => ?_) (fun hc => ?_)
  · refine lv_aload_n hx hb d_C_copyWithSign_12 rfl (lv_at hl 0 rfl) ?_
    refine lv_aload_n hx hb d_C_copyWithSign_13 rfl (lv_at hl 1 rfl) ?_
    refine x_callv (A := fun q => q = z ∨ q = x) (va_runS (As := [.ref z, .ref x]) (rest := []) ⟨hx, hb, hml, hown, htw⟩ (c_copy l D cJ cI cQ cR z x n vx fz fx hn hxz hNx) (xcS 2 htw kw_179 kw_1 kw_177 kw_178 rfl rfl ⟨by decide, by decide, by decide +kernel⟩ ⟨Nat.le_of_ble_eq_true rfl, Nat.le_of_ble_eq_true rfl⟩) (xPre hK ⟨hz, hX⟩) rfl rfl hl.1 rfl (lv_room (Nat.le_of_ble_eq_true rfl)) d_C_copyWithSign_14 ⟨Nat.le_of_ble_eq_true rfl, Nat.le_of_ble_eq_true rfl⟩) hlo (fun _ h => h) (fun H1 locs1 hB1 hlo1 => ?_)
    obtain ⟨hF, f, hf, hN⟩ := hB1
    exact W.vret hx hb hr (fun t ht hW => ⟨rfl, by rw [ht]; exact hF, f, by rw [ht]; exact hf, by rw [if_pos hc]; exact hN⟩) hlo1 d_C_copyWithSign_17
  · refine lv_aload_n hx hb d_C_copyWithSign_4 rfl (lv_at hl 0 rfl) ?_
    refine lv_aload_n hx hb d_C_copyWithSign_5 rfl (lv_at hl 1 rfl) ?_
    refine x_callv (A := fun q => q = z ∨ q = x) (va_runS (As := [.ref z, .ref x]) (rest := []) ⟨hx, hb, hml, hown, htw⟩ (c_negate l D cJ cI cQ cR z x n vx fz fx hn hxz hvx hNx) (xcS 2 htw kw_195 kw_1 kw_193 kw_194 rfl rfl ⟨by decide, by decide, by decide +kernel⟩ ⟨Nat.le_of_ble_eq_true rfl, Nat.le_of_ble_eq_true rfl⟩) (xPre hK ⟨hz, hX⟩) rfl rfl hl.1 rfl (lv_room (Nat.le_of_ble_eq_true rfl)) d_C_copyWithSign_6 ⟨Nat.le_of_ble_eq_true rfl, Nat.le_of_ble_eq_true rfl⟩) hlo (fun _ h => Or.inl h) (fun H1 locs1 hB1 hlo1 => ?_)
    refine lv_goto (tgt := 17) hx hb d_C_copyWithSign_9 (by decide) ?_
    obtain ⟨hF, f, hf, hN⟩ := hB1
    exact W.vret hx hb hr (fun t ht hW => ⟨rfl, by rw [ht]; exact hF, f, by rw [ht]; exact hf, by rw [if_neg hc]; exact hN⟩) hlo1 d_C_copyWithSign_17
set_option maxHeartbeats 4000000 in
set_option maxRecDepth 100000 in
theorem c_writePart (l : Launch) (D : va_G) (cJ cI cQ cR : ClassId) (z k p9 : Nat) (fz : Nat → Int64) (hk : k < 4) (hp9 : p9 < 18446744073709551616) : Met l y_C_writePart w_C_writePart { frames := 1, cells := 0, slots := 0, locals := 20 } (xP D vwCl (TY cJ cI cQ cR) [.ref z, .int (nI k), .long (lN p9)] (fun H => hL H cJ z 8 fz)) (xQv (fun H0 H => XF (fun q => q = z) H0 H ∧ hL H cJ z 8 (vp_updL (vp_updL fz (2 * (3 - k)) (lN (p9 % 4294967296))) (2 * (3 - k) + 1) (lN (p9 / 4294967296))))) 0 0 (fun q => q = z) := by
  refine Met.ofW (cc := b_C_writePart) (maxL := 5) (ret := none) (by decide) rfl ?_
  intro p e s m args below meth c s₁ B hml hv
  obtain ⟨rfl, hK, hz⟩ := hv
  have hx := B.exec
  have hb := B.bytes
  have hr := B.returns
  have hts := atoms_spec (ws := w_C_writePart) B.pre
  have htw : ∀ w ∈ WT, w.before _ s = true := fun w h => hts w (List.mem_cons_of_mem _ h)
  have hown : s.vm.findClass "WideNumbers" = some m.cls := findClass_of_methodNamed B.named
  have hlocks := B.notSynchronized
  have hJ : ArrOfT s cJ .long := (hK.2 0 _ rfl).1
  have hI9 : ArrOfT s cI .int := (hK.2 1 _ rfl).1
  have hl := lv_entry ([.ref z, .int (nI k), .long (lN p9)]) (n := 5) (Nat.le_of_ble_eq_true rfl)
  rw [lg_entry_eq]
  generalize (lg_sl ([.ref z, .int (nI k), .long (lN p9)]) ++ List.replicate (5 - (lg_sl ([.ref z, .int (nI k), .long (lN p9)])).length) Slot.unset).toArray = ls at hl ⊢
  have hl : lv_has ls 5 [(0, .ref z), (1, .int (nI k)), (2, .long (lN p9))] := hl
  have hlo : ∀ q ∈ ([] : List Loc), (fun q => q = z) q.base := fun _ h => nomatch h
  refine lv_iload_n hx hb d_C_writePart_0 rfl (lv_at hl 1 rfl) ?_
  refine x_calli (A := fun q => q = z) (va_runS (As := [.int (nI k)]) (rest := []) ⟨hx, hb, hml, hown, htw⟩ (c_lowLimb l D cJ cI cQ cR k hk) (xcS 1 htw kw_125 kw_1 kw_123 kw_124 rfl rfl ⟨by decide, by decide, by decide +kernel⟩ ⟨Nat.le_of_ble_eq_true rfl, Nat.le_of_ble_eq_true rfl⟩) (xPre hK trivial) rfl rfl hl.1 rfl (lv_room (Nat.le_of_ble_eq_true rfl)) d_C_writePart_1 ⟨Nat.le_of_ble_eq_true rfl, Nat.le_of_ble_eq_true rfl⟩) hlo (fun _ h => h.elim) (fun r H1 locs1 hB1 hlo => ?_)
  obtain ⟨rfl, rfl⟩ := hB1
  refine lv_istore hx hb d_C_writePart_4 hl (by decide) rfl (fun ls hl => ?_)
  have hl : lv_has ls 5 [(4, .int (nI (2 * (3 - k)))), (0, .ref z), (1, .int (nI k)), (2, .long (lN p9))] := hl
  refine lv_aload_n hx hb d_C_writePart_6 rfl (lv_at hl 1 rfl) ?_
  refine lv_iload hx hb d_C_writePart_7 (lv_at hl 0 rfl) ?_
  refine lv_lload_n hx hb d_C_writePart_9 rfl (lv_at hl 3 rfl) ?_
  refine lv_ldc2 (v := (4294967295 : Int64)) hx hb hown (htw _ kw_126) d_C_writePart_10 ?_
  refine lv_land hx hb d_C_writePart_13 ?_
  refine x_topl (v := lN (p9 % 4294967296)) (jN_lo p9) ?_
  refine x_last (A := fun q => q = z) hx hb hJ hz hlo (rfl) (2 * (3 - k)) (rfl) (by omega) (by omega) d_C_writePart_14 (fun H2 locs2 h2 hF2 hlo => ?_)
  refine lv_aload_n hx hb d_C_writePart_15 rfl (lv_at hl 1 rfl) ?_
  refine lv_iload hx hb d_C_writePart_16 (lv_at hl 0 rfl) ?_
  refine lv_iconst (v := nI 1) hx hb d_C_writePart_18 (by decide) ?_
  refine lv_iadd hx hb d_C_writePart_19 ?_
  refine x_topi (v := nI (2 * (3 - k) + 1)) (nI_1 _) ?_
  refine lv_lload_n hx hb d_C_writePart_20 rfl (lv_at hl 3 rfl) ?_
  refine lv_bipush (v := nI 32) hx hb d_C_writePart_21 (by decide) ?_
  refine lv_lushr (v := lN (p9 / 4294967296)) hx hb d_C_writePart_23 (jN_shr (k := 32) (by omega) (by decide)) ?_
  refine x_last (A := fun q => q = z) hx hb hJ h2 hlo (rfl) (2 * (3 - k) + 1) (rfl) (by omega) (by omega) d_C_writePart_24 (fun H3 locs3 h3 hF3 hlo => ?_)
  exact W.vret hx hb hr (fun t ht hW => ⟨rfl, by rw [ht]; exact hF2.tr hF3 (fun _ h => h), by rw [ht]; exact h3⟩) hlo d_C_writePart_25
end
section
-- contracts: moves and the product
set_option maxHeartbeats 4000000 in
set_option maxRecDepth 100000 in
theorem c_moveLeft (l : Launch) (D : va_G) (cJ cI cQ cR : ClassId) (z x vx b : Nat) (fz fx : Nat → Int64) (hb9 : b ≤ 256) (hxz : x ≠ z) (hNx : NL fx 8 vx) : Met l y_C_moveLeft w_C_moveLeft { frames := 1, cells := 0, slots := 0, locals := 23 } (xP D vwCl (TY cJ cI cQ cR) [.ref z, .ref x, .int (nI b)] (fun H => hL H cJ z 8 fz ∧ hL H cJ x 8 fx)) (xQv (fun H0 H => XF (fun q => q = z) H0 H ∧ ∃ (f : Nat → Int64), hL H cJ z 8 f ∧ NL f 8 (vx * 2 ^ b))) 0 0 (fun q => q = z) := by
  refine Met.ofW (cc := b_C_moveLeft) (maxL := 7) (ret := none) (by decide) rfl ?_
  intro p e s m args below meth c s₁ B hml hv
  obtain ⟨rfl, hK, ⟨hz, hX⟩⟩ := hv
  have hx := B.exec
  have hb := B.bytes
  have hr := B.returns
  have hts := atoms_spec (ws := w_C_moveLeft) B.pre
  have htw : ∀ w ∈ WT, w.before _ s = true := fun w h => hts w (List.mem_cons_of_mem _ h)
  have hown : s.vm.findClass "WideNumbers" = some m.cls := findClass_of_methodNamed B.named
  have hlocks := B.notSynchronized
  have hJ : ArrOfT s cJ .long := (hK.2 0 _ rfl).1
  have hI9 : ArrOfT s cI .int := (hK.2 1 _ rfl).1
  have hl := lv_entry ([.ref z, .ref x, .int (nI b)]) (n := 7) (Nat.le_of_ble_eq_true rfl)
  rw [lg_entry_eq]
  generalize (lg_sl ([.ref z, .ref x, .int (nI b)]) ++ List.replicate (7 - (lg_sl ([.ref z, .ref x, .int (nI b)])).length) Slot.unset).toArray = ls at hl ⊢
  have hl : lv_has ls 7 [(0, .ref z), (1, .ref x), (2, .int (nI b))] := hl
  refine lv_iload_n hx hb d_C_moveLeft_0 rfl (lv_at hl 2 rfl) ?_
  refine lv_bipush (v := nI 32) hx hb d_C_moveLeft_1 (by decide) ?_
  refine lv_idiv hx hb d_C_moveLeft_3 (by decide) ?_
  refine x_topi (v := nI (b / 32)) (pk_div (by omega) (by decide) (by decide)) ?_
  refine lv_istore_n hx hb d_C_moveLeft_4 rfl hl (by decide) rfl (fun ls hl => ?_)
  have hl : lv_has ls 7 [(3, .int (nI (b / 32))), (0, .ref z), (1, .ref x), (2, .int (nI b))] := hl
  refine lv_iconst (v := nI 0) hx hb d_C_moveLeft_5 (by decide) ?_
  refine lv_istore hx hb d_C_moveLeft_6 hl (by decide) rfl (fun ls hl => ?_)
  have hl : lv_has ls 7 [(4, .int (nI 0)), (3, .int (nI (b / 32))), (0, .ref z), (1, .ref x), (2, .int (nI b))] := hl
  have hl : lv_has ls 7 [(4, .int (nI 0)), (3, .int (nI (b / 32))), (0, .ref z), (1, .ref x), (2, .int (nI b))] := lv_sub hl [0, 1, 2, 3, 4] rfl
  refine x_loop 8 (fun i H locs ls => ∃ (f : Nat → Int64), lv_has ls 7 [(4, .int (nI i)), (3, .int (nI (b / 32))), (0, .ref z), (1, .ref x), (2, .int (nI b))] ∧ (∀ q ∈ locs, q.base = z) ∧ XF (fun q => q = z) s.heap H ∧ hL H cJ z 8 f ∧ NL f i (vx * 2 ^ b)) 8 ?_ ?_ 0 _ _ _ (by omega) ?_
  · intro i H locs ls hi ⟨f, hl, hlo, hF, hf, hN⟩ ih
    refine lv_iload hx hb d_C_moveLeft_8 (lv_at hl 0 rfl) ?_
    refine lv_bipush (v := nI 8) hx hb d_C_moveLeft_10 (by decide) ?_
    refine lv_icmp_ge (tgt := 61) hx hb d_C_moveLeft_12 (by decide) (fun hc => absurd hc (nI_ge (by omega) (by omega))) (fun _ => ?_)
    refine lv_aload_n hx hb d_C_moveLeft_15 rfl (lv_at hl 3 rfl) ?_
    refine lv_iload hx hb d_C_moveLeft_16 (lv_at hl 0 rfl) ?_
    refine lv_iload_n hx hb d_C_moveLeft_18 rfl (lv_at hl 1 rfl) ?_
    refine lv_isub hx hb d_C_moveLeft_19 ?_
    refine lv_lconst (v := lN 0) hx hb d_C_moveLeft_20 (by decide) ?_
    refine x_calll (A := fun q => q = z) (va_runS (As := [.ref x, .int ((nI i) - (nI (b / 32))), .long (lN 0)]) (rest := []) ⟨hx, hb, hml, hown, htw⟩ (c_limbOr l D cJ cI cQ cR x (nI i - nI (b / 32)) (lN 0) fx) (xcS 3 htw kw_216 kw_1 kw_214 kw_215 rfl rfl ⟨by decide, by decide, by decide +kernel⟩ ⟨Nat.le_of_ble_eq_true rfl, Nat.le_of_ble_eq_true rfl⟩) (xPre hK (hL_f hX hF hxz)) rfl rfl hl.1 rfl (lv_room (Nat.le_of_ble_eq_true rfl)) d_C_moveLeft_21 ⟨Nat.le_of_ble_eq_true rfl, Nat.le_of_ble_eq_true rfl⟩) hlo (fun _ h => h.elim) (fun r1 H1 locs1 hB1 hlo => ?_)
    obtain ⟨rfl, rfl⟩ := hB1
    refine x_topl (v := lN (if b / 32 ≤ i then dg vx (i - b / 32) else 0)) (by rw [limb_l hi (by omega)]; split <;> first | rfl | exact hNx _ (by omega)) ?_
    obtain ⟨hv1, hv1d⟩ : ∃ u, u = (if b / 32 ≤ i then dg vx (i - b / 32) else 0) := ⟨_, rfl⟩
    have hl1 : hv1 < 4294967296 := by rw [hv1d]; split <;> first | exact dg_lt _ _ | decide
    rw [← hv1d]
    refine lv_bipush (v := nI 32) hx hb d_C_moveLeft_24 (by decide) ?_
    refine lv_lshl (v := lN (hv1 * 4294967296)) hx hb d_C_moveLeft_26 (jN_shl (k := 32) _ (by decide)) ?_
    refine lv_aload_n hx hb d_C_moveLeft_27 rfl (lv_at hl 3 rfl) ?_
    refine lv_iload hx hb d_C_moveLeft_28 (lv_at hl 0 rfl) ?_
    refine lv_iload_n hx hb d_C_moveLeft_30 rfl (lv_at hl 1 rfl) ?_
    refine lv_isub hx hb d_C_moveLeft_31 ?_
    refine lv_iconst (v := nI 1) hx hb d_C_moveLeft_32 (by decide) ?_
    refine lv_isub hx hb d_C_moveLeft_33 ?_
    refine x_topi (v := nI i - nI (b / 32 + 1)) (lv_ss _ _) ?_
    refine lv_lconst (v := lN 0) hx hb d_C_moveLeft_34 (by decide) ?_
    refine x_calll (A := fun q => q = z) (va_runS (As := [.ref x, .int (nI i - nI (b / 32 + 1)), .long (lN 0)]) (rest := [.long (lN (hv1 * 4294967296))]) ⟨hx, hb, hml, hown, htw⟩ (c_limbOr l D cJ cI cQ cR x (nI i - nI (b / 32 + 1)) (lN 0) fx) (xcS 3 htw kw_216 kw_1 kw_214 kw_215 rfl rfl ⟨by decide, by decide, by decide +kernel⟩ ⟨Nat.le_of_ble_eq_true rfl, Nat.le_of_ble_eq_true rfl⟩) (xPre hK (hL_f hX hF hxz)) rfl rfl hl.1 rfl (lv_room (Nat.le_of_ble_eq_true rfl)) d_C_moveLeft_35 ⟨Nat.le_of_ble_eq_true rfl, Nat.le_of_ble_eq_true rfl⟩) hlo (fun _ h => h.elim) (fun r2 H2 locs2 hB2 hlo => ?_)
    obtain ⟨rfl, rfl⟩ := hB2
    refine x_topl (v := lN (if b / 32 + 1 ≤ i then dg vx (i - (b / 32 + 1)) else 0)) (by rw [limb_l hi (by omega)]; split <;> first | rfl | exact hNx _ (by omega)) ?_
    obtain ⟨hv2, hv2d⟩ : ∃ u, u = (if b / 32 + 1 ≤ i then dg vx (i - (b / 32 + 1)) else 0) := ⟨_, rfl⟩
    have hl2 : hv2 < 4294967296 := by rw [hv2d]; split <;> first | exact dg_lt _ _ | decide
    rw [← hv2d]
    refine lv_lor hx hb d_C_moveLeft_38 ?_
    refine x_topl (v := lN (hv1 * 4294967296 ||| hv2)) (jN_or _ _) ?_
    refine lv_lstore hx hb d_C_moveLeft_39 hl (by decide) rfl (fun ls hl => ?_)
    have hl : lv_has ls 7 [(5, .long (lN (hv1 * 4294967296 ||| hv2))), (4, .int (nI i)), (3, .int (nI (b / 32))), (0, .ref z), (1, .ref x), (2, .int (nI b))] := hl
    refine lv_aload_n hx hb d_C_moveLeft_41 rfl (lv_at hl 3 rfl) ?_
    refine lv_iload hx hb d_C_moveLeft_42 (lv_at hl 1 rfl) ?_
    refine lv_lload hx hb d_C_moveLeft_44 (lv_at hl 0 rfl) ?_
    refine lv_iload_n hx hb d_C_moveLeft_46 rfl (lv_at hl 5 rfl) ?_
    refine lv_bipush (v := nI 32) hx hb d_C_moveLeft_47 (by decide) ?_
    refine lv_irem hx hb d_C_moveLeft_49 (by decide) ?_
    refine x_topi (v := nI (b % 32)) (pk_rem (by omega) (by decide) (by decide)) ?_
    refine lv_lshl (v := lN ((hv1 * 4294967296 ||| hv2) * 2 ^ (b % 32) % 18446744073709551616)) hx hb d_C_moveLeft_50 ((jN_shl _ (by omega)).trans (jN_mod _).symm) ?_
    refine lv_bipush (v := nI 32) hx hb d_C_moveLeft_51 (by decide) ?_
    refine lv_lushr (v := lN (dg (vx * 2 ^ b) i)) hx hb d_C_moveLeft_53 (by rw [mv_l, ← hv1d, ← hv2d]; exact jN_shr (k := 32) (Nat.mod_lt _ (by decide)) (by decide)) ?_
    refine x_last (A := fun q => q = z) hx hb hJ hf hlo (rfl) (i) (rfl) (by omega) (by omega) d_C_moveLeft_54 (fun H3 locs3 h3 hF3 hlo3 => ?_)
    refine lv_iinc (v := nI (i + 1)) (k := 1) hx hb d_C_moveLeft_55 hl rfl (nI_1 i) (by decide) rfl (fun ls hl => ?_)
    have hl : lv_has ls 7 [(4, .int (nI (i + 1))), (5, .long (lN (hv1 * 4294967296 ||| hv2))), (3, .int (nI (b / 32))), (0, .ref z), (1, .ref x), (2, .int (nI b))] := hl
    refine lv_goto (tgt := 8) hx hb d_C_moveLeft_58 (by decide) ?_
    have hl : lv_has ls 7 [(4, .int (nI (i + 1))), (3, .int (nI (b / 32))), (0, .ref z), (1, .ref x), (2, .int (nI b))] := lv_sub hl [0, 2, 3, 4, 5] rfl
    exact ih _ _ ls ⟨_, hl, hlo3, hF.tr hF3 (fun _ h => h), h3, NL_up hN⟩
  · intro H locs ls ⟨f, hl, hlo, hF, hf, hN⟩
    refine lv_iload hx hb d_C_moveLeft_8 (lv_at hl 0 rfl) ?_
    refine lv_bipush (v := nI 8) hx hb d_C_moveLeft_10 (by decide) ?_
    refine lv_icmp_ge (tgt := 61) hx hb d_C_moveLeft_12 (by decide) (fun _ => ?_) (fun hc => absurd (nI_le (Nat.le_refl _) (by omega)) hc)
    exact W.vret hx hb hr (fun t ht hW => ⟨rfl, by rw [ht]; exact hF, f, by rw [ht]; exact hf, hN⟩) hlo d_C_moveLeft_61
  · exact ⟨fz, hl, (fun _ h => nomatch h), XF.rf, hz, NL_0⟩
set_option maxHeartbeats 4000000 in
set_option maxRecDepth 100000 in
theorem c_moveRight (l : Launch) (D : va_G) (cJ cI cQ cR : ClassId) (z x vx b o w : Nat) (fz fx : Nat → Int64) (hb9 : b ≤ 256) (ho : o < 4294967296) (hxz : x ≠ z) (hNx : NL fx 8 vx) (hw1 : ∀ k, k < 8 → dg w k = dg vx k) (hw2 : ∀ k, 8 ≤ k → k < 24 → dg w k = o) : Met l y_C_moveRight w_C_moveRight { frames := 1, cells := 0, slots := 0, locals := 23 } (xP D vwCl (TY cJ cI cQ cR) [.ref z, .ref x, .int (nI b), .long (lN o)] (fun H => hL H cJ z 8 fz ∧ hL H cJ x 8 fx)) (xQv (fun H0 H => XF (fun q => q = z) H0 H ∧ ∃ (f : Nat → Int64), hL H cJ z 8 f ∧ NL f 8 (w / 2 ^ b))) 0 0 (fun q => q = z) := by
  refine Met.ofW (cc := b_C_moveRight) (maxL := 9) (ret := none) (by decide) rfl ?_
  intro p e s m args below meth c s₁ B hml hv
  obtain ⟨rfl, hK, ⟨hz, hX⟩⟩ := hv
  have hx := B.exec
  have hb := B.bytes
  have hr := B.returns
  have hts := atoms_spec (ws := w_C_moveRight) B.pre
  have htw : ∀ w ∈ WT, w.before _ s = true := fun w h => hts w (List.mem_cons_of_mem _ h)
  have hown : s.vm.findClass "WideNumbers" = some m.cls := findClass_of_methodNamed B.named
  have hlocks := B.notSynchronized
  have hJ : ArrOfT s cJ .long := (hK.2 0 _ rfl).1
  have hI9 : ArrOfT s cI .int := (hK.2 1 _ rfl).1
  have hl := lv_entry ([.ref z, .ref x, .int (nI b), .long (lN o)]) (n := 9) (Nat.le_of_ble_eq_true rfl)
  rw [lg_entry_eq]
  generalize (lg_sl ([.ref z, .ref x, .int (nI b), .long (lN o)]) ++ List.replicate (9 - (lg_sl ([.ref z, .ref x, .int (nI b), .long (lN o)])).length) Slot.unset).toArray = ls at hl ⊢
  have hl : lv_has ls 9 [(0, .ref z), (1, .ref x), (2, .int (nI b)), (3, .long (lN o))] := hl
  have hg : ∀ k, k < 24 → limbV fx (nI k) (lN o) = lN (dg w k) := by
    intro k hk
    rw [limb_r (by omega)]
    by_cases h : k < 8
    · rw [if_pos h, hw1 k h]; exact hNx k h
    · rw [if_neg h, hw2 k (by omega) hk]
  refine lv_iload_n hx hb d_C_moveRight_0 rfl (lv_at hl 2 rfl) ?_
  refine lv_bipush (v := nI 32) hx hb d_C_moveRight_1 (by decide) ?_
  refine lv_idiv hx hb d_C_moveRight_3 (by decide) ?_
  refine x_topi (v := nI (b / 32)) (pk_div (by omega) (by decide) (by decide)) ?_
  refine lv_istore hx hb d_C_moveRight_4 hl (by decide) rfl (fun ls hl => ?_)
  have hl : lv_has ls 9 [(5, .int (nI (b / 32))), (0, .ref z), (1, .ref x), (2, .int (nI b)), (3, .long (lN o))] := hl
  refine lv_iconst (v := nI 0) hx hb d_C_moveRight_6 (by decide) ?_
  refine lv_istore hx hb d_C_moveRight_7 hl (by decide) rfl (fun ls hl => ?_)
  have hl : lv_has ls 9 [(6, .int (nI 0)), (5, .int (nI (b / 32))), (0, .ref z), (1, .ref x), (2, .int (nI b)), (3, .long (lN o))] := hl
  have hl : lv_has ls 9 [(6, .int (nI 0)), (5, .int (nI (b / 32))), (0, .ref z), (1, .ref x), (2, .int (nI b)), (3, .long (lN o))] := lv_sub hl [0, 1, 2, 3, 4, 5] rfl
  refine x_loop 9 (fun i H locs ls => ∃ (f : Nat → Int64), lv_has ls 9 [(6, .int (nI i)), (5, .int (nI (b / 32))), (0, .ref z), (1, .ref x), (2, .int (nI b)), (3, .long (lN o))] ∧ (∀ q ∈ locs, q.base = z) ∧ XF (fun q => q = z) s.heap H ∧ hL H cJ z 8 f ∧ NL f i (w / 2 ^ b)) 8 ?_ ?_ 0 _ _ _ (by omega) ?_
  · intro i H locs ls hi ⟨f, hl, hlo, hF, hf, hN⟩ ih
    refine lv_iload hx hb d_C_moveRight_9 (lv_at hl 0 rfl) ?_
    refine lv_bipush (v := nI 8) hx hb d_C_moveRight_11 (by decide) ?_
    refine lv_icmp_ge (tgt := 65) hx hb d_C_moveRight_13 (by decide) (fun hc => absurd hc (nI_ge (by omega) (by omega))) (fun _ => ?_)
    have hd1 := dg_lt w (i + b / 32 + 1)
    have hd2 := dg_lt w (i + b / 32)
    refine lv_aload_n hx hb d_C_moveRight_16 rfl (lv_at hl 3 rfl) ?_
    refine lv_iload hx hb d_C_moveRight_17 (lv_at hl 0 rfl) ?_
    refine lv_iload hx hb d_C_moveRight_19 (lv_at hl 1 rfl) ?_
    refine lv_iadd hx hb d_C_moveRight_21 ?_
    refine x_topi (v := nI (i + b / 32)) (nI_add _ _) ?_
    refine lv_iconst (v := nI 1) hx hb d_C_moveRight_22 (by decide) ?_
    refine lv_iadd hx hb d_C_moveRight_23 ?_
    refine x_topi (v := nI (i + b / 32 + 1)) (nI_1 _) ?_
    refine lv_lload_n hx hb d_C_moveRight_24 rfl (lv_at hl 5 rfl) ?_
    refine x_calll (A := fun q => q = z) (va_runS (As := [.ref x, .int (nI (i + b / 32 + 1)), .long (lN o)]) (rest := []) ⟨hx, hb, hml, hown, htw⟩ (c_limbOr l D cJ cI cQ cR x (nI (i + b / 32 + 1)) (lN o) fx) (xcS 3 htw kw_216 kw_1 kw_214 kw_215 rfl rfl ⟨by decide, by decide, by decide +kernel⟩ ⟨Nat.le_of_ble_eq_true rfl, Nat.le_of_ble_eq_true rfl⟩) (xPre hK (hL_f hX hF hxz)) rfl rfl hl.1 rfl (lv_room (Nat.le_of_ble_eq_true rfl)) d_C_moveRight_25 ⟨Nat.le_of_ble_eq_true rfl, Nat.le_of_ble_eq_true rfl⟩) hlo (fun _ h => h.elim) (fun r1 H1 locs1 hB1 hlo => ?_)
    obtain ⟨rfl, rfl⟩ := hB1
    refine x_topl (v := lN (dg w (i + b / 32 + 1))) (hg _ (by omega)) ?_
    refine lv_bipush (v := nI 32) hx hb d_C_moveRight_28 (by decide) ?_
    refine lv_lshl (v := lN (dg w (i + b / 32 + 1) * 4294967296)) hx hb d_C_moveRight_30 (jN_shl (k := 32) _ (by decide)) ?_
    refine lv_aload_n hx hb d_C_moveRight_31 rfl (lv_at hl 3 rfl) ?_
    refine lv_iload hx hb d_C_moveRight_32 (lv_at hl 0 rfl) ?_
    refine lv_iload hx hb d_C_moveRight_34 (lv_at hl 1 rfl) ?_
    refine lv_iadd hx hb d_C_moveRight_36 ?_
    refine x_topi (v := nI (i + b / 32)) (nI_add _ _) ?_
    refine lv_lload_n hx hb d_C_moveRight_37 rfl (lv_at hl 5 rfl) ?_
    refine x_calll (A := fun q => q = z) (va_runS (As := [.ref x, .int (nI (i + b / 32)), .long (lN o)]) (rest := [.long (lN (dg w (i + b / 32 + 1) * 4294967296))]) ⟨hx, hb, hml, hown, htw⟩ (c_limbOr l D cJ cI cQ cR x (nI (i + b / 32)) (lN o) fx) (xcS 3 htw kw_216 kw_1 kw_214 kw_215 rfl rfl ⟨by decide, by decide, by decide +kernel⟩ ⟨Nat.le_of_ble_eq_true rfl, Nat.le_of_ble_eq_true rfl⟩) (xPre hK (hL_f hX hF hxz)) rfl rfl hl.1 rfl (lv_room (Nat.le_of_ble_eq_true rfl)) d_C_moveRight_38 ⟨Nat.le_of_ble_eq_true rfl, Nat.le_of_ble_eq_true rfl⟩) hlo (fun _ h => h.elim) (fun r2 H2 locs2 hB2 hlo => ?_)
    obtain ⟨rfl, rfl⟩ := hB2
    refine x_topl (v := lN (dg w (i + b / 32))) (hg _ (by omega)) ?_
    refine lv_lor hx hb d_C_moveRight_41 ?_
    refine x_topl (v := lN (dg w (i + b / 32 + 1) * 4294967296 ||| dg w (i + b / 32))) (jN_or _ _) ?_
    have hlt : dg w (i + b / 32 + 1) * 4294967296 ||| dg w (i + b / 32) < 18446744073709551616 := Nat.or_lt_two_pow (n := 64) (by omega) (by omega)
    refine lv_lstore hx hb d_C_moveRight_42 hl (by decide) rfl (fun ls hl => ?_)
    have hl : lv_has ls 9 [(7, .long (lN (dg w (i + b / 32 + 1) * 4294967296 ||| dg w (i + b / 32)))), (6, .int (nI i)), (5, .int (nI (b / 32))), (0, .ref z), (1, .ref x), (2, .int (nI b)), (3, .long (lN o))] := hl
    refine lv_aload_n hx hb d_C_moveRight_44 rfl (lv_at hl 3 rfl) ?_
    refine lv_iload hx hb d_C_moveRight_45 (lv_at hl 1 rfl) ?_
    refine lv_lload hx hb d_C_moveRight_47 (lv_at hl 0 rfl) ?_
    refine lv_iload_n hx hb d_C_moveRight_49 rfl (lv_at hl 5 rfl) ?_
    refine lv_bipush (v := nI 32) hx hb d_C_moveRight_50 (by decide) ?_
    refine lv_irem hx hb d_C_moveRight_52 (by decide) ?_
    refine x_topi (v := nI (b % 32)) (pk_rem (by omega) (by decide) (by decide)) ?_
    refine lv_lushr (v := lN ((dg w (i + b / 32 + 1) * 4294967296 ||| dg w (i + b / 32)) / 2 ^ (b % 32))) hx hb d_C_moveRight_53 (jN_shr hlt (by omega)) ?_
    refine lv_ldc2 (v := (4294967295 : Int64)) hx hb hown (htw _ kw_126) d_C_moveRight_54 ?_
    refine lv_land hx hb d_C_moveRight_57 ?_
    refine x_topl (v := lN (dg (w / 2 ^ b) i)) (by rw [jN_lo, mv_r]) ?_
    refine x_last (A := fun q => q = z) hx hb hJ hf hlo (rfl) (i) (rfl) (by omega) (by omega) d_C_moveRight_58 (fun H3 locs3 h3 hF3 hlo3 => ?_)
    refine lv_iinc (v := nI (i + 1)) (k := 1) hx hb d_C_moveRight_59 hl rfl (nI_1 i) (by decide) rfl (fun ls hl => ?_)
    have hl : lv_has ls 9 [(6, .int (nI (i + 1))), (7, .long (lN (dg w (i + b / 32 + 1) * 4294967296 ||| dg w (i + b / 32)))), (5, .int (nI (b / 32))), (0, .ref z), (1, .ref x), (2, .int (nI b)), (3, .long (lN o))] := hl
    refine lv_goto (tgt := 9) hx hb d_C_moveRight_62 (by decide) ?_
    have hl : lv_has ls 9 [(6, .int (nI (i + 1))), (5, .int (nI (b / 32))), (0, .ref z), (1, .ref x), (2, .int (nI b)), (3, .long (lN o))] := lv_sub hl [0, 2, 3, 4, 5, 6] rfl
    exact ih _ _ ls ⟨_, hl, hlo3, hF.tr hF3 (fun _ h => h), h3, NL_up hN⟩
  · intro H locs ls ⟨f, hl, hlo, hF, hf, hN⟩
    refine lv_iload hx hb d_C_moveRight_9 (lv_at hl 0 rfl) ?_
    refine lv_bipush (v := nI 8) hx hb d_C_moveRight_11 (by decide) ?_
    refine lv_icmp_ge (tgt := 65) hx hb d_C_moveRight_13 (by decide) (fun _ => ?_) (fun hc => absurd (nI_le (Nat.le_refl _) (by omega)) hc)
    exact W.vret hx hb hr (fun t ht hW => ⟨rfl, by rw [ht]; exact hF, f, by rw [ht]; exact hf, hN⟩) hlo d_C_moveRight_65
  · exact ⟨fz, hl, (fun _ h => nomatch h), XF.rf, hz, NL_0⟩
set_option maxHeartbeats 4000000 in
set_option maxRecDepth 100000 in
theorem c_multiply (l : Launch) (D : va_G) (cJ cI cQ cR : ClassId) (z x y n vx vy : Nat) (fz fx fy : Nat → Int64) (hn : n = 8 ∨ n = 16) (hxz : x ≠ z) (hyz : y ≠ z) (hvx : vx < 2 ^ 256) (hvy : vy < 2 ^ 256) (hNx : NL fx 8 vx) (hNy : NL fy 8 vy) : Met l y_C_multiply w_C_multiply { frames := 1, cells := 0, slots := 0, locals := 24 } (xP D vwCl (TY cJ cI cQ cR) [.ref z, .ref x, .ref y] (fun H => hL H cJ z n fz ∧ hL H cJ x 8 fx ∧ hL H cJ y 8 fy)) (xQv (fun H0 H => XF (fun q => q = z) H0 H ∧ ∃ (f : Nat → Int64), hL H cJ z n f ∧ NL f n (vx * vy))) 0 0 (fun q => q = z) := by
  refine Met.ofW (cc := b_C_multiply) (maxL := 9) (ret := none) (by decide) rfl ?_
  intro p e s m args below meth c s₁ B hml hv
  obtain ⟨rfl, hK, ⟨hz, hX, hY⟩⟩ := hv
  have hx := B.exec
  have hb := B.bytes
  have hr := B.returns
  have hts := atoms_spec (ws := w_C_multiply) B.pre
  have htw : ∀ w ∈ WT, w.before _ s = true := fun w h => hts w (List.mem_cons_of_mem _ h)
  have hown : s.vm.findClass "WideNumbers" = some m.cls := findClass_of_methodNamed B.named
  have hlocks := B.notSynchronized
  have hJ : ArrOfT s cJ .long := (hK.2 0 _ rfl).1
  have hI9 : ArrOfT s cI .int := (hK.2 1 _ rfl).1
  have hl := lv_entry ([.ref z, .ref x, .ref y]) (n := 9) (Nat.le_of_ble_eq_true rfl)
  rw [lg_entry_eq]
  generalize (lg_sl ([.ref z, .ref x, .ref y]) ++ List.replicate (9 - (lg_sl ([.ref z, .ref x, .ref y])).length) Slot.unset).toArray = ls at hl ⊢
  have hl : lv_has ls 9 [(0, .ref z), (1, .ref x), (2, .ref y)] := hl
  have hn16 : n ≤ 16 := by omega
  have hlo : ∀ q ∈ ([] : List Loc), (fun q => q = z) q.base := fun _ h => nomatch h
  refine lv_aload_n hx hb d_C_multiply_0 rfl (lv_at hl 0 rfl) ?_
  refine lv_lconst (v := lN 0) hx hb d_C_multiply_1 (by decide) ?_
  refine x_callv (A := fun q => q = z) (va_runS (As := [.ref z, .long (lN 0)]) (rest := []) ⟨hx, hb, hml, hown, htw⟩ (c_fill l D cJ cI cQ cR z n (lN 0) fz hn16) (xcS 2 htw kw_156 kw_7 kw_154 kw_155 rfl rfl ⟨by decide, by decide, by decide +kernel⟩ ⟨Nat.le_of_ble_eq_true rfl, Nat.le_of_ble_eq_true rfl⟩) (xPre hK hz) rfl rfl hl.1 rfl (lv_room (Nat.le_of_ble_eq_true rfl)) d_C_multiply_2 ⟨Nat.le_of_ble_eq_true rfl, Nat.le_of_ble_eq_true rfl⟩) hlo (fun _ h => h) (fun H1 locs1 hB1 hlo => ?_)
  obtain ⟨hF, f0, hf0, hN0⟩ := hB1
  refine lv_iconst (v := nI 0) hx hb d_C_multiply_5 (by decide) ?_
  refine lv_istore_n hx hb d_C_multiply_6 rfl hl (by decide) rfl (fun ls hl => ?_)
  have hl : lv_has ls 9 [(3, .int (nI 0)), (0, .ref z), (1, .ref x), (2, .ref y)] := hl
  have hl : lv_has ls 9 [(3, .int (nI 0)), (0, .ref z), (1, .ref x), (2, .ref y)] := lv_sub hl [0, 1, 2, 3] rfl
  refine x_loop 7 (fun i H locs ls => ∃ (f : Nat → Int64), lv_has ls 9 [(3, .int (nI i)), (0, .ref z), (1, .ref x), (2, .ref y)] ∧ (∀ q ∈ locs, q.base = z) ∧ XF (fun q => q = z) s.heap H ∧ hL H cJ z n f ∧ NL f n (vx % 2 ^ (32 * i) * vy)) 8 ?_ ?_ 0 _ _ _ (by omega) ?_
  · intro i H locs ls hi ⟨f, hl, hlo, hF, hf, hN⟩ ih
    refine lv_iload_n hx hb d_C_multiply_7 rfl (lv_at hl 0 rfl) ?_
    refine lv_bipush (v := nI 8) hx hb d_C_multiply_8 (by decide) ?_
    refine lv_icmp_ge (tgt := 103) hx hb d_C_multiply_10 (by decide) (fun hc => absurd hc (nI_ge (by omega) (by omega))) (fun _ => ?_)
    refine lv_lconst (v := lN 0) hx hb d_C_multiply_13 (by decide) ?_
    refine lv_lstore hx hb d_C_multiply_14 hl (by decide) rfl (fun ls hl => ?_)
    have hl : lv_has ls 9 [(4, .long (lN 0)), (3, .int (nI i)), (0, .ref z), (1, .ref x), (2, .ref y)] := hl
    refine lv_iconst (v := nI 0) hx hb d_C_multiply_16 (by decide) ?_
    refine lv_istore hx hb d_C_multiply_17 hl (by decide) rfl (fun ls hl => ?_)
    have hl : lv_has ls 9 [(6, .int (nI 0)), (4, .long (lN 0)), (3, .int (nI i)), (0, .ref z), (1, .ref x), (2, .ref y)] := hl
    have hl : lv_has ls 9 [(6, .int (nI 0)), (4, .long (lN 0)), (3, .int (nI i)), (0, .ref z), (1, .ref x), (2, .ref y)] := lv_sub hl [0, 1, 2, 3, 4, 5] rfl
    have hd1 := dg_lt vx i
    have hVlt := mo_lt (vx := vx) (i := i) hvy
    have hVs := mo_s vx vy i
    obtain ⟨U, hU⟩ : ∃ U, U = vx % 2 ^ (32 * i) * vy := ⟨_, rfl⟩
    rw [← hU] at hN hVlt hVs
    obtain ⟨N9, hN9, hN9n⟩ : ∃ N9, (n = 16 ∧ N9 = 8 ∨ n = 8 ∧ N9 = 8 - i) ∧ N9 ≤ 8 ∧ i + N9 ≤ n := by
      rcases hn with h | h
      · exact ⟨8 - i, Or.inr ⟨h, rfl⟩, by omega, by omega⟩
      · exact ⟨8, Or.inl ⟨h, rfl⟩, by omega, by omega⟩
    refine x_loop 19 (fun j H locs ls => ∃ (c9 r : Nat) (f : Nat → Int64), lv_has ls 9 [(6, .int (nI j)), (4, .long (lN c9)), (3, .int (nI i)), (0, .ref z), (1, .ref x), (2, .ref y)] ∧ (∀ q ∈ locs, q.base = z) ∧ XF (fun q => q = z) s.heap H ∧ hL H cJ z n f ∧ NL f (i + j) r ∧ (∀ k, i + j ≤ k → k < n → f k = lN (dg U k)) ∧ r < 2 ^ (32 * (i + j)) ∧ r + 2 ^ (32 * (i + j)) * c9 = U % 2 ^ (32 * (i + j)) + 2 ^ (32 * i) * (dg vx i * (vy % 2 ^ (32 * j))) ∧ c9 < 4294967296) N9 ?_ ?_ 0 _ _ _ (by omega) ?_
    · intro j H locs ls hj ⟨c9, r, f, hl, hlo, hF, hf, hN, hhi, hr9, he, hc9⟩ ih2
      refine lv_iload hx hb d_C_multiply_19 (lv_at hl 0 rfl) ?_
      refine lv_bipush (v := nI 8) hx hb d_C_multiply_21 (by decide) ?_
      refine lv_icmp_ge (tgt := 80) hx hb d_C_multiply_23 (by decide) (fun hc => absurd hc (nI_ge (by omega) (by omega))) (fun _ => ?_)
      refine lv_iload_n hx hb d_C_multiply_26 rfl (lv_at hl 2 rfl) ?_
      refine lv_iload hx hb d_C_multiply_27 (lv_at hl 0 rfl) ?_
      refine lv_iadd hx hb d_C_multiply_29 ?_
      refine x_topi (v := nI (i + j)) (nI_add _ _) ?_
      refine lv_aload_n hx hb d_C_multiply_30 rfl (lv_at hl 3 rfl) ?_
      refine x_len hx hb hJ hf d_C_multiply_31 ?_
      refine lv_icmp_ge (tgt := 80) hx hb d_C_multiply_32 (by decide) (fun hc => absurd hc (nI_ge (by omega) (by omega))) (fun _ => ?_)
      refine lv_aload_n hx hb d_C_multiply_35 rfl (lv_at hl 4 rfl) ?_
      refine lv_iload_n hx hb d_C_multiply_36 rfl (lv_at hl 2 rfl) ?_
      refine x_lald hx hb hJ (hL_f hX hF hxz) (i) (rfl) (by omega) (by omega) (v := lN (dg vx i)) (hNx i hi) d_C_multiply_37 ?_
      refine lv_aload_n hx hb d_C_multiply_38 rfl (lv_at hl 5 rfl) ?_
      refine lv_iload hx hb d_C_multiply_39 (lv_at hl 0 rfl) ?_
      refine x_lald hx hb hJ (hL_f hY hF hyz) (j) (rfl) (by omega) (by omega) (v := lN (dg vy j)) (hNy j (by omega)) d_C_multiply_41 ?_
      refine lv_lmul hx hb d_C_multiply_42 ?_
      refine x_topl (v := lN (dg vx i * dg vy j)) (lN_mul _ _) ?_
      refine lv_aload_n hx hb d_C_multiply_43 rfl (lv_at hl 3 rfl) ?_
      refine lv_iload_n hx hb d_C_multiply_44 rfl (lv_at hl 2 rfl) ?_
      refine lv_iload hx hb d_C_multiply_45 (lv_at hl 0 rfl) ?_
      refine lv_iadd hx hb d_C_multiply_47 ?_
      refine x_topi (v := nI (i + j)) (nI_add _ _) ?_
      refine x_lald hx hb hJ hf (i + j) (rfl) (by omega) (by omega) (v := lN (dg U (i + j))) (hhi _ (Nat.le_refl _) (by omega)) d_C_multiply_48 ?_
      refine lv_ladd hx hb d_C_multiply_49 ?_
      refine lv_lload hx hb d_C_multiply_50 (lv_at hl 1 rfl) ?_
      refine lv_ladd hx hb d_C_multiply_52 ?_
      refine x_topl (v := lN (dg vx i * dg vy j + dg U (i + j) + c9)) (by rw [lN_add, lN_add]) ?_
      have hd2 := dg_lt vy j
      have hd3 := dg_lt U (i + j)
      have hm : dg vx i * dg vy j ≤ 4294967295 * 4294967295 := Nat.mul_le_mul (by omega) (by omega)
      obtain ⟨S, hS⟩ : ∃ S, S = dg vx i * dg vy j + dg U (i + j) + c9 := ⟨_, rfl⟩
      rw [← hS]
      have hS64 : S < 18446744073709551616 := by omega
      refine lv_lstore hx hb d_C_multiply_53 hl (by decide) rfl (fun ls hl => ?_)
      have hl : lv_has ls 9 [(7, .long (lN S)), (6, .int (nI j)), (4, .long (lN c9)), (3, .int (nI i)), (0, .ref z), (1, .ref x), (2, .ref y)] := hl
      refine lv_aload_n hx hb d_C_multiply_55 rfl (lv_at hl 4 rfl) ?_
      refine lv_iload_n hx hb d_C_multiply_56 rfl (lv_at hl 3 rfl) ?_
      refine lv_iload hx hb d_C_multiply_57 (lv_at hl 1 rfl) ?_
      refine lv_iadd hx hb d_C_multiply_59 ?_
      refine x_topi (v := nI (i + j)) (nI_add _ _) ?_
      refine lv_lload hx hb d_C_multiply_60 (lv_at hl 0 rfl) ?_
      refine lv_ldc2 (v := (4294967295 : Int64)) hx hb hown (htw _ kw_126) d_C_multiply_62 ?_
      refine lv_land hx hb d_C_multiply_65 ?_
      refine x_topl (v := lN (S % 4294967296)) (jN_lo S) ?_
      refine x_last (A := fun q => q = z) hx hb hJ hf hlo (rfl) (i + j) (rfl) (by omega) (by omega) d_C_multiply_66 (fun H1 locs1 h1 hF1 hlo1 => ?_)
      refine lv_lload hx hb d_C_multiply_67 (lv_at hl 0 rfl) ?_
      refine lv_bipush (v := nI 32) hx hb d_C_multiply_69 (by decide) ?_
      refine lv_lushr (v := lN (S / 4294967296)) hx hb d_C_multiply_71 (jN_shr (k := 32) hS64 (by decide)) ?_
      refine lv_lstore hx hb d_C_multiply_72 hl (by decide) rfl (fun ls hl => ?_)
      have hl : lv_has ls 9 [(4, .long (lN (S / 4294967296))), (7, .long (lN S)), (6, .int (nI j)), (3, .int (nI i)), (0, .ref z), (1, .ref x), (2, .ref y)] := hl
      refine lv_iinc (v := nI (j + 1)) (k := 2) hx hb d_C_multiply_74 hl rfl (nI_1 j) (by decide) rfl (fun ls hl => ?_)
      have hl : lv_has ls 9 [(6, .int (nI (j + 1))), (4, .long (lN (S / 4294967296))), (7, .long (lN S)), (3, .int (nI i)), (0, .ref z), (1, .ref x), (2, .ref y)] := hl
      refine lv_goto (tgt := 19) hx hb d_C_multiply_77 (by decide) ?_
      have hl : lv_has ls 9 [(6, .int (nI (j + 1))), (4, .long (lN (S / 4294967296))), (3, .int (nI i)), (0, .ref z), (1, .ref x), (2, .ref y)] := lv_sub hl [0, 1, 3, 4, 5, 6] rfl
      refine ih2 H1 locs1 ls ⟨S / 4294967296, r + 2 ^ (32 * (i + j)) * (S % 4294967296), _, hl, hlo1, hF.tr hF1 (fun _ h => h), h1, NL_put hN hr9 (Nat.mod_lt _ (by decide)), fun k hk hkn => by rw [pk_uLn (by omega)]; exact hhi k (by omega) hkn, dg_alt hr9 (Nat.mod_lt _ (by decide)), ?_, by omega⟩
      rw [show i + (j + 1) = (i + j) + 1 from rfl, dg_mods, dg_mods vy j, pw_s]
      exact st_mul (show 2 ^ (32 * (i + j)) = 2 ^ (32 * i) * 2 ^ (32 * j) by rw [← Nat.pow_add]; congr 1; omega) he (by rw [← hS]; exact Nat.mod_add_div S 4294967296)
    · intro H locs ls ⟨c9, r, f, hl, hlo, hF, hf, hN, hhi, hr9, he, hc9⟩
      refine x_cut 80 (fun H0 locs0 ls0 => H0 = H ∧ locs0 = locs ∧ lv_has ls0 9 [(6, .int (nI N9)), (4, .long (lN c9)), (3, .int (nI i)), (0, .ref z), (1, .ref x), (2, .ref y)]) ?_ (fun J => ?_)
      · rintro H0 locs0 ls ⟨rfl, rfl, hl⟩
        refine lv_iload_n hx hb d_C_multiply_80 rfl (lv_at hl 2 rfl) ?_
        refine lv_bipush (v := nI 8) hx hb d_C_multiply_81 (by decide) ?_
        refine lv_iadd hx hb d_C_multiply_83 ?_
        refine x_topi (v := nI (i + 8)) (nI_add _ _) ?_
        refine lv_aload_n hx hb d_C_multiply_84 rfl (lv_at hl 3 rfl) ?_
        refine x_len hx hb hJ hf d_C_multiply_85 ?_
        refine lv_icmp_ge (tgt := 97) hx hb d_C_multiply_86 (by decide) (fun hc => ?_) (fun hc => ?_)
        · have h8 : n = 8 := by
            rcases hn with h | h
            · exact h
            · exact absurd hc (nI_ge (by omega) (by omega))
          have hN98 : N9 = 8 - i := by omega
          rw [hN98] at hN hr9 he
          rw [show i + (8 - i) = 8 by omega] at hN hr9
          have hrr := mo_8 (by omega) hr9 he
          rw [← hVs] at hrr
          refine lv_iinc (v := nI (i + 1)) (k := 2) hx hb d_C_multiply_97 hl rfl (nI_1 i) (by decide) rfl (fun ls hl => ?_)
          have hl : lv_has ls 9 [(3, .int (nI (i + 1))), (6, .int (nI N9)), (4, .long (lN c9)), (0, .ref z), (1, .ref x), (2, .ref y)] := hl
          refine lv_goto (tgt := 7) hx hb d_C_multiply_100 (by decide) ?_
          have hl : lv_has ls 9 [(3, .int (nI (i + 1))), (0, .ref z), (1, .ref x), (2, .ref y)] := lv_sub hl [0, 3, 4, 5] rfl
          exact ih _ _ ls ⟨f, hl, hlo, hF, hf, fun q hq => by
            rw [hN q (by omega), hrr, show (2 : Nat) ^ 256 = 2 ^ (32 * 8) from rfl, dg_mod (by omega)]⟩
        · have h16 : n = 16 := by
            rcases hn with h | h
            · exact absurd (nI_le (show n ≤ i + 8 by omega) (by omega)) hc
            · exact h
          have hN98 : N9 = 8 := by omega
          rw [hN98] at hN hr9 he hhi
          have hrr := mo_16 hVlt hvy he
          rw [← hVs] at hrr
          refine lv_aload_n hx hb d_C_multiply_89 rfl (lv_at hl 3 rfl) ?_
          refine lv_iload_n hx hb d_C_multiply_90 rfl (lv_at hl 2 rfl) ?_
          refine lv_bipush (v := nI 8) hx hb d_C_multiply_91 (by decide) ?_
          refine lv_iadd hx hb d_C_multiply_93 ?_
          refine x_topi (v := nI (i + 8)) (nI_add _ _) ?_
          refine lv_lload hx hb d_C_multiply_94 (lv_at hl 1 rfl) ?_
          refine x_last (A := fun q => q = z) hx hb hJ hf hlo (rfl) (i + 8) (rfl) (by omega) (by omega) d_C_multiply_96 (fun H1 locs1 h1 hF1 hlo1 => ?_)
          refine lv_iinc (v := nI (i + 1)) (k := 2) hx hb d_C_multiply_97 hl rfl (nI_1 i) (by decide) rfl (fun ls hl => ?_)
          have hl : lv_has ls 9 [(3, .int (nI (i + 1))), (6, .int (nI N9)), (4, .long (lN c9)), (0, .ref z), (1, .ref x), (2, .ref y)] := hl
          refine lv_goto (tgt := 7) hx hb d_C_multiply_100 (by decide) ?_
          have hl : lv_has ls 9 [(3, .int (nI (i + 1))), (0, .ref z), (1, .ref x), (2, .ref y)] := lv_sub hl [0, 3, 4, 5] rfl
          have hN1 := NL_put hN hr9 hc9
          rw [hrr] at hN1
          refine ih _ _ ls ⟨_, hl, hlo1, hF.tr hF1 (fun _ h => h), h1, fun q hq => ?_⟩
          by_cases hq8 : q < i + 8 + 1
          · exact hN1 q hq8
          · rw [pk_uLn (by omega), hhi q (by omega) hq, dg_big (Nat.lt_of_lt_of_le hVlt (pw_le (by omega))), dg_big (Nat.lt_of_lt_of_le (mo_lt hvy) (pw_le (by omega)))]
      · by_cases h89 : N9 = 8
        · refine lv_iload hx hb d_C_multiply_19 (lv_at hl 0 rfl) ?_
          refine lv_bipush (v := nI 8) hx hb d_C_multiply_21 (by decide) ?_
          refine lv_icmp_ge (tgt := 80) hx hb d_C_multiply_23 (by decide) (fun _ => ?_) (fun hc => absurd (nI_le (show 8 ≤ N9 by omega) (by omega)) hc)
          exact J _ _ ls ⟨rfl, rfl, hl⟩
        · refine lv_iload hx hb d_C_multiply_19 (lv_at hl 0 rfl) ?_
          refine lv_bipush (v := nI 8) hx hb d_C_multiply_21 (by decide) ?_
          refine lv_icmp_ge (tgt := 80) hx hb d_C_multiply_23 (by decide) (fun hc => absurd hc (nI_ge (by omega) (by omega))) (fun _ => ?_)
          refine lv_iload_n hx hb d_C_multiply_26 rfl (lv_at hl 2 rfl) ?_
          refine lv_iload hx hb d_C_multiply_27 (lv_at hl 0 rfl) ?_
          refine lv_iadd hx hb d_C_multiply_29 ?_
          refine x_topi (v := nI (i + N9)) (nI_add _ _) ?_
          refine lv_aload_n hx hb d_C_multiply_30 rfl (lv_at hl 3 rfl) ?_
          refine x_len hx hb hJ hf d_C_multiply_31 ?_
          refine lv_icmp_ge (tgt := 80) hx hb d_C_multiply_32 (by decide) (fun _ => ?_) (fun hc => absurd (nI_le (show n ≤ i + N9 by omega) (by omega)) hc)
          exact J _ _ ls ⟨rfl, rfl, hl⟩
    · exact ⟨0, U % 2 ^ (32 * i), f, hl, hlo, hF, hf, NL_cut hN (by omega), fun k hk hkn => hN k hkn, Nat.mod_lt _ (pw_pos _), by simp [Nat.mod_one], by decide⟩
  · intro H locs ls ⟨f, hl, hlo, hF, hf, hN⟩
    refine lv_iload_n hx hb d_C_multiply_7 rfl (lv_at hl 0 rfl) ?_
    refine lv_bipush (v := nI 8) hx hb d_C_multiply_8 (by decide) ?_
    refine lv_icmp_ge (tgt := 103) hx hb d_C_multiply_10 (by decide) (fun _ => ?_) (fun hc => absurd (nI_le (Nat.le_refl _) (by omega)) hc)
    rw [Nat.mod_eq_of_lt (show vx < 2 ^ (32 * 8) from hvx)] at hN
    exact W.vret hx hb hr (fun t ht hW => ⟨rfl, by rw [ht]; exact hF, f, by rw [ht]; exact hf, hN⟩) hlo d_C_multiply_103
  · exact ⟨f0, hl, hlo, hF, hf0, fun j hj => by rw [hN0 j hj, show 2 ^ (32 * 0) = 1 from rfl, Nat.mod_one, Nat.zero_mul, dg_0]⟩
end
section
-- contract of divide
set_option maxHeartbeats 4000000 in
set_option maxRecDepth 100000 in
theorem c_divide (l : Launch) (D : va_G) (cJ cI cQ cR : ClassId) (o x y n vx vy : Nat) (fq fr fx fy : Nat → Int64) (hn : n = 8 ∨ n = 16) (hxn : ¬ DA o x) (hyn : ¬ DA o y) (hvx : vx < 2 ^ (32 * n)) (hvy : vy < 2 ^ 256) (hNx : NL fx n vx) (hNy : NL fy 8 vy) : Met l y_C_divide w_C_divide { frames := 2, cells := 0, slots := 0, locals := 42 } (xP D vwCl (TY cJ cI cQ cR) [.ref o, .ref x, .ref y] (fun H => CB D cQ o H ∧ hL H cJ (o + 22) 16 fq ∧ hL H cJ (o + 23) 8 fr ∧ hL H cJ x n fx ∧ hL H cJ y 8 fy)) (xQv (fun H0 H => XF (DA o) H0 H ∧ ∃ (f g : Nat → Int64), hL H cJ (o + 22) 16 f ∧ NL f 16 (vx / vy) ∧ hL H cJ (o + 23) 8 g ∧ NL g 8 (if vy = 0 then 0 else vx % vy))) 0 0 (DA o) := by
  refine Met.ofW (cc := b_C_divide) (maxL := 6) (ret := none) (by decide) rfl ?_
  intro p e s m args below meth c s₁ B hml hv
  obtain ⟨rfl, hK, ⟨hO0, hq0, hr0, hX0, hY0⟩⟩ := hv
  have hx := B.exec
  have hb := B.bytes
  have hr := B.returns
  have hts := atoms_spec (ws := w_C_divide) B.pre
  have htw : ∀ w ∈ WT, w.before _ s = true := fun w h => hts w (List.mem_cons_of_mem _ h)
  have hown : s.vm.findClass "WideNumbers" = some m.cls := findClass_of_methodNamed B.named
  have hlocks := B.notSynchronized
  have hJ : ArrOfT s cJ .long := (hK.2 0 _ rfl).1
  have hI9 : ArrOfT s cI .int := (hK.2 1 _ rfl).1
  have hl := lv_entry ([.ref o, .ref x, .ref y]) (n := 6) (Nat.le_of_ble_eq_true rfl)
  rw [lg_entry_eq]
  generalize (lg_sl ([.ref o, .ref x, .ref y]) ++ List.replicate (6 - (lg_sl ([.ref o, .ref x, .ref y])).length) Slot.unset).toArray = ls at hl ⊢
  have hl : lv_has ls 6 [(0, .ref o), (1, .ref x), (2, .ref y)] := hl
  have hn16 : n ≤ 16 := by omega
  have hlo : ∀ q ∈ ([] : List Loc), DA o q.base := fun _ h => nomatch h
  refine lv_aload_n hx hb d_C_divide_0 rfl (lv_at hl 0 rfl) ?_
  refine va_get (D := D) (ci := 0) (v := .ref (o + 22)) (C := "WideNumbers") (T := F_C) (N := 7) hx hb htw inC hown hK hO0.1 0 rfl rfl 5 (by decide) (htw _ kw_25) (fun _ h9 => h9) rfl d_C_divide_1 ?_
  refine lv_lconst (v := lN 0) hx hb d_C_divide_4 (by decide) ?_
  refine x_callv (A := DA o) (va_runS (As := [.ref (o + 22), .long (lN 0)]) (rest := []) ⟨hx, hb, hml, hown, htw⟩ (c_fill l D cJ cI cQ cR (o + 22) 16 (lN 0) fq (by decide)) (xcS 2 htw kw_156 kw_7 kw_154 kw_155 rfl rfl ⟨by decide, by decide, by decide +kernel⟩ ⟨Nat.le_of_ble_eq_true rfl, Nat.le_of_ble_eq_true rfl⟩) (xPre hK hq0) rfl rfl hl.1 rfl (lv_room (Nat.le_of_ble_eq_true rfl)) d_C_divide_5 ⟨Nat.le_of_ble_eq_true rfl, Nat.le_of_ble_eq_true rfl⟩) hlo (fun _ h => Or.inl h) (fun H1 locs1 hB1 hlo => ?_)
  obtain ⟨hF1, f1, hf1, hN1⟩ := hB1
  have hO1 := hO0.f1 hF1 (by omega)
  have hr1 := hL_f hr0 hF1 (show o + 23 ≠ o + 22 by omega)
  refine lv_aload_n hx hb d_C_divide_8 rfl (lv_at hl 0 rfl) ?_
  refine va_get (D := D) (ci := 0) (v := .ref (o + 23)) (C := "WideNumbers") (T := F_C) (N := 7) hx hb htw inC hown hK hO1.1 0 rfl rfl 6 (by decide) (htw _ kw_26) (fun _ h9 => h9) rfl d_C_divide_9 ?_
  refine lv_lconst (v := lN 0) hx hb d_C_divide_12 (by decide) ?_
  refine x_callv (A := DA o) (va_runS (As := [.ref (o + 23), .long (lN 0)]) (rest := []) ⟨hx, hb, hml, hown, htw⟩ (c_fill l D cJ cI cQ cR (o + 23) 8 (lN 0) fr (by decide)) (xcS 2 htw kw_156 kw_7 kw_154 kw_155 rfl rfl ⟨by decide, by decide, by decide +kernel⟩ ⟨Nat.le_of_ble_eq_true rfl, Nat.le_of_ble_eq_true rfl⟩) (xPre hK hr1) rfl rfl hl.1 rfl (lv_room (Nat.le_of_ble_eq_true rfl)) d_C_divide_13 ⟨Nat.le_of_ble_eq_true rfl, Nat.le_of_ble_eq_true rfl⟩) hlo (fun _ h => Or.inr h) (fun H2 locs2 hB2 hlo => ?_)
  obtain ⟨hF2, f2, hf2, hN2⟩ := hB2
  have hq2 := hL_f hf1 hF2 (show o + 22 ≠ o + 23 by omega)
  have hFF : XF (DA o) s.heap H2 := (hF1.wk (fun _ h => Or.inl h)).tr (hF2.wk (B := DA o) (fun _ h => Or.inr h)) (fun _ h => h)
  have hNz1 : NL f1 16 0 := fun j hj => by rw [hN1 j hj, dg_0]
  have hNz2 : NL f2 8 0 := fun j hj => by rw [hN2 j hj, dg_0]
  refine lv_aload_n hx hb d_C_divide_16 rfl (lv_at hl 2 rfl) ?_
  refine x_calli (A := DA o) (va_runS (As := [.ref y]) (rest := []) ⟨hx, hb, hml, hown, htw⟩ (c_usedBits l D cJ cI cQ cR y 8 vy fy (by decide) hvy hNy) (xcS 1 htw kw_163 kw_1 kw_161 kw_162 rfl rfl ⟨by decide, by decide, by decide +kernel⟩ ⟨Nat.le_of_ble_eq_true rfl, Nat.le_of_ble_eq_true rfl⟩) (xPre hK (hL_f hY0 hFF hyn)) rfl rfl hl.1 rfl (lv_room (Nat.le_of_ble_eq_true rfl)) d_C_divide_17 ⟨Nat.le_of_ble_eq_true rfl, Nat.le_of_ble_eq_true rfl⟩) hlo (fun _ h => h.elim) (fun r3 H3 locs3 hB3 hlo => ?_)
  obtain ⟨rfl, k, rfl, ⟨hk, hk2⟩, hk3⟩ := hB3
  refine lv_if_ne (tgt := 24) hx hb d_C_divide_20 (by decide) (fun hc => ?_) (fun hc => ?_)
  · have hkp : k ≠ 0 := fun h => hc (by rw [h]; rfl)
    have hvp : 0 < vy := Nat.lt_of_lt_of_le (pw_pos (k - 1)) (hk2.resolve_left hkp)
    refine lv_aload_n hx hb d_C_divide_24 rfl (lv_at hl 1 rfl) ?_
    refine x_calli (A := DA o) (va_runS (As := [.ref x]) (rest := []) ⟨hx, hb, hml, hown, htw⟩ (c_usedBits l D cJ cI cQ cR x n vx fx hn16 hvx hNx) (xcS 1 htw kw_163 kw_1 kw_161 kw_162 rfl rfl ⟨by decide, by decide, by decide +kernel⟩ ⟨Nat.le_of_ble_eq_true rfl, Nat.le_of_ble_eq_true rfl⟩) (xPre hK (hL_f hX0 hFF hxn)) rfl rfl hl.1 rfl (lv_room (Nat.le_of_ble_eq_true rfl)) d_C_divide_25 ⟨Nat.le_of_ble_eq_true rfl, Nat.le_of_ble_eq_true rfl⟩) hlo (fun _ h => h.elim) (fun r4 H4 locs4 hB4 hlo => ?_)
    obtain ⟨rfl, kx, rfl, ⟨hkx, hkx2⟩, hkx3⟩ := hB4
    refine lv_iconst (v := nI 1) hx hb d_C_divide_28 (by decide) ?_
    refine lv_isub hx hb d_C_divide_29 ?_
    refine x_topi (v := nI kx - 1) (rfl) ?_
    refine lv_istore_n hx hb d_C_divide_30 rfl hl (by decide) rfl (fun ls hl => ?_)
    have hl : lv_has ls 6 [(3, .int (nI kx - 1)), (0, .ref o), (1, .ref x), (2, .ref y)] := hl
    have hl : lv_has ls 6 [(3, .int (nI kx - 1)), (0, .ref o), (1, .ref x), (2, .ref y)] := lv_sub hl [0, 1, 2, 3] rfl
    refine x_loopD 31 (fun i H locs ls => i ≤ kx ∧ ∃ (fq fr : Nat → Int64), lv_has ls 6 [(3, .int (nI i - 1)), (0, .ref o), (1, .ref x), (2, .ref y)] ∧ (∀ q ∈ locs, DA o q.base) ∧ XF (DA o) s.heap H ∧ hL H cJ (o + 22) 16 fq ∧ NL fq 16 (vx / 2 ^ i / vy * 2 ^ i) ∧ hL H cJ (o + 23) 8 fr ∧ NL fr 8 (vx / 2 ^ i % vy)) ?_ ?_ kx _ _ _ ?_
    · intro i H locs ls ⟨hi, fq, fr, hl, hlo, hF, hq, hNq, hrm, hNr⟩ ih
      have hO := hO0.fD hF
      have hb := hb
      have hbit : vx / 2 ^ i % 2 ≤ 1 := by omega
      have hT := dv_b vx i
      generalize hbb : vx / 2 ^ i % 2 = b0 at hbit hT
      have hRlt := Nat.mod_lt (vx / 2 ^ (i + 1)) hvp
      refine lv_iload_n hx hb d_C_divide_31 rfl (lv_at hl 0 rfl) ?_
      refine x_topi (v := nI i) (nI_pred i) ?_
      refine lv_if_lt (tgt := 103) hx hb d_C_divide_32 (by decide) (fun hc => absurd hc (nI_pos (by omega))) (fun _ => ?_)
      refine lv_aload_n hx hb d_C_divide_35 rfl (lv_at hl 1 rfl) ?_
      refine va_get (D := D) (ci := 0) (v := .ref (o + 23)) (C := "WideNumbers") (T := F_C) (N := 7) hx hb htw inC hown hK hO.1 0 rfl rfl 6 (by decide) (htw _ kw_26) (fun _ h9 => h9) rfl d_C_divide_36 ?_
      refine lv_aload_n hx hb d_C_divide_39 rfl (lv_at hl 2 rfl) ?_
      refine lv_iload_n hx hb d_C_divide_40 rfl (lv_at hl 0 rfl) ?_
      refine x_topi (v := nI i) (nI_pred i) ?_
      refine x_calll (A := DA o) (va_runS (As := [.ref x, .int (nI i)]) (rest := [.ref (o + 23)]) ⟨hx, hb, hml, hown, htw⟩ (c_bitAt l D cJ cI cQ cR x n i vx fx hn16 (by omega) hNx) (xcS 2 htw kw_170 kw_1 kw_168 kw_169 rfl rfl ⟨by decide, by decide, by decide +kernel⟩ ⟨Nat.le_of_ble_eq_true rfl, Nat.le_of_ble_eq_true rfl⟩) (xPre hK (hL_f hX0 hF hxn)) rfl rfl hl.1 rfl (lv_room (Nat.le_of_ble_eq_true rfl)) d_C_divide_41 ⟨Nat.le_of_ble_eq_true rfl, Nat.le_of_ble_eq_true rfl⟩) hlo (fun _ h => h.elim) (fun r5 H5 locs5 hB5 hlo => ?_)
      obtain ⟨rfl, rfl⟩ := hB5
      rw [hbb]
      refine x_calll (A := DA o) (va_runS (As := [.ref (o + 23), .long (lN b0)]) (rest := []) ⟨hx, hb, hml, hown, htw⟩ (c_dbl l D cJ cI cQ cR (o + 23) (vx / 2 ^ (i + 1) % vy) b0 fr (by omega) hbit hNr) (xcS 2 htw kw_173 kw_1 kw_171 kw_172 rfl rfl ⟨by decide, by decide, by decide +kernel⟩ ⟨Nat.le_of_ble_eq_true rfl, Nat.le_of_ble_eq_true rfl⟩) (xPre hK hrm) rfl rfl hl.1 rfl (lv_room (Nat.le_of_ble_eq_true rfl)) d_C_divide_44 ⟨Nat.le_of_ble_eq_true rfl, Nat.le_of_ble_eq_true rfl⟩) hlo (fun _ h => Or.inr h) (fun r6 H6 locs6 hB6 hlo => ?_)
      obtain ⟨hF6, c6, v6, f6, rfl, hf6, hN6, hv6, he6, hc6⟩ := hB6
      have hO6 := hO.f1 hF6 (by omega)
      have hq6 := hL_f hq hF6 (show o + 22 ≠ o + 23 by omega)
      have hFF6 := hF.tr (hF6.wk (B := DA o) (fun _ h => Or.inr h)) (fun _ h => h)
      refine lv_lstore hx hb d_C_divide_47 hl (by decide) rfl (fun ls hl => ?_)
      have hl : lv_has ls 6 [(4, .long (lN c6)), (3, .int (nI (i + 1) - 1)), (0, .ref o), (1, .ref x), (2, .ref y)] := hl
      refine x_cut 67 (fun H0 locs0 ls0 => H0 = H6 ∧ (∀ q ∈ locs0, DA o q.base) ∧ lv_has ls0 6 [(4, .long (lN c6)), (3, .int (nI (i + 1) - 1)), (0, .ref o), (1, .ref x), (2, .ref y)] ∧ vy ≤ v6 + 2 ^ 256 * c6) ?_ (fun J => ?_)
      · rintro H0 locs0 ls ⟨rfl, hlo, hl, hge⟩
        refine lv_aload_n hx hb d_C_divide_67 rfl (lv_at hl 2 rfl) ?_
        refine va_get (D := D) (ci := 0) (v := .ref (o + 23)) (C := "WideNumbers") (T := F_C) (N := 7) hx hb htw inC hown hK hO6.1 0 rfl rfl 6 (by decide) (htw _ kw_26) (fun _ h9 => h9) rfl d_C_divide_68 ?_
        refine lv_aload_n hx hb d_C_divide_71 rfl (lv_at hl 2 rfl) ?_
        refine va_get (D := D) (ci := 0) (v := .ref (o + 23)) (C := "WideNumbers") (T := F_C) (N := 7) hx hb htw inC hown hK hO6.1 0 rfl rfl 6 (by decide) (htw _ kw_26) (fun _ h9 => h9) rfl d_C_divide_72 ?_
        refine lv_aload_n hx hb d_C_divide_75 rfl (lv_at hl 4 rfl) ?_
        refine x_callv (A := DA o) (va_runS (As := [.ref (o + 23), .ref (o + 23), .ref y]) (rest := []) ⟨hx, hb, hml, hown, htw⟩ (c_subtract l D cJ cI cQ cR (o + 23) (o + 23) y v6 vy f6 f6 fy (fun e => hyn (Or.inr e)) hv6 hvy hN6 hNy) (xcS 3 htw kw_150 kw_1 kw_148 kw_149 rfl rfl ⟨by decide, by decide, by decide +kernel⟩ ⟨Nat.le_of_ble_eq_true rfl, Nat.le_of_ble_eq_true rfl⟩) (xPre hK ⟨hf6, hf6, hL_f hY0 hFF6 hyn⟩) rfl rfl hl.1 rfl (lv_room (Nat.le_of_ble_eq_true rfl)) d_C_divide_76 ⟨Nat.le_of_ble_eq_true rfl, Nat.le_of_ble_eq_true rfl⟩) hlo (fun _ h => Or.inr h) (fun H7 locs7 hB7 hlo => ?_)
        obtain ⟨hF7, v7, b7, f7, hf7, hN7, hv7, he7, hb7⟩ := hB7
        have hO7 := hO6.f1 hF7 (by omega)
        have hq7 := hL_f hq6 hF7 (show o + 22 ≠ o + 23 by omega)
        have hFF7 := hFF6.tr (hF7.wk (B := DA o) (fun _ h => Or.inr h)) (fun _ h => h)
        have hdv := dv_ge hbit (show vy ≤ 2 * (vx / 2 ^ (i + 1) % vy) + b0 by omega) hvp
        rw [← hT] at hdv
        have hv7e : v7 = vx / 2 ^ i % vy := by omega
        rw [q_tw] at hNq
        refine lv_aload_n hx hb d_C_divide_79 rfl (lv_at hl 2 rfl) ?_
        refine va_get (D := D) (ci := 0) (v := .ref (o + 22)) (C := "WideNumbers") (T := F_C) (N := 7) hx hb htw inC hown hK hO7.1 0 rfl rfl 5 (by decide) (htw _ kw_25) (fun _ h9 => h9) rfl d_C_divide_80 ?_
        refine lv_iload_n hx hb d_C_divide_83 rfl (lv_at hl 1 rfl) ?_
        refine x_topi (v := nI i) (nI_pred i) ?_
        refine lv_bipush (v := nI 32) hx hb d_C_divide_84 (by decide) ?_
        refine lv_idiv hx hb d_C_divide_86 (by decide) ?_
        refine x_topi (v := nI (i / 32)) (pk_div (by omega) (by decide) (by decide)) ?_
        refine lv_dup2_11 hx hb d_C_divide_87 rfl rfl ?_
        refine x_lald hx hb hJ hq7 (i / 32) (rfl) (by omega) (by omega) (v := lN (dg (2 * (vx / 2 ^ (i + 1) / vy) * 2 ^ i) (i / 32))) (hNq _ (by omega)) d_C_divide_88 ?_
        refine lv_lconst (v := lN 1) hx hb d_C_divide_89 (by decide) ?_
        refine lv_iload_n hx hb d_C_divide_90 rfl (lv_at hl 1 rfl) ?_
        refine x_topi (v := nI i) (nI_pred i) ?_
        refine lv_bipush (v := nI 32) hx hb d_C_divide_91 (by decide) ?_
        refine lv_irem hx hb d_C_divide_93 (by decide) ?_
        refine x_topi (v := nI (i % 32)) (pk_rem (by omega) (by decide) (by decide)) ?_
        refine lv_lshl (v := lN (2 ^ (i % 32))) hx hb d_C_divide_94 (by rw [jN_shl 1 (by omega), Nat.one_mul]) ?_
        refine lv_lor hx hb d_C_divide_95 ?_
        refine x_topl (v := lN (dg (2 * (vx / 2 ^ (i + 1) / vy) * 2 ^ i) (i / 32) ||| 2 ^ (i % 32))) (jN_or _ _) ?_
        refine x_last (A := DA o) hx hb hJ hq7 hlo (Or.inl rfl) (i / 32) (rfl) (by omega) (by omega) d_C_divide_96 (fun H8 locs8 h8 hF8 hlo => ?_)
        refine lv_iinc (v := nI i - 1) (k := 1) hx hb d_C_divide_97 hl rfl (i_dec i) (by decide) rfl (fun ls hl => ?_)
        have hl : lv_has ls 6 [(3, .int (nI i - 1)), (4, .long (lN c6)), (0, .ref o), (1, .ref x), (2, .ref y)] := hl
        refine lv_goto (tgt := 31) hx hb d_C_divide_100 (by decide) ?_
        have hl : lv_has ls 6 [(3, .int (nI i - 1)), (0, .ref o), (1, .ref x), (2, .ref y)] := lv_sub hl [0, 2, 3, 4] rfl
        refine ih _ _ ls ⟨by omega, _, f7, hl, hlo, hFF7.tr (hF8.wk (B := DA o) (fun _ h => Or.inl h)) (fun _ h => h), h8, fun j hj => ?_, hL_f hf7 hF8 (show o + 23 ≠ o + 22 by omega), by rw [← hv7e]; exact hN7⟩
        rw [hdv.1, q_bit]
        by_cases hj2 : j = i / 32
        · rw [if_pos hj2, hj2, pk_uLs]
        · rw [if_neg hj2, pk_uLn hj2]; exact hNq j hj
      · refine lv_lload hx hb d_C_divide_49 (lv_at hl 0 rfl) ?_
        refine lv_lconst (v := lN 0) hx hb d_C_divide_51 (by decide) ?_
        refine W.lcmp hx hb d_C_divide_52 ?_
        refine lv_if_ne (tgt := 67) hx hb d_C_divide_53 (by decide) (fun hc => ?_) (fun hc => ?_)
        · have hc1 : c6 ≠ 0 := fun h => hc ((cmp_eq _ _).mpr (by rw [h]))
          exact J _ _ ls ⟨rfl, hlo, hl, by omega⟩
        · have hc0 : c6 = 0 := (jN_eq (by omega) (by decide)).mp ((cmp_eq _ _).mp hc)
          refine lv_aload_n hx hb d_C_divide_56 rfl (lv_at hl 2 rfl) ?_
          refine va_get (D := D) (ci := 0) (v := .ref (o + 23)) (C := "WideNumbers") (T := F_C) (N := 7) hx hb htw inC hown hK hO6.1 0 rfl rfl 6 (by decide) (htw _ kw_26) (fun _ h9 => h9) rfl d_C_divide_57 ?_
          refine lv_aload_n hx hb d_C_divide_60 rfl (lv_at hl 4 rfl) ?_
          refine x_calli (A := DA o) (va_runS (As := [.ref (o + 23), .ref y]) (rest := []) ⟨hx, hb, hml, hown, htw⟩ (c_order l D cJ cI cQ cR (o + 23) y v6 vy f6 fy hv6 hvy hN6 hNy) (xcS 2 htw kw_176 kw_1 kw_174 kw_175 rfl rfl ⟨by decide, by decide, by decide +kernel⟩ ⟨Nat.le_of_ble_eq_true rfl, Nat.le_of_ble_eq_true rfl⟩) (xPre hK ⟨hf6, hL_f hY0 hFF6 hyn⟩) rfl rfl hl.1 rfl (lv_room (Nat.le_of_ble_eq_true rfl)) d_C_divide_61 ⟨Nat.le_of_ble_eq_true rfl, Nat.le_of_ble_eq_true rfl⟩) hlo (fun _ h => h.elim) (fun r9 H9 locs9 hB9 hlo9 => ?_)
          obtain ⟨rfl, rfl⟩ := hB9
          refine lv_if_lt (tgt := 97) hx hb d_C_divide_64 (by decide) (fun hc2 => ?_) (fun hc2 => ?_)
          · have hlt : v6 < vy := Nat.lt_of_not_le (fun h => by
              unfold ordv at hc2
              rw [if_neg (by omega)] at hc2
              split at hc2 <;> exact absurd hc2 (by decide))
            have hdv := dv_lt (T := vx / 2 ^ (i + 1)) (b := b0) (d := vy) (by omega)
            rw [← hT] at hdv
            rw [q_tw] at hNq
            refine lv_iinc (v := nI i - 1) (k := 1) hx hb d_C_divide_97 hl rfl (i_dec i) (by decide) rfl (fun ls hl => ?_)
            have hl : lv_has ls 6 [(3, .int (nI i - 1)), (4, .long (lN c6)), (0, .ref o), (1, .ref x), (2, .ref y)] := hl
            refine lv_goto (tgt := 31) hx hb d_C_divide_100 (by decide) ?_
            have hl : lv_has ls 6 [(3, .int (nI i - 1)), (0, .ref o), (1, .ref x), (2, .ref y)] := lv_sub hl [0, 2, 3, 4] rfl
            exact ih _ _ ls ⟨by omega, fq, f6, hl, hlo9, hFF6, hq6, by rw [hdv.1]; exact hNq, hf6, by rw [hdv.2, show 2 * (vx / 2 ^ (i + 1) % vy) + b0 = v6 by omega]; exact hN6⟩
          · have hge : vy ≤ v6 := Nat.le_of_not_lt (fun h => hc2 (by unfold ordv; rw [if_pos h]; decide))
            exact J _ _ ls ⟨rfl, hlo9, hl, by omega⟩
    · intro H locs ls ⟨hi, fq, fr, hl, hlo, hF, hq, hNq, hrm, hNr⟩
      refine lv_iload_n hx hb d_C_divide_31 rfl (lv_at hl 0 rfl) ?_
      refine lv_if_lt (tgt := 103) hx hb d_C_divide_32 (by decide) (fun _ => ?_) (fun hc => absurd (by decide) hc)
      rw [Nat.pow_zero, Nat.div_one, Nat.mul_one] at hNq
      rw [Nat.pow_zero, Nat.div_one] at hNr
      exact W.vret hx hb hr (fun t ht hW => ⟨rfl, by rw [ht]; exact hF, fq, fr, by rw [ht]; exact hq, hNq, by rw [ht]; exact hrm, by rw [if_neg (by omega)]; exact hNr⟩) hlo d_C_divide_103
    · exact ⟨Nat.le_refl _, f1, f2, hl, hlo, hFF, hq2, by rw [Nat.div_eq_of_lt hkx, Nat.zero_div, Nat.zero_mul]; exact hNz1, hf2, by rw [Nat.div_eq_of_lt hkx, Nat.zero_mod]; exact hNz2⟩
  · have hk0 : k = 0 := (nI_eq (by omega) (by decide)).mp (hc.trans nI_0.symm)
    have hv0 : vy = 0 := by subst hk0; simpa using hk
    exact W.vret hx hb hr (fun t ht hW => ⟨rfl, by rw [ht]; exact hFF, f1, f2, by rw [ht]; exact hq2, by rw [hv0, Nat.div_zero]; exact hNz1, by rw [ht]; exact hf2, by rw [if_pos hv0]; exact hNz2⟩) hlo d_C_divide_23
end
section
-- contracts: divideSizes, pickByte, extendSign, raise
set_option maxHeartbeats 4000000 in
set_option maxRecDepth 100000 in
theorem c_divideSizes (l : Launch) (D : va_G) (cJ cI cQ cR : ClassId) (o x y vx vy : Nat) (fx fy : Nat → Int64) (hxr : o + 2 ≤ x ∧ x < o + 18) (hyr : o + 2 ≤ y ∧ y < o + 18) (hvx : vx < 2 ^ 256) (hvy : vy < 2 ^ 256) (hNx : NL fx 8 vx) (hNy : NL fy 8 vy) : Met l y_C_divideSizes w_C_divideSizes { frames := 3, cells := 0, slots := 0, locals := 107 } (xP D vwCl (TY cJ cI cQ cR) [.ref o, .ref x, .ref y] (fun H => CB D cQ o H ∧ SC cJ o H ∧ hL H cJ x 8 fx ∧ hL H cJ y 8 fy)) (xQv (fun H0 H => XF (SA o) H0 H ∧ SC cJ o H ∧ ∃ (f g : Nat → Int64), hL H cJ (o + 22) 16 f ∧ NL f 16 (ab vx / ab vy) ∧ hL H cJ (o + 23) 8 g ∧ NL g 8 (if ab vy = 0 then 0 else ab vx % ab vy))) 0 0 (CA o) := by
  refine Met.ofW (cc := b_C_divideSizes) (maxL := 3) (ret := none) (by decide) rfl ?_
  intro p e s m args below meth c s₁ B hml hv
  obtain ⟨rfl, hK, ⟨hO, hSC, h_X, h_Y⟩⟩ := hv
  have hx := B.exec
  have hb := B.bytes
  have hr := B.returns
  have hts := atoms_spec (ws := w_C_divideSizes) B.pre
  have htw : ∀ w ∈ WT, w.before _ s = true := fun w h => hts w (List.mem_cons_of_mem _ h)
  have hown : s.vm.findClass "WideNumbers" = some m.cls := findClass_of_methodNamed B.named
  have hlocks := B.notSynchronized
  have hJ : ArrOfT s cJ .long := (hK.2 0 _ rfl).1
  have hI9 : ArrOfT s cI .int := (hK.2 1 _ rfl).1
  have hl := lv_entry ([.ref o, .ref x, .ref y]) (n := 3) (Nat.le_of_ble_eq_true rfl)
  rw [lg_entry_eq]
  generalize (lg_sl ([.ref o, .ref x, .ref y]) ++ List.replicate (3 - (lg_sl ([.ref o, .ref x, .ref y])).length) Slot.unset).toArray = ls at hl ⊢
  have hl : lv_has ls 3 [(0, .ref o), (1, .ref x), (2, .ref y)] := hl
  obtain ⟨⟨f18, h_18⟩, ⟨f19, h_19⟩, ⟨f20, h_20⟩, ⟨f21, h_21⟩, ⟨f22, h_22⟩, ⟨f23, h_23⟩⟩ := hSC
  have hG : XF (SA o) s.heap s.heap := XF.rf
  have hlo : ∀ q ∈ ([] : List Loc), CA o q.base := fun _ h => nomatch h
  have hab : ∀ v : Nat, v < 2 ^ 256 → (if (if 2 ^ 255 ≤ v then (1 : Int32) else 0) = 0 then v else (2 ^ 256 - v) % 2 ^ 256) = ab v := by
    intro v hv
    unfold ab
    by_cases h : 2 ^ 255 ≤ v
    · rw [if_pos h, if_pos h, if_neg (by decide), Nat.mod_eq_of_lt (by omega)]
    · rw [if_neg h, if_neg h, if_pos rfl]
  refine lv_aload_n hx hb d_C_divideSizes_0 rfl (lv_at hl 0 rfl) ?_
  refine va_get (D := D) (ci := 0) (v := .ref (o + 19)) (C := "WideNumbers") (T := F_C) (N := 7) hx hb htw inC hown hK hO.1 0 rfl rfl 2 (by decide) (htw _ kw_22) (fun _ h9 => h9) rfl d_C_divideSizes_1 ?_
  refine lv_aload_n hx hb d_C_divideSizes_4 rfl (lv_at hl 1 rfl) ?_
  refine lv_aload_n hx hb d_C_divideSizes_5 rfl (lv_at hl 1 rfl) ?_
  refine x_calli (A := CA o) (va_runS (As := [.ref x]) (rest := [.ref x, .ref (o + 19)]) ⟨hx, hb, hml, hown, htw⟩ (c_isNegative l D cJ cI cQ cR x vx fx hvx hNx) (xcS 1 htw kw_189 kw_1 kw_187 kw_188 rfl rfl ⟨by decide, by decide, by decide +kernel⟩ ⟨Nat.le_of_ble_eq_true rfl, Nat.le_of_ble_eq_true rfl⟩) (xPre hK h_X) rfl rfl hl.1 rfl (lv_room (Nat.le_of_ble_eq_true rfl)) d_C_divideSizes_6 ⟨Nat.le_of_ble_eq_true rfl, Nat.le_of_ble_eq_true rfl⟩) hlo (fun _ h => h.elim) (fun r0 H1 locs1 hB1 hlo => ?_)
  obtain ⟨rfl, rfl⟩ := hB1
  refine x_callv (A := CA o) (va_runS (As := [.ref (o + 19), .ref x, .int (if 2 ^ 255 ≤ vx then 1 else 0)]) (rest := []) ⟨hx, hb, hml, hown, htw⟩ (c_copyWithSign l D cJ cI cQ cR (o + 19) x 8 vx (if 2 ^ 255 ≤ vx then 1 else 0) f19 fx (by decide) (by omega) hvx hNx) (xcS 3 htw kw_192 kw_1 kw_190 kw_191 rfl rfl ⟨by decide, by decide, by decide +kernel⟩ ⟨Nat.le_of_ble_eq_true rfl, Nat.le_of_ble_eq_true rfl⟩) (xPre hK ⟨h_19, h_X⟩) rfl rfl hl.1 rfl (lv_room (Nat.le_of_ble_eq_true rfl)) d_C_divideSizes_9 ⟨Nat.le_of_ble_eq_true rfl, Nat.le_of_ble_eq_true rfl⟩) hlo (fun q h => by rcases h with h | h <;> (rw [h]; exact ⟨by omega, by omega⟩)) (fun G0 locg0 hC0 hlo => ?_)
  obtain ⟨hF0, g0, hg0, hNg0⟩ := hC0
  rw [hab vx hvx] at hNg0
  have h_18 := hL_f h_18 hF0 (show o + 18 ≠ o + 19 by omega)
  have h_19 := hg0
  have h_20 := hL_f h_20 hF0 (show o + 20 ≠ o + 19 by omega)
  have h_21 := hL_f h_21 hF0 (show o + 21 ≠ o + 19 by omega)
  have h_22 := hL_f h_22 hF0 (show o + 22 ≠ o + 19 by omega)
  have h_23 := hL_f h_23 hF0 (show o + 23 ≠ o + 19 by omega)
  have h_X := hL_f h_X hF0 (show x ≠ o + 19 by omega)
  have h_Y := hL_f h_Y hF0 (show y ≠ o + 19 by omega)
  have hO := hO.f1 hF0 (by omega)
  have hG := SA1 hG hF0 (by omega)
  refine lv_aload_n hx hb d_C_divideSizes_12 rfl (lv_at hl 0 rfl) ?_
  refine va_get (D := D) (ci := 0) (v := .ref (o + 20)) (C := "WideNumbers") (T := F_C) (N := 7) hx hb htw inC hown hK hO.1 0 rfl rfl 3 (by decide) (htw _ kw_23) (fun _ h9 => h9) rfl d_C_divideSizes_13 ?_
  refine lv_aload_n hx hb d_C_divideSizes_16 rfl (lv_at hl 2 rfl) ?_
  refine lv_aload_n hx hb d_C_divideSizes_17 rfl (lv_at hl 2 rfl) ?_
  refine x_calli (A := CA o) (va_runS (As := [.ref y]) (rest := [.ref y, .ref (o + 20)]) ⟨hx, hb, hml, hown, htw⟩ (c_isNegative l D cJ cI cQ cR y vy fy hvy hNy) (xcS 1 htw kw_189 kw_1 kw_187 kw_188 rfl rfl ⟨by decide, by decide, by decide +kernel⟩ ⟨Nat.le_of_ble_eq_true rfl, Nat.le_of_ble_eq_true rfl⟩) (xPre hK h_Y) rfl rfl hl.1 rfl (lv_room (Nat.le_of_ble_eq_true rfl)) d_C_divideSizes_18 ⟨Nat.le_of_ble_eq_true rfl, Nat.le_of_ble_eq_true rfl⟩) hlo (fun _ h => h.elim) (fun r1 H2 locs2 hB2 hlo => ?_)
  obtain ⟨rfl, rfl⟩ := hB2
  refine x_callv (A := CA o) (va_runS (As := [.ref (o + 20), .ref y, .int (if 2 ^ 255 ≤ vy then 1 else 0)]) (rest := []) ⟨hx, hb, hml, hown, htw⟩ (c_copyWithSign l D cJ cI cQ cR (o + 20) y 8 vy (if 2 ^ 255 ≤ vy then 1 else 0) f20 fy (by decide) (by omega) hvy hNy) (xcS 3 htw kw_192 kw_1 kw_190 kw_191 rfl rfl ⟨by decide, by decide, by decide +kernel⟩ ⟨Nat.le_of_ble_eq_true rfl, Nat.le_of_ble_eq_true rfl⟩) (xPre hK ⟨h_20, h_Y⟩) rfl rfl hl.1 rfl (lv_room (Nat.le_of_ble_eq_true rfl)) d_C_divideSizes_21 ⟨Nat.le_of_ble_eq_true rfl, Nat.le_of_ble_eq_true rfl⟩) hlo (fun q h => by rcases h with h | h <;> (rw [h]; exact ⟨by omega, by omega⟩)) (fun G1 locg1 hC1 hlo => ?_)
  obtain ⟨hF1, g1, hg1, hNg1⟩ := hC1
  rw [hab vy hvy] at hNg1
  have h_18 := hL_f h_18 hF1 (show o + 18 ≠ o + 20 by omega)
  have h_19 := hL_f h_19 hF1 (show o + 19 ≠ o + 20 by omega)
  have h_20 := hg1
  have h_21 := hL_f h_21 hF1 (show o + 21 ≠ o + 20 by omega)
  have h_22 := hL_f h_22 hF1 (show o + 22 ≠ o + 20 by omega)
  have h_23 := hL_f h_23 hF1 (show o + 23 ≠ o + 20 by omega)
  have h_X := hL_f h_X hF1 (show x ≠ o + 20 by omega)
  have h_Y := hL_f h_Y hF1 (show y ≠ o + 20 by omega)
  have hO := hO.f1 hF1 (by omega)
  have hG := SA1 hG hF1 (by omega)
  refine lv_aload_n hx hb d_C_divideSizes_24 rfl (lv_at hl 0 rfl) ?_
  refine lv_aload_n hx hb d_C_divideSizes_25 rfl (lv_at hl 0 rfl) ?_
  refine va_get (D := D) (ci := 0) (v := .ref (o + 19)) (C := "WideNumbers") (T := F_C) (N := 7) hx hb htw inC hown hK hO.1 0 rfl rfl 2 (by decide) (htw _ kw_22) (fun _ h9 => h9) rfl d_C_divideSizes_26 ?_
  refine lv_aload_n hx hb d_C_divideSizes_29 rfl (lv_at hl 0 rfl) ?_
  refine va_get (D := D) (ci := 0) (v := .ref (o + 20)) (C := "WideNumbers") (T := F_C) (N := 7) hx hb htw inC hown hK hO.1 0 rfl rfl 3 (by decide) (htw _ kw_23) (fun _ h9 => h9) rfl d_C_divideSizes_30 ?_
  refine x_callv (A := CA o) (va_runV (As := [.ref (o + 19), .ref (o + 20)]) (rest := []) ⟨hx, hb, hml, hown, htw⟩ (c_divide l D cJ cI cQ cR o (o + 19) (o + 20) 8 (ab vx) (ab vy) f22 f23 g0 g1 (Or.inl rfl) (nDA (by omega)) (nDA (by omega)) (ab_lt hvx) (ab_lt hvy) hNg0 hNg1) (xcV 2 htw kw_160 kw_1 kw_157 kw_159 ks_C_divide rfl rfl ⟨by decide, by decide, by decide +kernel⟩ ⟨Nat.le_of_ble_eq_true rfl, Nat.le_of_ble_eq_true rfl⟩) (xPreV hK (hO.rv hK) ⟨hO, h_22, h_23, h_19, h_20⟩) rfl rfl hl.1 rfl (lv_room (Nat.le_of_ble_eq_true rfl)) d_C_divideSizes_33 ⟨Nat.le_of_ble_eq_true rfl, Nat.le_of_ble_eq_true rfl⟩) hlo (fun q h => by rcases h with h | h <;> (rw [h]; exact ⟨by omega, by omega⟩)) (fun H9 locs9 hB9 hlo => ?_)
  obtain ⟨hF9, f9, g9, hf9, hNf9, hg9, hNg9⟩ := hB9
  have h_18 := hL_f h_18 hF9 (nDA (by omega))
  have h_19 := hL_f h_19 hF9 (nDA (by omega))
  have h_20 := hL_f h_20 hF9 (nDA (by omega))
  have h_21 := hL_f h_21 hF9 (nDA (by omega))
  have h_22 := hf9
  have h_23 := hg9
  have h_X := hL_f h_X hF9 (nDA (by omega))
  have h_Y := hL_f h_Y hF9 (nDA (by omega))
  have hO := hO.fD hF9
  have hG := SAD hG hF9
  exact W.vret hx hb hr (fun t ht hW => ⟨rfl, by rw [ht]; exact hG, by rw [ht]; exact ⟨⟨_, h_18⟩, ⟨_, h_19⟩, ⟨_, h_20⟩, ⟨_, h_21⟩, ⟨_, h_22⟩, ⟨_, h_23⟩⟩, f9, g9, by rw [ht]; exact h_22, hNf9, by rw [ht]; exact h_23, hNg9⟩) hlo d_C_divideSizes_36
set_option maxHeartbeats 4000000 in
set_option maxRecDepth 100000 in
theorem c_pickByte (l : Launch) (D : va_G) (cJ cI cQ cR : ClassId) (o x y vx vy : Nat) (fx fy : Nat → Int64) (hxr : o + 2 ≤ x ∧ x < o + 18) (hyr : o + 2 ≤ y ∧ y < o + 18) (hvx : vx < 2 ^ 256) (hvy : vy < 2 ^ 256) (hNx : NL fx 8 vx) (hNy : NL fy 8 vy) : Met l y_C_pickByte w_C_pickByte { frames := 3, cells := 0, slots := 0, locals := 63 } (xP D vwCl (TY cJ cI cQ cR) [.ref o, .ref x, .ref y] (fun H => CB D cQ o H ∧ SC cJ o H ∧ hL H cJ x 8 fx ∧ hL H cJ y 8 fy)) (xQv (fun H0 H => XF (SA o) H0 H ∧ SC cJ o H ∧ ∃ (f : Nat → Int64), hL H cJ (o + 18) 8 f ∧ NL f 8 (if vx < 32 then vy / 2 ^ (8 * (31 - vx)) % 256 else 0))) 0 0 (CA o) := by
  refine Met.ofW (cc := b_C_pickByte) (maxL := 5) (ret := none) (by decide) rfl ?_
  intro p e s m args below meth c s₁ B hml hv
  obtain ⟨rfl, hK, ⟨hO, hSC, h_X, h_Y⟩⟩ := hv
  have hx := B.exec
  have hb := B.bytes
  have hr := B.returns
  have hts := atoms_spec (ws := w_C_pickByte) B.pre
  have htw : ∀ w ∈ WT, w.before _ s = true := fun w h => hts w (List.mem_cons_of_mem _ h)
  have hown : s.vm.findClass "WideNumbers" = some m.cls := findClass_of_methodNamed B.named
  have hlocks := B.notSynchronized
  have hJ : ArrOfT s cJ .long := (hK.2 0 _ rfl).1
  have hI9 : ArrOfT s cI .int := (hK.2 1 _ rfl).1
  have hl := lv_entry ([.ref o, .ref x, .ref y]) (n := 5) (Nat.le_of_ble_eq_true rfl)
  rw [lg_entry_eq]
  generalize (lg_sl ([.ref o, .ref x, .ref y]) ++ List.replicate (5 - (lg_sl ([.ref o, .ref x, .ref y])).length) Slot.unset).toArray = ls at hl ⊢
  have hl : lv_has ls 5 [(0, .ref o), (1, .ref x), (2, .ref y)] := hl
  obtain ⟨⟨f18, h_18⟩, ⟨f19, h_19⟩, ⟨f20, h_20⟩, ⟨f21, h_21⟩, ⟨f22, h_22⟩, ⟨f23, h_23⟩⟩ := hSC
  have hG : XF (SA o) s.heap s.heap := XF.rf
  have hlo : ∀ q ∈ ([] : List Loc), CA o q.base := fun _ h => nomatch h
  refine lv_aload_n hx hb d_C_pickByte_0 rfl (lv_at hl 0 rfl) ?_
  refine va_get (D := D) (ci := 0) (v := .ref (o + 18)) (C := "WideNumbers") (T := F_C) (N := 7) hx hb htw inC hown hK hO.1 0 rfl rfl 1 (by decide) (htw _ kw_21) (fun _ h9 => h9) rfl d_C_pickByte_1 ?_
  refine lv_lconst (v := lN 0) hx hb d_C_pickByte_4 (by decide) ?_
  refine x_callv (A := CA o) (va_runS (As := [.ref (o + 18), .long (lN 0)]) (rest := []) ⟨hx, hb, hml, hown, htw⟩ (c_fill l D cJ cI cQ cR (o + 18) 8 (lN 0) f18 (by decide)) (xcS 2 htw kw_156 kw_7 kw_154 kw_155 rfl rfl ⟨by decide, by decide, by decide +kernel⟩ ⟨Nat.le_of_ble_eq_true rfl, Nat.le_of_ble_eq_true rfl⟩) (xPre hK h_18) rfl rfl hl.1 rfl (lv_room (Nat.le_of_ble_eq_true rfl)) d_C_pickByte_5 ⟨Nat.le_of_ble_eq_true rfl, Nat.le_of_ble_eq_true rfl⟩) hlo (fun q h => by have h : q = o + 18 := h; rw [h]; exact ⟨by omega, by omega⟩) (fun H1 locs1 hB1 hlo => ?_)
  obtain ⟨hF1, f1, hf1, hN1⟩ := hB1
  have h_18 := hf1
  have h_19 := hL_f h_19 hF1 (show o + 19 ≠ o + 18 by omega)
  have h_20 := hL_f h_20 hF1 (show o + 20 ≠ o + 18 by omega)
  have h_21 := hL_f h_21 hF1 (show o + 21 ≠ o + 18 by omega)
  have h_22 := hL_f h_22 hF1 (show o + 22 ≠ o + 18 by omega)
  have h_23 := hL_f h_23 hF1 (show o + 23 ≠ o + 18 by omega)
  have h_X := hL_f h_X hF1 (show x ≠ o + 18 by omega)
  have h_Y := hL_f h_Y hF1 (show y ≠ o + 18 by omega)
  have hO := hO.f1 hF1 (by omega)
  have hG := SA1 hG hF1 (by omega)
  refine lv_aload_n hx hb d_C_pickByte_8 rfl (lv_at hl 1 rfl) ?_
  refine lv_bipush (v := nI 32) hx hb d_C_pickByte_9 (by decide) ?_
  refine x_calli (A := CA o) (va_runS (As := [.ref x, .int (nI 32)]) (rest := []) ⟨hx, hb, hml, hown, htw⟩ (c_valueUpTo l D cJ cI cQ cR x vx 32 fx hvx (by decide) hNx) (xcS 2 htw kw_210 kw_1 kw_208 kw_209 rfl rfl ⟨by decide, by decide, by decide +kernel⟩ ⟨Nat.le_of_ble_eq_true rfl, Nat.le_of_ble_eq_true rfl⟩) (xPre hK h_X) rfl rfl hl.1 rfl (lv_room (Nat.le_of_ble_eq_true rfl)) d_C_pickByte_11 ⟨Nat.le_of_ble_eq_true rfl, Nat.le_of_ble_eq_true rfl⟩) hlo (fun _ h => h.elim) (fun r2 H2 locs2 hB2 hlo => ?_)
  obtain ⟨rfl, rfl⟩ := hB2
  refine lv_istore_n hx hb d_C_pickByte_14 rfl hl (by decide) rfl (fun ls hl => ?_)
  have hl : lv_has ls 5 [(3, .int (nI (min vx 32))), (0, .ref o), (1, .ref x), (2, .ref y)] := hl
  refine lv_iload_n hx hb d_C_pickByte_15 rfl (lv_at hl 0 rfl) ?_
  refine lv_bipush (v := nI 32) hx hb d_C_pickByte_16 (by decide) ?_
  refine lv_icmp_ge (tgt := 53) hx hb d_C_pickByte_18 (by decide) (fun hc => ?_) (fun hc => ?_)
  · have h32 : ¬ vx < 32 := fun h => absurd hc (nI_ge (by omega) (by omega))
    exact W.vret hx hb hr (fun t ht hW => ⟨rfl, by rw [ht]; exact hG, by rw [ht]; exact ⟨⟨_, h_18⟩, ⟨_, h_19⟩, ⟨_, h_20⟩, ⟨_, h_21⟩, ⟨_, h_22⟩, ⟨_, h_23⟩⟩, _, by rw [ht]; exact h_18, by rw [if_neg h32]; exact fun j hj => by rw [hN1 j hj, dg_0]⟩) hlo d_C_pickByte_53
  · have h32 : vx < 32 := Nat.lt_of_not_le (fun h => hc (nI_le (by omega) (by omega)))
    rw [show min vx 32 = vx by omega] at hl
    have hl : lv_has ls 5 [(3, .int (nI (vx))), (0, .ref o), (1, .ref x), (2, .ref y)] := hl
    refine lv_bipush (v := nI 8) hx hb d_C_pickByte_21 (by decide) ?_
    refine lv_bipush (v := nI 31) hx hb d_C_pickByte_23 (by decide) ?_
    refine lv_iload_n hx hb d_C_pickByte_25 rfl (lv_at hl 0 rfl) ?_
    refine lv_isub hx hb d_C_pickByte_26 ?_
    refine x_topi (v := nI (31 - vx)) (pk_sub (by omega)) ?_
    refine lv_imul hx hb d_C_pickByte_27 ?_
    refine x_topi (v := nI (8 * (31 - vx))) (pk_mul _ _) ?_
    refine lv_istore hx hb d_C_pickByte_28 hl (by decide) rfl (fun ls hl => ?_)
    have hl : lv_has ls 5 [(4, .int (nI (8 * (31 - vx)))), (3, .int (nI (vx))), (0, .ref o), (1, .ref x), (2, .ref y)] := hl
    refine lv_aload_n hx hb d_C_pickByte_30 rfl (lv_at hl 2 rfl) ?_
    refine va_get (D := D) (ci := 0) (v := .ref (o + 18)) (C := "WideNumbers") (T := F_C) (N := 7) hx hb htw inC hown hK hO.1 0 rfl rfl 1 (by decide) (htw _ kw_21) (fun _ h9 => h9) rfl d_C_pickByte_31 ?_
    refine lv_iconst (v := nI 0) hx hb d_C_pickByte_34 (by decide) ?_
    refine lv_aload_n hx hb d_C_pickByte_35 rfl (lv_at hl 4 rfl) ?_
    refine lv_iload hx hb d_C_pickByte_36 (lv_at hl 0 rfl) ?_
    refine lv_bipush (v := nI 32) hx hb d_C_pickByte_38 (by decide) ?_
    refine lv_idiv hx hb d_C_pickByte_40 (by decide) ?_
    refine x_topi (v := nI (8 * (31 - vx) / 32)) (pk_div (by omega) (by decide) (by decide)) ?_
    refine x_lald hx hb hJ h_Y (8 * (31 - vx) / 32) (rfl) (by omega) (by omega) (v := lN (dg vy (8 * (31 - vx) / 32))) (hNy _ (by omega)) d_C_pickByte_41 ?_
    refine lv_iload hx hb d_C_pickByte_42 (lv_at hl 0 rfl) ?_
    refine lv_bipush (v := nI 32) hx hb d_C_pickByte_44 (by decide) ?_
    refine lv_irem hx hb d_C_pickByte_46 (by decide) ?_
    refine x_topi (v := nI (8 * (31 - vx) % 32)) (pk_rem (by omega) (by decide) (by decide)) ?_
    have hd := dg_lt vy (8 * (31 - vx) / 32)
    refine lv_lushr (v := lN (dg vy (8 * (31 - vx) / 32) / 2 ^ (8 * (31 - vx) % 32))) hx hb d_C_pickByte_47 (jN_shr (by omega) (by omega)) ?_
    refine lv_ldc2 (v := (255 : Int64)) hx hb hown (htw _ kw_227) d_C_pickByte_48 ?_
    refine lv_land hx hb d_C_pickByte_51 ?_
    refine x_topl (v := lN (vy / 2 ^ (8 * (31 - vx)) % 256)) (by rw [jN_a255, by_8]) ?_
    refine x_last (A := CA o) hx hb hJ h_18 hlo (⟨by omega, by omega⟩) (0) (rfl) (by omega) (by omega) d_C_pickByte_52 (fun H3 locs3 h3 hF3 hlo => ?_)
    have h_18 := h3
    have h_19 := hL_f h_19 hF3 (show o + 19 ≠ o + 18 by omega)
    have h_20 := hL_f h_20 hF3 (show o + 20 ≠ o + 18 by omega)
    have h_21 := hL_f h_21 hF3 (show o + 21 ≠ o + 18 by omega)
    have h_22 := hL_f h_22 hF3 (show o + 22 ≠ o + 18 by omega)
    have h_23 := hL_f h_23 hF3 (show o + 23 ≠ o + 18 by omega)
    have h_X := hL_f h_X hF3 (show x ≠ o + 18 by omega)
    have h_Y := hL_f h_Y hF3 (show y ≠ o + 18 by omega)
    have hO := hO.f1 hF3 (by omega)
    have hG := SA1 hG hF3 (by omega)
    exact W.vret hx hb hr (fun t ht hW => ⟨rfl, by rw [ht]; exact hG, by rw [ht]; exact ⟨⟨_, h_18⟩, ⟨_, h_19⟩, ⟨_, h_20⟩, ⟨_, h_21⟩, ⟨_, h_22⟩, ⟨_, h_23⟩⟩, _, by rw [ht]; exact h_18, by rw [if_pos h32]; exact NL_s (by omega) hN1⟩) hlo d_C_pickByte_53
set_option maxHeartbeats 4000000 in
set_option maxRecDepth 100000 in
theorem c_extendSign (l : Launch) (D : va_G) (cJ cI cQ cR : ClassId) (o x y vx vy : Nat) (fx fy : Nat → Int64) (hxr : o + 2 ≤ x ∧ x < o + 18) (hyr : o + 2 ≤ y ∧ y < o + 18) (hvx : vx < 2 ^ 256) (hvy : vy < 2 ^ 256) (hNx : NL fx 8 vx) (hNy : NL fy 8 vy) : Met l y_C_extendSign w_C_extendSign { frames := 3, cells := 0, slots := 0, locals := 63 } (xP D vwCl (TY cJ cI cQ cR) [.ref o, .ref x, .ref y] (fun H => CB D cQ o H ∧ SC cJ o H ∧ hL H cJ x 8 fx ∧ hL H cJ y 8 fy)) (xQv (fun H0 H => XF (SA o) H0 H ∧ SC cJ o H ∧ ∃ (f : Nat → Int64), hL H cJ (o + 18) 8 f ∧ NL f 8 (opv 8 vx vy))) 0 0 (CA o) := by
  refine Met.ofW (cc := b_C_extendSign) (maxL := 5) (ret := none) (by decide) rfl ?_
  intro p e s m args below meth c s₁ B hml hv
  obtain ⟨rfl, hK, ⟨hO, hSC, h_X, h_Y⟩⟩ := hv
  have hx := B.exec
  have hb := B.bytes
  have hr := B.returns
  have hts := atoms_spec (ws := w_C_extendSign) B.pre
  have htw : ∀ w ∈ WT, w.before _ s = true := fun w h => hts w (List.mem_cons_of_mem _ h)
  have hown : s.vm.findClass "WideNumbers" = some m.cls := findClass_of_methodNamed B.named
  have hlocks := B.notSynchronized
  have hJ : ArrOfT s cJ .long := (hK.2 0 _ rfl).1
  have hI9 : ArrOfT s cI .int := (hK.2 1 _ rfl).1
  have hl := lv_entry ([.ref o, .ref x, .ref y]) (n := 5) (Nat.le_of_ble_eq_true rfl)
  rw [lg_entry_eq]
  generalize (lg_sl ([.ref o, .ref x, .ref y]) ++ List.replicate (5 - (lg_sl ([.ref o, .ref x, .ref y])).length) Slot.unset).toArray = ls at hl ⊢
  have hl : lv_has ls 5 [(0, .ref o), (1, .ref x), (2, .ref y)] := hl
  obtain ⟨⟨f18, h_18⟩, ⟨f19, h_19⟩, ⟨f20, h_20⟩, ⟨f21, h_21⟩, ⟨f22, h_22⟩, ⟨f23, h_23⟩⟩ := hSC
  have hG : XF (SA o) s.heap s.heap := XF.rf
  have hlo : ∀ q ∈ ([] : List Loc), CA o q.base := fun _ h => nomatch h
  refine lv_bipush (v := nI 31) hx hb d_C_extendSign_0 (by decide) ?_
  refine lv_istore_n hx hb d_C_extendSign_2 rfl hl (by decide) rfl (fun ls hl => ?_)
  have hl : lv_has ls 5 [(3, .int (nI 31)), (0, .ref o), (1, .ref x), (2, .ref y)] := hl
  refine lv_bipush (v := nI 8) hx hb d_C_extendSign_3 (by decide) ?_
  refine lv_iload_n hx hb d_C_extendSign_5 rfl (lv_at hl 0 rfl) ?_
  refine lv_aload_n hx hb d_C_extendSign_6 rfl (lv_at hl 2 rfl) ?_
  refine lv_iload_n hx hb d_C_extendSign_7 rfl (lv_at hl 0 rfl) ?_
  refine x_calli (A := CA o) (va_runS (As := [.ref x, .int (nI 31)]) (rest := [.int (nI 31), .int (nI 8)]) ⟨hx, hb, hml, hown, htw⟩ (c_valueUpTo l D cJ cI cQ cR x vx 31 fx hvx (by decide) hNx) (xcS 2 htw kw_210 kw_1 kw_208 kw_209 rfl rfl ⟨by decide, by decide, by decide +kernel⟩ ⟨Nat.le_of_ble_eq_true rfl, Nat.le_of_ble_eq_true rfl⟩) (xPre hK h_X) rfl rfl hl.1 rfl (lv_room (Nat.le_of_ble_eq_true rfl)) d_C_extendSign_8 ⟨Nat.le_of_ble_eq_true rfl, Nat.le_of_ble_eq_true rfl⟩) hlo (fun _ h => h.elim) (fun r2 H2 locs2 hB2 hlo => ?_)
  obtain ⟨rfl, rfl⟩ := hB2
  refine lv_isub hx hb d_C_extendSign_11 ?_
  refine x_topi (v := nI (31 - min vx 31)) (pk_sub (by omega)) ?_
  refine lv_imul hx hb d_C_extendSign_12 ?_
  refine x_topi (v := nI (8 * (31 - min vx 31))) (pk_mul _ _) ?_
  obtain ⟨k, hk⟩ : ∃ k, k = 8 * (31 - min vx 31) := ⟨_, rfl⟩
  rw [← hk]
  have hk256 : k ≤ 256 := by omega
  refine lv_istore hx hb d_C_extendSign_13 hl (by decide) rfl (fun ls hl => ?_)
  have hl : lv_has ls 5 [(4, .int (nI k)), (3, .int (nI 31)), (0, .ref o), (1, .ref x), (2, .ref y)] := hl
  refine lv_aload_n hx hb d_C_extendSign_15 rfl (lv_at hl 2 rfl) ?_
  refine va_get (D := D) (ci := 0) (v := .ref (o + 19)) (C := "WideNumbers") (T := F_C) (N := 7) hx hb htw inC hown hK hO.1 0 rfl rfl 2 (by decide) (htw _ kw_22) (fun _ h9 => h9) rfl d_C_extendSign_16 ?_
  refine lv_aload_n hx hb d_C_extendSign_19 rfl (lv_at hl 4 rfl) ?_
  refine lv_iload hx hb d_C_extendSign_20 (lv_at hl 0 rfl) ?_
  refine x_callv (A := CA o) (va_runS (As := [.ref (o + 19), .ref y, .int (nI k)]) (rest := []) ⟨hx, hb, hml, hown, htw⟩ (c_moveLeft l D cJ cI cQ cR (o + 19) y vy k f19 fy hk256 (by omega) hNy) (xcS 3 htw kw_213 kw_1 kw_211 kw_212 rfl rfl ⟨by decide, by decide, by decide +kernel⟩ ⟨Nat.le_of_ble_eq_true rfl, Nat.le_of_ble_eq_true rfl⟩) (xPre hK ⟨h_19, h_Y⟩) rfl rfl hl.1 rfl (lv_room (Nat.le_of_ble_eq_true rfl)) d_C_extendSign_22 ⟨Nat.le_of_ble_eq_true rfl, Nat.le_of_ble_eq_true rfl⟩) hlo (fun q h => by have h : q = o + 19 := h; rw [h]; exact ⟨by omega, by omega⟩) (fun H3 locs3 hB3 hlo => ?_)
  obtain ⟨hF3, f3, hf3, hN3⟩ := hB3
  have hN3 := NL_m hN3
  have hu : vy * 2 ^ k % 2 ^ 256 < 2 ^ 256 := Nat.mod_lt _ (pw_pos 256)
  have h_18 := hL_f h_18 hF3 (show o + 18 ≠ o + 19 by omega)
  have h_19 := hf3
  have h_20 := hL_f h_20 hF3 (show o + 20 ≠ o + 19 by omega)
  have h_21 := hL_f h_21 hF3 (show o + 21 ≠ o + 19 by omega)
  have h_22 := hL_f h_22 hF3 (show o + 22 ≠ o + 19 by omega)
  have h_23 := hL_f h_23 hF3 (show o + 23 ≠ o + 19 by omega)
  have h_X := hL_f h_X hF3 (show x ≠ o + 19 by omega)
  have h_Y := hL_f h_Y hF3 (show y ≠ o + 19 by omega)
  have hO := hO.f1 hF3 (by omega)
  have hG := SA1 hG hF3 (by omega)
  refine lv_aload_n hx hb d_C_extendSign_25 rfl (lv_at hl 2 rfl) ?_
  refine va_get (D := D) (ci := 0) (v := .ref (o + 18)) (C := "WideNumbers") (T := F_C) (N := 7) hx hb htw inC hown hK hO.1 0 rfl rfl 1 (by decide) (htw _ kw_21) (fun _ h9 => h9) rfl d_C_extendSign_26 ?_
  refine lv_aload_n hx hb d_C_extendSign_29 rfl (lv_at hl 2 rfl) ?_
  refine va_get (D := D) (ci := 0) (v := .ref (o + 19)) (C := "WideNumbers") (T := F_C) (N := 7) hx hb htw inC hown hK hO.1 0 rfl rfl 2 (by decide) (htw _ kw_22) (fun _ h9 => h9) rfl d_C_extendSign_30 ?_
  refine lv_iload hx hb d_C_extendSign_33 (lv_at hl 0 rfl) ?_
  refine lv_aload_n hx hb d_C_extendSign_35 rfl (lv_at hl 2 rfl) ?_
  refine va_get (D := D) (ci := 0) (v := .ref (o + 19)) (C := "WideNumbers") (T := F_C) (N := 7) hx hb htw inC hown hK hO.1 0 rfl rfl 2 (by decide) (htw _ kw_22) (fun _ h9 => h9) rfl d_C_extendSign_36 ?_
  refine x_calll (A := CA o) (va_runS (As := [.ref (o + 19)]) (rest := [.int (nI k), .ref (o + 19), .ref (o + 18)]) ⟨hx, hb, hml, hown, htw⟩ (c_limbOfSign l D cJ cI cQ cR (o + 19) (vy * 2 ^ k % 2 ^ 256) f3 hu hN3) (xcS 1 htw kw_219 kw_1 kw_217 kw_218 rfl rfl ⟨by decide, by decide, by decide +kernel⟩ ⟨Nat.le_of_ble_eq_true rfl, Nat.le_of_ble_eq_true rfl⟩) (xPre hK h_19) rfl rfl hl.1 rfl (lv_room (Nat.le_of_ble_eq_true rfl)) d_C_extendSign_39 ⟨Nat.le_of_ble_eq_true rfl, Nat.le_of_ble_eq_true rfl⟩) hlo (fun _ h => h.elim) (fun r4 H4 locs4 hB4 hlo => ?_)
  obtain ⟨rfl, rfl⟩ := hB4
  refine x_callv (A := CA o) (va_runS (As := [.ref (o + 18), .ref (o + 19), .int (nI k), .long (lN (if 2 ^ 255 ≤ vy * 2 ^ k % 2 ^ 256 then 4294967295 else 0))]) (rest := []) ⟨hx, hb, hml, hown, htw⟩ (c_moveRight l D cJ cI cQ cR (o + 18) (o + 19) (vy * 2 ^ k % 2 ^ 256) k (if 2 ^ 255 ≤ vy * 2 ^ k % 2 ^ 256 then 4294967295 else 0) (sx (vy * 2 ^ k % 2 ^ 256)) f18 f3 hk256 (by split <;> decide) (by omega) hN3 sx_lo (sx_hi hu)) (xcS 4 htw kw_222 kw_1 kw_220 kw_221 rfl rfl ⟨by decide, by decide, by decide +kernel⟩ ⟨Nat.le_of_ble_eq_true rfl, Nat.le_of_ble_eq_true rfl⟩) (xPre hK ⟨h_18, h_19⟩) rfl rfl hl.1 rfl (lv_room (Nat.le_of_ble_eq_true rfl)) d_C_extendSign_42 ⟨Nat.le_of_ble_eq_true rfl, Nat.le_of_ble_eq_true rfl⟩) hlo (fun q h => by have h : q = o + 18 := h; rw [h]; exact ⟨by omega, by omega⟩) (fun H5 locs5 hB5 hlo => ?_)
  obtain ⟨hF5, f5, hf5, hN5⟩ := hB5
  have hN5 := NL_m hN5
  rw [hk] at hN5
  have h_18 := hf5
  have h_19 := hL_f h_19 hF5 (show o + 19 ≠ o + 18 by omega)
  have h_20 := hL_f h_20 hF5 (show o + 20 ≠ o + 18 by omega)
  have h_21 := hL_f h_21 hF5 (show o + 21 ≠ o + 18 by omega)
  have h_22 := hL_f h_22 hF5 (show o + 22 ≠ o + 18 by omega)
  have h_23 := hL_f h_23 hF5 (show o + 23 ≠ o + 18 by omega)
  have h_X := hL_f h_X hF5 (show x ≠ o + 18 by omega)
  have h_Y := hL_f h_Y hF5 (show y ≠ o + 18 by omega)
  have hO := hO.f1 hF5 (by omega)
  have hG := SA1 hG hF5 (by omega)
  exact W.vret hx hb hr (fun t ht hW => ⟨rfl, by rw [ht]; exact hG, by rw [ht]; exact ⟨⟨_, h_18⟩, ⟨_, h_19⟩, ⟨_, h_20⟩, ⟨_, h_21⟩, ⟨_, h_22⟩, ⟨_, h_23⟩⟩, _, by rw [ht]; exact h_18, hN5⟩) hlo d_C_extendSign_45
set_option maxHeartbeats 4000000 in
set_option maxRecDepth 100000 in
theorem c_raise (l : Launch) (D : va_G) (cJ cI cQ cR : ClassId) (o x y vx vy : Nat) (fx fy : Nat → Int64) (hxr : o + 2 ≤ x ∧ x < o + 18) (hyr : o + 2 ≤ y ∧ y < o + 18) (hvx : vx < 2 ^ 256) (hvy : vy < 2 ^ 256) (hNx : NL fx 8 vx) (hNy : NL fy 8 vy) : Met l y_C_raise w_C_raise { frames := 2, cells := 0, slots := 0, locals := 85 } (xP D vwCl (TY cJ cI cQ cR) [.ref o, .ref x, .ref y] (fun H => CB D cQ o H ∧ SC cJ o H ∧ hL H cJ x 8 fx ∧ hL H cJ y 8 fy)) (xQv (fun H0 H => XF (SA o) H0 H ∧ SC cJ o H ∧ ∃ (f : Nat → Int64), hL H cJ (o + 18) 8 f ∧ NL f 8 (vx ^ vy % 2 ^ 256))) 0 0 (CA o) := by
  refine Met.ofW (cc := b_C_raise) (maxL := 4) (ret := none) (by decide) rfl ?_
  intro p e s m args below meth c s₁ B hml hv
  obtain ⟨rfl, hK, ⟨hO, hSC, h_X, h_Y⟩⟩ := hv
  have hx := B.exec
  have hb := B.bytes
  have hr := B.returns
  have hts := atoms_spec (ws := w_C_raise) B.pre
  have htw : ∀ w ∈ WT, w.before _ s = true := fun w h => hts w (List.mem_cons_of_mem _ h)
  have hown : s.vm.findClass "WideNumbers" = some m.cls := findClass_of_methodNamed B.named
  have hlocks := B.notSynchronized
  have hJ : ArrOfT s cJ .long := (hK.2 0 _ rfl).1
  have hI9 : ArrOfT s cI .int := (hK.2 1 _ rfl).1
  have hl := lv_entry ([.ref o, .ref x, .ref y]) (n := 4) (Nat.le_of_ble_eq_true rfl)
  rw [lg_entry_eq]
  generalize (lg_sl ([.ref o, .ref x, .ref y]) ++ List.replicate (4 - (lg_sl ([.ref o, .ref x, .ref y])).length) Slot.unset).toArray = ls at hl ⊢
  have hl : lv_has ls 4 [(0, .ref o), (1, .ref x), (2, .ref y)] := hl
  obtain ⟨⟨f18, h_18⟩, ⟨f19, h_19⟩, ⟨f20, h_20⟩, ⟨f21, h_21⟩, ⟨f22, h_22⟩, ⟨f23, h_23⟩⟩ := hSC
  have hG : XF (SA o) s.heap s.heap := XF.rf
  have hlo : ∀ q ∈ ([] : List Loc), CA o q.base := fun _ h => nomatch h
  refine lv_aload_n hx hb d_C_raise_0 rfl (lv_at hl 0 rfl) ?_
  refine va_get (D := D) (ci := 0) (v := .ref (o + 18)) (C := "WideNumbers") (T := F_C) (N := 7) hx hb htw inC hown hK hO.1 0 rfl rfl 1 (by decide) (htw _ kw_21) (fun _ h9 => h9) rfl d_C_raise_1 ?_
  refine lv_lconst (v := lN 0) hx hb d_C_raise_4 (by decide) ?_
  refine x_callv (A := CA o) (va_runS (As := [.ref (o + 18), .long (lN 0)]) (rest := []) ⟨hx, hb, hml, hown, htw⟩ (c_fill l D cJ cI cQ cR (o + 18) 8 (lN 0) f18 (by decide)) (xcS 2 htw kw_156 kw_7 kw_154 kw_155 rfl rfl ⟨by decide, by decide, by decide +kernel⟩ ⟨Nat.le_of_ble_eq_true rfl, Nat.le_of_ble_eq_true rfl⟩) (xPre hK h_18) rfl rfl hl.1 rfl (lv_room (Nat.le_of_ble_eq_true rfl)) d_C_raise_5 ⟨Nat.le_of_ble_eq_true rfl, Nat.le_of_ble_eq_true rfl⟩) hlo (fun q h => by have h : q = o + 18 := h; rw [h]; exact ⟨by omega, by omega⟩) (fun H1 locs1 hB1 hlo => ?_)
  obtain ⟨hF1, f1, hf1, hN1⟩ := hB1
  have h_18 := hf1
  have h_19 := hL_f h_19 hF1 (show o + 19 ≠ o + 18 by omega)
  have h_20 := hL_f h_20 hF1 (show o + 20 ≠ o + 18 by omega)
  have h_21 := hL_f h_21 hF1 (show o + 21 ≠ o + 18 by omega)
  have h_22 := hL_f h_22 hF1 (show o + 22 ≠ o + 18 by omega)
  have h_23 := hL_f h_23 hF1 (show o + 23 ≠ o + 18 by omega)
  have h_X := hL_f h_X hF1 (show x ≠ o + 18 by omega)
  have h_Y := hL_f h_Y hF1 (show y ≠ o + 18 by omega)
  have hO := hO.f1 hF1 (by omega)
  have hG := SA1 hG hF1 (by omega)
  refine lv_aload_n hx hb d_C_raise_8 rfl (lv_at hl 0 rfl) ?_
  refine va_get (D := D) (ci := 0) (v := .ref (o + 18)) (C := "WideNumbers") (T := F_C) (N := 7) hx hb htw inC hown hK hO.1 0 rfl rfl 1 (by decide) (htw _ kw_21) (fun _ h9 => h9) rfl d_C_raise_9 ?_
  refine lv_iconst (v := nI 0) hx hb d_C_raise_12 (by decide) ?_
  refine lv_lconst (v := lN 1) hx hb d_C_raise_13 (by decide) ?_
  refine x_last (A := CA o) hx hb hJ h_18 hlo (⟨by omega, by omega⟩) (0) (rfl) (by omega) (by omega) d_C_raise_14 (fun H2 locs2 h2 hF2 hlo => ?_)
  have h_18 := h2
  have h_19 := hL_f h_19 hF2 (show o + 19 ≠ o + 18 by omega)
  have h_20 := hL_f h_20 hF2 (show o + 20 ≠ o + 18 by omega)
  have h_21 := hL_f h_21 hF2 (show o + 21 ≠ o + 18 by omega)
  have h_22 := hL_f h_22 hF2 (show o + 22 ≠ o + 18 by omega)
  have h_23 := hL_f h_23 hF2 (show o + 23 ≠ o + 18 by omega)
  have h_X := hL_f h_X hF2 (show x ≠ o + 18 by omega)
  have h_Y := hL_f h_Y hF2 (show y ≠ o + 18 by omega)
  have hO := hO.f1 hF2 (by omega)
  have hG := SA1 hG hF2 (by omega)
  have hN2 := NL_s (v := 1) (by decide) hN1
  refine lv_aload_n hx hb d_C_raise_15 rfl (lv_at hl 2 rfl) ?_
  refine x_calli (A := CA o) (va_runS (As := [.ref y]) (rest := []) ⟨hx, hb, hml, hown, htw⟩ (c_usedBits l D cJ cI cQ cR y 8 vy fy (by decide) hvy hNy) (xcS 1 htw kw_163 kw_1 kw_161 kw_162 rfl rfl ⟨by decide, by decide, by decide +kernel⟩ ⟨Nat.le_of_ble_eq_true rfl, Nat.le_of_ble_eq_true rfl⟩) (xPre hK h_Y) rfl rfl hl.1 rfl (lv_room (Nat.le_of_ble_eq_true rfl)) d_C_raise_16 ⟨Nat.le_of_ble_eq_true rfl, Nat.le_of_ble_eq_true rfl⟩) hlo (fun _ h => h.elim) (fun r3 H3 locs3 hB3 hlo => ?_)
  obtain ⟨rfl, kx, rfl, ⟨hkx, hkx2⟩, hkx3⟩ := hB3
  refine lv_iconst (v := nI 1) hx hb d_C_raise_19 (by decide) ?_
  refine lv_isub hx hb d_C_raise_20 ?_
  refine x_topi (v := nI kx - 1) (rfl) ?_
  refine lv_istore_n hx hb d_C_raise_21 rfl hl (by decide) rfl (fun ls hl => ?_)
  have hl : lv_has ls 4 [(3, .int (nI kx - 1)), (0, .ref o), (1, .ref x), (2, .ref y)] := hl
  have hl : lv_has ls 4 [(3, .int (nI kx - 1)), (0, .ref o), (1, .ref x), (2, .ref y)] := lv_sub hl [0, 1, 2, 3] rfl
  refine x_loopD 22 (fun i H locs ls => i ≤ kx ∧ ∃ (fr : Nat → Int64), lv_has ls 4 [(3, .int (nI i - 1)), (0, .ref o), (1, .ref x), (2, .ref y)] ∧ (∀ q ∈ locs, CA o q.base) ∧ XF (SA o) s.heap H ∧ CB D cQ o H ∧ SC cJ o H ∧ hL H cJ x 8 fx ∧ hL H cJ y 8 fy ∧ hL H cJ (o + 18) 8 fr ∧ NL fr 8 (vx ^ (vy / 2 ^ i) % 2 ^ 256)) ?_ ?_ kx _ _ _ ?_
  · intro i H locs ls ⟨hi, fr, hl, hlo, hG, hO, ⟨_, ⟨f19, h_19⟩, ⟨f20, h_20⟩, ⟨f21, h_21⟩, ⟨f22, h_22⟩, ⟨f23, h_23⟩⟩, h_X, h_Y, h_18, hNr⟩ ih
    have hbit : vy / 2 ^ i % 2 ≤ 1 := by omega
    have hT := dv_b vy i
    generalize hbb : vy / 2 ^ i % 2 = b0 at hbit hT
    have hrl : vx ^ (vy / 2 ^ (i + 1)) % 2 ^ 256 < 2 ^ 256 := Nat.mod_lt _ (pw_pos 256)
    refine lv_iload_n hx hb d_C_raise_22 rfl (lv_at hl 0 rfl) ?_
    refine x_topi (v := nI i) (nI_pred i) ?_
    refine lv_if_lt (tgt := 83) hx hb d_C_raise_23 (by decide) (fun hc => absurd hc (nI_pos (by omega))) (fun _ => ?_)
    refine lv_aload_n hx hb d_C_raise_26 rfl (lv_at hl 1 rfl) ?_
    refine va_get (D := D) (ci := 0) (v := .ref (o + 19)) (C := "WideNumbers") (T := F_C) (N := 7) hx hb htw inC hown hK hO.1 0 rfl rfl 2 (by decide) (htw _ kw_22) (fun _ h9 => h9) rfl d_C_raise_27 ?_
    refine lv_aload_n hx hb d_C_raise_30 rfl (lv_at hl 1 rfl) ?_
    refine va_get (D := D) (ci := 0) (v := .ref (o + 18)) (C := "WideNumbers") (T := F_C) (N := 7) hx hb htw inC hown hK hO.1 0 rfl rfl 1 (by decide) (htw _ kw_21) (fun _ h9 => h9) rfl d_C_raise_31 ?_
    refine lv_aload_n hx hb d_C_raise_34 rfl (lv_at hl 1 rfl) ?_
    refine va_get (D := D) (ci := 0) (v := .ref (o + 18)) (C := "WideNumbers") (T := F_C) (N := 7) hx hb htw inC hown hK hO.1 0 rfl rfl 1 (by decide) (htw _ kw_21) (fun _ h9 => h9) rfl d_C_raise_35 ?_
    refine x_callv (A := CA o) (va_runS (As := [.ref (o + 19), .ref (o + 18), .ref (o + 18)]) (rest := []) ⟨hx, hb, hml, hown, htw⟩ (c_multiply l D cJ cI cQ cR (o + 19) (o + 18) (o + 18) 8 (vx ^ (vy / 2 ^ (i + 1)) % 2 ^ 256) (vx ^ (vy / 2 ^ (i + 1)) % 2 ^ 256) f19 fr fr (Or.inl rfl) (by omega) (by omega) hrl hrl hNr hNr) (xcS 3 htw kw_153 kw_1 kw_151 kw_152 rfl rfl ⟨by decide, by decide, by decide +kernel⟩ ⟨Nat.le_of_ble_eq_true rfl, Nat.le_of_ble_eq_true rfl⟩) (xPre hK ⟨h_19, h_18, h_18⟩) rfl rfl hl.1 rfl (lv_room (Nat.le_of_ble_eq_true rfl)) d_C_raise_38 ⟨Nat.le_of_ble_eq_true rfl, Nat.le_of_ble_eq_true rfl⟩) hlo (fun q h => by have h : q = o + 19 := h; rw [h]; exact ⟨by omega, by omega⟩) (fun H4 locs4 hB4 hlo => ?_)
    obtain ⟨hF4, f4, hf4, hN4⟩ := hB4
    have hN4 := NL_m hN4
    rw [pw_sq] at hN4
    have h4l : vx ^ (2 * (vy / 2 ^ (i + 1))) % 2 ^ 256 < 2 ^ 256 := Nat.mod_lt _ (pw_pos 256)
    have h_18 := hL_f h_18 hF4 (show o + 18 ≠ o + 19 by omega)
    have h_19 := hf4
    have h_20 := hL_f h_20 hF4 (show o + 20 ≠ o + 19 by omega)
    have h_21 := hL_f h_21 hF4 (show o + 21 ≠ o + 19 by omega)
    have h_22 := hL_f h_22 hF4 (show o + 22 ≠ o + 19 by omega)
    have h_23 := hL_f h_23 hF4 (show o + 23 ≠ o + 19 by omega)
    have h_X := hL_f h_X hF4 (show x ≠ o + 19 by omega)
    have h_Y := hL_f h_Y hF4 (show y ≠ o + 19 by omega)
    have hO := hO.f1 hF4 (by omega)
    have hG := SA1 hG hF4 (by omega)
    refine lv_aload_n hx hb d_C_raise_41 rfl (lv_at hl 3 rfl) ?_
    refine lv_iload_n hx hb d_C_raise_42 rfl (lv_at hl 0 rfl) ?_
    refine x_topi (v := nI i) (nI_pred i) ?_
    refine x_calll (A := CA o) (va_runS (As := [.ref y, .int (nI i)]) (rest := []) ⟨hx, hb, hml, hown, htw⟩ (c_bitAt l D cJ cI cQ cR y 8 i vy fy (by decide) (by omega) hNy) (xcS 2 htw kw_170 kw_1 kw_168 kw_169 rfl rfl ⟨by decide, by decide, by decide +kernel⟩ ⟨Nat.le_of_ble_eq_true rfl, Nat.le_of_ble_eq_true rfl⟩) (xPre hK h_Y) rfl rfl hl.1 rfl (lv_room (Nat.le_of_ble_eq_true rfl)) d_C_raise_43 ⟨Nat.le_of_ble_eq_true rfl, Nat.le_of_ble_eq_true rfl⟩) hlo (fun _ h => h.elim) (fun r5 H5 locs5 hB5 hlo => ?_)
    obtain ⟨rfl, rfl⟩ := hB5
    rw [hbb]
    refine lv_lconst (v := lN 0) hx hb d_C_raise_46 (by decide) ?_
    refine W.lcmp hx hb d_C_raise_47 ?_
    refine lv_if_ne (tgt := 65) hx hb d_C_raise_48 (by decide) (fun hc => ?_) (fun hc => ?_)
    · have hb1 : b0 = 1 := by
        have hne : b0 ≠ 0 := fun h => hc ((cmp_eq _ _).mpr (by rw [h]))
        omega
      refine lv_aload_n hx hb d_C_raise_65 rfl (lv_at hl 1 rfl) ?_
      refine va_get (D := D) (ci := 0) (v := .ref (o + 18)) (C := "WideNumbers") (T := F_C) (N := 7) hx hb htw inC hown hK hO.1 0 rfl rfl 1 (by decide) (htw _ kw_21) (fun _ h9 => h9) rfl d_C_raise_66 ?_
      refine lv_aload_n hx hb d_C_raise_69 rfl (lv_at hl 1 rfl) ?_
      refine va_get (D := D) (ci := 0) (v := .ref (o + 19)) (C := "WideNumbers") (T := F_C) (N := 7) hx hb htw inC hown hK hO.1 0 rfl rfl 2 (by decide) (htw _ kw_22) (fun _ h9 => h9) rfl d_C_raise_70 ?_
      refine lv_aload_n hx hb d_C_raise_73 rfl (lv_at hl 2 rfl) ?_
      refine x_callv (A := CA o) (va_runS (As := [.ref (o + 18), .ref (o + 19), .ref x]) (rest := []) ⟨hx, hb, hml, hown, htw⟩ (c_multiply l D cJ cI cQ cR (o + 18) (o + 19) x 8 (vx ^ (2 * (vy / 2 ^ (i + 1))) % 2 ^ 256) vx fr f4 fx (Or.inl rfl) (by omega) (by omega) h4l hvx hN4 hNx) (xcS 3 htw kw_153 kw_1 kw_151 kw_152 rfl rfl ⟨by decide, by decide, by decide +kernel⟩ ⟨Nat.le_of_ble_eq_true rfl, Nat.le_of_ble_eq_true rfl⟩) (xPre hK ⟨h_18, h_19, h_X⟩) rfl rfl hl.1 rfl (lv_room (Nat.le_of_ble_eq_true rfl)) d_C_raise_74 ⟨Nat.le_of_ble_eq_true rfl, Nat.le_of_ble_eq_true rfl⟩) hlo (fun q h => by have h : q = o + 18 := h; rw [h]; exact ⟨by omega, by omega⟩) (fun H7 locs7 hB7 hlo => ?_)
      obtain ⟨hF7, f7, hf7, hN7⟩ := hB7
      have hN7 := NL_m hN7
      rw [pw_sq1] at hN7
      have h_18 := hf7
      have h_19 := hL_f h_19 hF7 (show o + 19 ≠ o + 18 by omega)
      have h_20 := hL_f h_20 hF7 (show o + 20 ≠ o + 18 by omega)
      have h_21 := hL_f h_21 hF7 (show o + 21 ≠ o + 18 by omega)
      have h_22 := hL_f h_22 hF7 (show o + 22 ≠ o + 18 by omega)
      have h_23 := hL_f h_23 hF7 (show o + 23 ≠ o + 18 by omega)
      have h_X := hL_f h_X hF7 (show x ≠ o + 18 by omega)
      have h_Y := hL_f h_Y hF7 (show y ≠ o + 18 by omega)
      have hO := hO.f1 hF7 (by omega)
      have hG := SA1 hG hF7 (by omega)
      refine lv_iinc (v := nI i - 1) (k := 0) hx hb d_C_raise_77 hl rfl (i_dec i) (by decide) rfl (fun ls hl => ?_)
      have hl : lv_has ls 4 [(3, .int (nI i - 1)), (0, .ref o), (1, .ref x), (2, .ref y)] := hl
      refine lv_goto (tgt := 22) hx hb d_C_raise_80 (by decide) ?_
      have hl : lv_has ls 4 [(3, .int (nI i - 1)), (0, .ref o), (1, .ref x), (2, .ref y)] := lv_sub hl [0, 1, 2, 3] rfl
      exact ih _ _ ls ⟨by omega, f7, hl, hlo, hG, hO, ⟨⟨_, h_18⟩, ⟨_, h_19⟩, ⟨_, h_20⟩, ⟨_, h_21⟩, ⟨_, h_22⟩, ⟨_, h_23⟩⟩, h_X, h_Y, h_18, by rw [hT, hb1]; exact hN7⟩
    · have hb0 : b0 = 0 := (jN_eq (by omega) (by decide)).mp ((cmp_eq _ _).mp hc)
      refine lv_aload_n hx hb d_C_raise_51 rfl (lv_at hl 1 rfl) ?_
      refine va_get (D := D) (ci := 0) (v := .ref (o + 18)) (C := "WideNumbers") (T := F_C) (N := 7) hx hb htw inC hown hK hO.1 0 rfl rfl 1 (by decide) (htw _ kw_21) (fun _ h9 => h9) rfl d_C_raise_52 ?_
      refine lv_aload_n hx hb d_C_raise_55 rfl (lv_at hl 1 rfl) ?_
      refine va_get (D := D) (ci := 0) (v := .ref (o + 19)) (C := "WideNumbers") (T := F_C) (N := 7) hx hb htw inC hown hK hO.1 0 rfl rfl 2 (by decide) (htw _ kw_22) (fun _ h9 => h9) rfl d_C_raise_56 ?_
      refine x_callv (A := CA o) (va_runS (As := [.ref (o + 18), .ref (o + 19)]) (rest := []) ⟨hx, hb, hml, hown, htw⟩ (c_copy l D cJ cI cQ cR (o + 18) (o + 19) 8 (vx ^ (2 * (vy / 2 ^ (i + 1))) % 2 ^ 256) fr f4 (by decide) (by omega) hN4) (xcS 2 htw kw_179 kw_1 kw_177 kw_178 rfl rfl ⟨by decide, by decide, by decide +kernel⟩ ⟨Nat.le_of_ble_eq_true rfl, Nat.le_of_ble_eq_true rfl⟩) (xPre hK ⟨h_18, h_19⟩) rfl rfl hl.1 rfl (lv_room (Nat.le_of_ble_eq_true rfl)) d_C_raise_59 ⟨Nat.le_of_ble_eq_true rfl, Nat.le_of_ble_eq_true rfl⟩) hlo (fun q h => by rcases h with h | h <;> (rw [h]; exact ⟨by omega, by omega⟩)) (fun H6 locs6 hB6 hlo => ?_)
      obtain ⟨hF6, f6, hf6, hN6⟩ := hB6
      have h_18 := hf6
      have h_19 := hL_f h_19 hF6 (show o + 19 ≠ o + 18 by omega)
      have h_20 := hL_f h_20 hF6 (show o + 20 ≠ o + 18 by omega)
      have h_21 := hL_f h_21 hF6 (show o + 21 ≠ o + 18 by omega)
      have h_22 := hL_f h_22 hF6 (show o + 22 ≠ o + 18 by omega)
      have h_23 := hL_f h_23 hF6 (show o + 23 ≠ o + 18 by omega)
      have h_X := hL_f h_X hF6 (show x ≠ o + 18 by omega)
      have h_Y := hL_f h_Y hF6 (show y ≠ o + 18 by omega)
      have hO := hO.f1 hF6 (by omega)
      have hG := SA1 hG hF6 (by omega)
      refine lv_goto (tgt := 77) hx hb d_C_raise_62 (by decide) ?_
      refine lv_iinc (v := nI i - 1) (k := 0) hx hb d_C_raise_77 hl rfl (i_dec i) (by decide) rfl (fun ls hl => ?_)
      have hl : lv_has ls 4 [(3, .int (nI i - 1)), (0, .ref o), (1, .ref x), (2, .ref y)] := hl
      refine lv_goto (tgt := 22) hx hb d_C_raise_80 (by decide) ?_
      have hl : lv_has ls 4 [(3, .int (nI i - 1)), (0, .ref o), (1, .ref x), (2, .ref y)] := lv_sub hl [0, 1, 2, 3] rfl
      exact ih _ _ ls ⟨by omega, f6, hl, hlo, hG, hO, ⟨⟨_, h_18⟩, ⟨_, h_19⟩, ⟨_, h_20⟩, ⟨_, h_21⟩, ⟨_, h_22⟩, ⟨_, h_23⟩⟩, h_X, h_Y, h_18, by rw [hT, hb0]; exact hN6⟩
  · intro H locs ls ⟨hi, fr, hl, hlo, hG, hO, hSC, h_X, h_Y, h_18, hNr⟩
    refine lv_iload_n hx hb d_C_raise_22 rfl (lv_at hl 0 rfl) ?_
    refine lv_if_lt (tgt := 83) hx hb d_C_raise_23 (by decide) (fun _ => ?_) (fun hc => absurd (by decide) hc)
    rw [Nat.pow_zero, Nat.div_one] at hNr
    exact W.vret hx hb hr (fun t ht hW => ⟨rfl, by rw [ht]; exact hG, by rw [ht]; exact hSC, fr, by rw [ht]; exact h_18, hNr⟩) hlo d_C_raise_83
  · exact ⟨Nat.le_refl _, _, hl, hlo, hG, hO, ⟨⟨_, h_18⟩, ⟨_, h_19⟩, ⟨_, h_20⟩, ⟨_, h_21⟩, ⟨_, h_22⟩, ⟨_, h_23⟩⟩, h_X, h_Y, h_18, by rw [Nat.div_eq_of_lt hkx, Nat.pow_zero]; exact hN2⟩
end
section
-- contracts: calculate, arrangeBits
set_option maxHeartbeats 4000000 in
set_option maxRecDepth 100000 in
theorem c_calculate (l : Launch) (D : va_G) (cJ cI cQ cR : ClassId) (op : Nat) (hop : 0 ≤ op ∧ op ≤ 7) (o x y vx vy : Nat) (fx fy : Nat → Int64) (hxr : o + 2 ≤ x ∧ x < o + 18) (hyr : o + 2 ≤ y ∧ y < o + 18) (hvx : vx < 2 ^ 256) (hvy : vy < 2 ^ 256) (hNx : NL fx 8 vx) (hNy : NL fy 8 vy) : Met l y_C_calculate w_C_calculate { frames := 4, cells := 0, slots := 0, locals := 129 } (xP D vwCl (TY cJ cI cQ cR) [.ref o, .int (nI op), .ref x, .ref y] (fun H => CB D cQ o H ∧ SC cJ o H ∧ hL H cJ x 8 fx ∧ hL H cJ y 8 fy)) (xQv (fun H0 H => XF (SA o) H0 H ∧ SC cJ o H ∧ ∃ (f : Nat → Int64), hL H cJ (o + 18) 8 f ∧ NL f 8 (opv op vx vy))) 0 0 (CA o) := by
  refine Met.ofW (cc := b_C_calculate) (maxL := 4) (ret := none) (by decide) rfl ?_
  intro p e s m args below meth c s₁ B hml hv
  obtain ⟨rfl, hK, ⟨hO, hSC, h_X, h_Y⟩⟩ := hv
  have hx := B.exec
  have hb := B.bytes
  have hr := B.returns
  have hts := atoms_spec (ws := w_C_calculate) B.pre
  have htw : ∀ w ∈ WT, w.before _ s = true := fun w h => hts w (List.mem_cons_of_mem _ h)
  have hown : s.vm.findClass "WideNumbers" = some m.cls := findClass_of_methodNamed B.named
  have hlocks := B.notSynchronized
  have hJ : ArrOfT s cJ .long := (hK.2 0 _ rfl).1
  have hI9 : ArrOfT s cI .int := (hK.2 1 _ rfl).1
  have hl := lv_entry ([.ref o, .int (nI op), .ref x, .ref y]) (n := 4) (Nat.le_of_ble_eq_true rfl)
  rw [lg_entry_eq]
  generalize (lg_sl ([.ref o, .int (nI op), .ref x, .ref y]) ++ List.replicate (4 - (lg_sl ([.ref o, .int (nI op), .ref x, .ref y])).length) Slot.unset).toArray = ls at hl ⊢
  have hl : lv_has ls 4 [(0, .ref o), (1, .int (nI op)), (2, .ref x), (3, .ref y)] := hl
  obtain ⟨⟨f18, h_18⟩, ⟨f19, h_19⟩, ⟨f20, h_20⟩, ⟨f21, h_21⟩, ⟨f22, h_22⟩, ⟨f23, h_23⟩⟩ := hSC
  have hG : XF (SA o) s.heap s.heap := XF.rf
  have hlo : ∀ q ∈ ([] : List Loc), CA o q.base := fun _ h => nomatch h
  rcases (show op = 0 ∨ op = 1 ∨ op = 2 ∨ op = 3 ∨ op = 4 ∨ op = 5 ∨ op = 6 ∨ op = 7 by omega) with rfl | rfl | rfl | rfl | rfl | rfl | rfl | rfl
  · refine lv_iload_n hx hb d_C_calculate_0 rfl (lv_at hl 1 rfl) ?_
    refine lv_tableIn (off := 47) (tgt := 48) hx hb d_C_calculate_1 (by decide) (by decide) (by decide) (by decide) ?_
    refine lv_aload_n hx hb d_C_calculate_48 rfl (lv_at hl 0 rfl) ?_
    refine va_get (D := D) (ci := 0) (v := .ref (o + 18)) (C := "WideNumbers") (T := F_C) (N := 7) hx hb htw inC hown hK hO.1 0 rfl rfl 1 (by decide) (htw _ kw_21) (fun _ h9 => h9) rfl d_C_calculate_49 ?_
    refine lv_aload_n hx hb d_C_calculate_52 rfl (lv_at hl 2 rfl) ?_
    refine lv_aload_n hx hb d_C_calculate_53 rfl (lv_at hl 3 rfl) ?_
    refine x_calll (A := CA o) (va_runS (As := [.ref (o + 18), .ref x, .ref y]) (rest := []) ⟨hx, hb, hml, hown, htw⟩ (c_add l D cJ cI cQ cR (o + 18) x y 8 vx vy f18 fx fy (by decide) (by omega) (by omega) hvx hvy hNx hNy) (xcS 3 htw kw_147 kw_1 kw_145 kw_146 rfl rfl ⟨by decide, by decide, by decide +kernel⟩ ⟨Nat.le_of_ble_eq_true rfl, Nat.le_of_ble_eq_true rfl⟩) (xPre hK ⟨h_18, h_X, h_Y⟩) rfl rfl hl.1 rfl (lv_room (Nat.le_of_ble_eq_true rfl)) d_C_calculate_54 ⟨Nat.le_of_ble_eq_true rfl, Nat.le_of_ble_eq_true rfl⟩) hlo (fun q h => by have h : q = o + 18 := h; rw [h]; exact ⟨by omega, by omega⟩) (fun r1 H1 locs1 hB1 hlo => ?_)
    obtain ⟨hF1, c1, v1, f1, rfl, hf1, -, hN1, hv1, he1, hc1⟩ := hB1
    have hv : v1 = (vx + vy) % 2 ^ 256 := by omega
    rw [hv] at hN1
    have h_18 := hf1
    have h_19 := hL_f h_19 hF1 (show o + 19 ≠ o + 18 by omega)
    have h_20 := hL_f h_20 hF1 (show o + 20 ≠ o + 18 by omega)
    have h_21 := hL_f h_21 hF1 (show o + 21 ≠ o + 18 by omega)
    have h_22 := hL_f h_22 hF1 (show o + 22 ≠ o + 18 by omega)
    have h_23 := hL_f h_23 hF1 (show o + 23 ≠ o + 18 by omega)
    have h_X := hL_f h_X hF1 (show x ≠ o + 18 by omega)
    have h_Y := hL_f h_Y hF1 (show y ≠ o + 18 by omega)
    have hO := hO.f1 hF1 (by omega)
    have hG := SA1 hG hF1 (by omega)
    refine lv_pop2_2 hx hb d_C_calculate_57 rfl ?_
    refine lv_goto (tgt := 194) hx hb d_C_calculate_58 (by decide) ?_
    exact W.vret hx hb hr (fun t ht hW => ⟨rfl, by rw [ht]; exact hG, by rw [ht]; exact ⟨⟨_, h_18⟩, ⟨_, h_19⟩, ⟨_, h_20⟩, ⟨_, h_21⟩, ⟨_, h_22⟩, ⟨_, h_23⟩⟩, _, by rw [ht]; exact h_18, hN1⟩) hlo d_C_calculate_194
  · refine lv_iload_n hx hb d_C_calculate_0 rfl (lv_at hl 1 rfl) ?_
    refine lv_tableIn (off := 60) (tgt := 61) hx hb d_C_calculate_1 (by decide) (by decide) (by decide) (by decide) ?_
    refine lv_aload_n hx hb d_C_calculate_61 rfl (lv_at hl 0 rfl) ?_
    refine va_get (D := D) (ci := 0) (v := .ref (o + 18)) (C := "WideNumbers") (T := F_C) (N := 7) hx hb htw inC hown hK hO.1 0 rfl rfl 1 (by decide) (htw _ kw_21) (fun _ h9 => h9) rfl d_C_calculate_62 ?_
    refine lv_aload_n hx hb d_C_calculate_65 rfl (lv_at hl 2 rfl) ?_
    refine lv_aload_n hx hb d_C_calculate_66 rfl (lv_at hl 3 rfl) ?_
    refine x_callv (A := CA o) (va_runS (As := [.ref (o + 18), .ref x, .ref y]) (rest := []) ⟨hx, hb, hml, hown, htw⟩ (c_subtract l D cJ cI cQ cR (o + 18) x y vx vy f18 fx fy (by omega) hvx hvy hNx hNy) (xcS 3 htw kw_150 kw_1 kw_148 kw_149 rfl rfl ⟨by decide, by decide, by decide +kernel⟩ ⟨Nat.le_of_ble_eq_true rfl, Nat.le_of_ble_eq_true rfl⟩) (xPre hK ⟨h_18, h_X, h_Y⟩) rfl rfl hl.1 rfl (lv_room (Nat.le_of_ble_eq_true rfl)) d_C_calculate_67 ⟨Nat.le_of_ble_eq_true rfl, Nat.le_of_ble_eq_true rfl⟩) hlo (fun q h => by have h : q = o + 18 := h; rw [h]; exact ⟨by omega, by omega⟩) (fun H1 locs1 hB1 hlo => ?_)
    obtain ⟨hF1, v1, c1, f1, hf1, hN1, hv1, he1, hc1⟩ := hB1
    have hv : v1 = (vx + (2 ^ 256 - vy)) % 2 ^ 256 := by omega
    rw [hv] at hN1
    have h_18 := hf1
    have h_19 := hL_f h_19 hF1 (show o + 19 ≠ o + 18 by omega)
    have h_20 := hL_f h_20 hF1 (show o + 20 ≠ o + 18 by omega)
    have h_21 := hL_f h_21 hF1 (show o + 21 ≠ o + 18 by omega)
    have h_22 := hL_f h_22 hF1 (show o + 22 ≠ o + 18 by omega)
    have h_23 := hL_f h_23 hF1 (show o + 23 ≠ o + 18 by omega)
    have h_X := hL_f h_X hF1 (show x ≠ o + 18 by omega)
    have h_Y := hL_f h_Y hF1 (show y ≠ o + 18 by omega)
    have hO := hO.f1 hF1 (by omega)
    have hG := SA1 hG hF1 (by omega)
    refine lv_goto (tgt := 194) hx hb d_C_calculate_70 (by decide) ?_
    exact W.vret hx hb hr (fun t ht hW => ⟨rfl, by rw [ht]; exact hG, by rw [ht]; exact ⟨⟨_, h_18⟩, ⟨_, h_19⟩, ⟨_, h_20⟩, ⟨_, h_21⟩, ⟨_, h_22⟩, ⟨_, h_23⟩⟩, _, by rw [ht]; exact h_18, hN1⟩) hlo d_C_calculate_194
  · refine lv_iload_n hx hb d_C_calculate_0 rfl (lv_at hl 1 rfl) ?_
    refine lv_tableIn (off := 72) (tgt := 73) hx hb d_C_calculate_1 (by decide) (by decide) (by decide) (by decide) ?_
    refine lv_aload_n hx hb d_C_calculate_73 rfl (lv_at hl 0 rfl) ?_
    refine va_get (D := D) (ci := 0) (v := .ref (o + 18)) (C := "WideNumbers") (T := F_C) (N := 7) hx hb htw inC hown hK hO.1 0 rfl rfl 1 (by decide) (htw _ kw_21) (fun _ h9 => h9) rfl d_C_calculate_74 ?_
    refine lv_aload_n hx hb d_C_calculate_77 rfl (lv_at hl 2 rfl) ?_
    refine lv_aload_n hx hb d_C_calculate_78 rfl (lv_at hl 3 rfl) ?_
    refine x_callv (A := CA o) (va_runS (As := [.ref (o + 18), .ref x, .ref y]) (rest := []) ⟨hx, hb, hml, hown, htw⟩ (c_multiply l D cJ cI cQ cR (o + 18) x y 8 vx vy f18 fx fy (Or.inl rfl) (by omega) (by omega) hvx hvy hNx hNy) (xcS 3 htw kw_153 kw_1 kw_151 kw_152 rfl rfl ⟨by decide, by decide, by decide +kernel⟩ ⟨Nat.le_of_ble_eq_true rfl, Nat.le_of_ble_eq_true rfl⟩) (xPre hK ⟨h_18, h_X, h_Y⟩) rfl rfl hl.1 rfl (lv_room (Nat.le_of_ble_eq_true rfl)) d_C_calculate_79 ⟨Nat.le_of_ble_eq_true rfl, Nat.le_of_ble_eq_true rfl⟩) hlo (fun q h => by have h : q = o + 18 := h; rw [h]; exact ⟨by omega, by omega⟩) (fun H1 locs1 hB1 hlo => ?_)
    obtain ⟨hF1, f1, hf1, hN1⟩ := hB1
    have h_18 := hf1
    have h_19 := hL_f h_19 hF1 (show o + 19 ≠ o + 18 by omega)
    have h_20 := hL_f h_20 hF1 (show o + 20 ≠ o + 18 by omega)
    have h_21 := hL_f h_21 hF1 (show o + 21 ≠ o + 18 by omega)
    have h_22 := hL_f h_22 hF1 (show o + 22 ≠ o + 18 by omega)
    have h_23 := hL_f h_23 hF1 (show o + 23 ≠ o + 18 by omega)
    have h_X := hL_f h_X hF1 (show x ≠ o + 18 by omega)
    have h_Y := hL_f h_Y hF1 (show y ≠ o + 18 by omega)
    have hO := hO.f1 hF1 (by omega)
    have hG := SA1 hG hF1 (by omega)
    refine lv_goto (tgt := 194) hx hb d_C_calculate_82 (by decide) ?_
    exact W.vret hx hb hr (fun t ht hW => ⟨rfl, by rw [ht]; exact hG, by rw [ht]; exact ⟨⟨_, h_18⟩, ⟨_, h_19⟩, ⟨_, h_20⟩, ⟨_, h_21⟩, ⟨_, h_22⟩, ⟨_, h_23⟩⟩, _, by rw [ht]; exact h_18, NL_m hN1⟩) hlo d_C_calculate_194
  · refine lv_iload_n hx hb d_C_calculate_0 rfl (lv_at hl 1 rfl) ?_
    refine lv_tableIn (off := 84) (tgt := 85) hx hb d_C_calculate_1 (by decide) (by decide) (by decide) (by decide) ?_
    refine lv_aload_n hx hb d_C_calculate_85 rfl (lv_at hl 0 rfl) ?_
    refine lv_aload_n hx hb d_C_calculate_86 rfl (lv_at hl 2 rfl) ?_
    refine lv_aload_n hx hb d_C_calculate_87 rfl (lv_at hl 3 rfl) ?_
    refine x_callv (A := CA o) (va_runV (As := [.ref x, .ref y]) (rest := []) ⟨hx, hb, hml, hown, htw⟩ (c_divide l D cJ cI cQ cR o x y 8 vx vy f22 f23 fx fy (Or.inl rfl) (nDA (by omega)) (nDA (by omega)) hvx hvy hNx hNy) (xcV 2 htw kw_160 kw_1 kw_157 kw_159 ks_C_divide rfl rfl ⟨by decide, by decide, by decide +kernel⟩ ⟨Nat.le_of_ble_eq_true rfl, Nat.le_of_ble_eq_true rfl⟩) (xPreV hK (hO.rv hK) ⟨hO, h_22, h_23, h_X, h_Y⟩) rfl rfl hl.1 rfl (lv_room (Nat.le_of_ble_eq_true rfl)) d_C_calculate_88 ⟨Nat.le_of_ble_eq_true rfl, Nat.le_of_ble_eq_true rfl⟩) hlo (fun q h => by rcases h with h | h <;> (rw [h]; exact ⟨by omega, by omega⟩)) (fun H1 locs1 hB1 hlo => ?_)
    obtain ⟨hF1, f1, g1, hf1, hN1, hg1, hM1⟩ := hB1
    have h_18 := hL_f h_18 hF1 (nDA (by omega))
    have h_19 := hL_f h_19 hF1 (nDA (by omega))
    have h_20 := hL_f h_20 hF1 (nDA (by omega))
    have h_21 := hL_f h_21 hF1 (nDA (by omega))
    have h_22 := hf1
    have h_23 := hg1
    have h_X := hL_f h_X hF1 (nDA (by omega))
    have h_Y := hL_f h_Y hF1 (nDA (by omega))
    have hO := hO.fD hF1
    have hG := SAD hG hF1
    refine lv_aload_n hx hb d_C_calculate_91 rfl (lv_at hl 0 rfl) ?_
    refine va_get (D := D) (ci := 0) (v := .ref (o + 18)) (C := "WideNumbers") (T := F_C) (N := 7) hx hb htw inC hown hK hO.1 0 rfl rfl 1 (by decide) (htw _ kw_21) (fun _ h9 => h9) rfl d_C_calculate_92 ?_
    refine lv_aload_n hx hb d_C_calculate_95 rfl (lv_at hl 0 rfl) ?_
    refine va_get (D := D) (ci := 0) (v := .ref (o + 22)) (C := "WideNumbers") (T := F_C) (N := 7) hx hb htw inC hown hK hO.1 0 rfl rfl 5 (by decide) (htw _ kw_25) (fun _ h9 => h9) rfl d_C_calculate_96 ?_
    refine x_callv (A := CA o) (va_runS (As := [.ref (o + 18), .ref (o + 22)]) (rest := []) ⟨hx, hb, hml, hown, htw⟩ (c_copy l D cJ cI cQ cR (o + 18) (o + 22) 16 (vx / vy) f18 f1 (by decide) (by omega) (fun j hj => hN1 j (by omega))) (xcS 2 htw kw_179 kw_1 kw_177 kw_178 rfl rfl ⟨by decide, by decide, by decide +kernel⟩ ⟨Nat.le_of_ble_eq_true rfl, Nat.le_of_ble_eq_true rfl⟩) (xPre hK ⟨h_18, h_22⟩) rfl rfl hl.1 rfl (lv_room (Nat.le_of_ble_eq_true rfl)) d_C_calculate_99 ⟨Nat.le_of_ble_eq_true rfl, Nat.le_of_ble_eq_true rfl⟩) hlo (fun q h => by rcases h with h | h <;> (rw [h]; exact ⟨by omega, by omega⟩)) (fun H2 locs2 hB2 hlo => ?_)
    obtain ⟨hF2, f2, hf2, hN2⟩ := hB2
    have h_18 := hf2
    have h_19 := hL_f h_19 hF2 (show o + 19 ≠ o + 18 by omega)
    have h_20 := hL_f h_20 hF2 (show o + 20 ≠ o + 18 by omega)
    have h_21 := hL_f h_21 hF2 (show o + 21 ≠ o + 18 by omega)
    have h_22 := hL_f h_22 hF2 (show o + 22 ≠ o + 18 by omega)
    have h_23 := hL_f h_23 hF2 (show o + 23 ≠ o + 18 by omega)
    have h_X := hL_f h_X hF2 (show x ≠ o + 18 by omega)
    have h_Y := hL_f h_Y hF2 (show y ≠ o + 18 by omega)
    have hO := hO.f1 hF2 (by omega)
    have hG := SA1 hG hF2 (by omega)
    refine lv_goto (tgt := 194) hx hb d_C_calculate_102 (by decide) ?_
    exact W.vret hx hb hr (fun t ht hW => ⟨rfl, by rw [ht]; exact hG, by rw [ht]; exact ⟨⟨_, h_18⟩, ⟨_, h_19⟩, ⟨_, h_20⟩, ⟨_, h_21⟩, ⟨_, h_22⟩, ⟨_, h_23⟩⟩, _, by rw [ht]; exact h_18, hN2⟩) hlo d_C_calculate_194
  · refine lv_iload_n hx hb d_C_calculate_0 rfl (lv_at hl 1 rfl) ?_
    refine lv_tableIn (off := 104) (tgt := 105) hx hb d_C_calculate_1 (by decide) (by decide) (by decide) (by decide) ?_
    refine lv_aload_n hx hb d_C_calculate_105 rfl (lv_at hl 0 rfl) ?_
    refine lv_aload_n hx hb d_C_calculate_106 rfl (lv_at hl 2 rfl) ?_
    refine lv_aload_n hx hb d_C_calculate_107 rfl (lv_at hl 3 rfl) ?_
    refine x_callv (A := CA o) (va_runV (As := [.ref x, .ref y]) (rest := []) ⟨hx, hb, hml, hown, htw⟩ (c_divide l D cJ cI cQ cR o x y 8 vx vy f22 f23 fx fy (Or.inl rfl) (nDA (by omega)) (nDA (by omega)) hvx hvy hNx hNy) (xcV 2 htw kw_160 kw_1 kw_157 kw_159 ks_C_divide rfl rfl ⟨by decide, by decide, by decide +kernel⟩ ⟨Nat.le_of_ble_eq_true rfl, Nat.le_of_ble_eq_true rfl⟩) (xPreV hK (hO.rv hK) ⟨hO, h_22, h_23, h_X, h_Y⟩) rfl rfl hl.1 rfl (lv_room (Nat.le_of_ble_eq_true rfl)) d_C_calculate_108 ⟨Nat.le_of_ble_eq_true rfl, Nat.le_of_ble_eq_true rfl⟩) hlo (fun q h => by rcases h with h | h <;> (rw [h]; exact ⟨by omega, by omega⟩)) (fun H1 locs1 hB1 hlo => ?_)
    obtain ⟨hF1, f1, g1, hf1, hN1, hg1, hM1⟩ := hB1
    have h_18 := hL_f h_18 hF1 (nDA (by omega))
    have h_19 := hL_f h_19 hF1 (nDA (by omega))
    have h_20 := hL_f h_20 hF1 (nDA (by omega))
    have h_21 := hL_f h_21 hF1 (nDA (by omega))
    have h_22 := hf1
    have h_23 := hg1
    have h_X := hL_f h_X hF1 (nDA (by omega))
    have h_Y := hL_f h_Y hF1 (nDA (by omega))
    have hO := hO.fD hF1
    have hG := SAD hG hF1
    refine lv_aload_n hx hb d_C_calculate_111 rfl (lv_at hl 0 rfl) ?_
    refine va_get (D := D) (ci := 0) (v := .ref (o + 18)) (C := "WideNumbers") (T := F_C) (N := 7) hx hb htw inC hown hK hO.1 0 rfl rfl 1 (by decide) (htw _ kw_21) (fun _ h9 => h9) rfl d_C_calculate_112 ?_
    refine lv_aload_n hx hb d_C_calculate_115 rfl (lv_at hl 0 rfl) ?_
    refine va_get (D := D) (ci := 0) (v := .ref (o + 23)) (C := "WideNumbers") (T := F_C) (N := 7) hx hb htw inC hown hK hO.1 0 rfl rfl 6 (by decide) (htw _ kw_26) (fun _ h9 => h9) rfl d_C_calculate_116 ?_
    refine x_callv (A := CA o) (va_runS (As := [.ref (o + 18), .ref (o + 23)]) (rest := []) ⟨hx, hb, hml, hown, htw⟩ (c_copy l D cJ cI cQ cR (o + 18) (o + 23) 8 (if vy = 0 then 0 else vx % vy) f18 g1 (by decide) (by omega) hM1) (xcS 2 htw kw_179 kw_1 kw_177 kw_178 rfl rfl ⟨by decide, by decide, by decide +kernel⟩ ⟨Nat.le_of_ble_eq_true rfl, Nat.le_of_ble_eq_true rfl⟩) (xPre hK ⟨h_18, h_23⟩) rfl rfl hl.1 rfl (lv_room (Nat.le_of_ble_eq_true rfl)) d_C_calculate_119 ⟨Nat.le_of_ble_eq_true rfl, Nat.le_of_ble_eq_true rfl⟩) hlo (fun q h => by rcases h with h | h <;> (rw [h]; exact ⟨by omega, by omega⟩)) (fun H2 locs2 hB2 hlo => ?_)
    obtain ⟨hF2, f2, hf2, hN2⟩ := hB2
    have h_18 := hf2
    have h_19 := hL_f h_19 hF2 (show o + 19 ≠ o + 18 by omega)
    have h_20 := hL_f h_20 hF2 (show o + 20 ≠ o + 18 by omega)
    have h_21 := hL_f h_21 hF2 (show o + 21 ≠ o + 18 by omega)
    have h_22 := hL_f h_22 hF2 (show o + 22 ≠ o + 18 by omega)
    have h_23 := hL_f h_23 hF2 (show o + 23 ≠ o + 18 by omega)
    have h_X := hL_f h_X hF2 (show x ≠ o + 18 by omega)
    have h_Y := hL_f h_Y hF2 (show y ≠ o + 18 by omega)
    have hO := hO.f1 hF2 (by omega)
    have hG := SA1 hG hF2 (by omega)
    refine lv_goto (tgt := 194) hx hb d_C_calculate_122 (by decide) ?_
    exact W.vret hx hb hr (fun t ht hW => ⟨rfl, by rw [ht]; exact hG, by rw [ht]; exact ⟨⟨_, h_18⟩, ⟨_, h_19⟩, ⟨_, h_20⟩, ⟨_, h_21⟩, ⟨_, h_22⟩, ⟨_, h_23⟩⟩, _, by rw [ht]; exact h_18, hN2⟩) hlo d_C_calculate_194
  · refine lv_iload_n hx hb d_C_calculate_0 rfl (lv_at hl 1 rfl) ?_
    refine lv_tableIn (off := 124) (tgt := 125) hx hb d_C_calculate_1 (by decide) (by decide) (by decide) (by decide) ?_
    refine lv_aload_n hx hb d_C_calculate_125 rfl (lv_at hl 0 rfl) ?_
    refine lv_aload_n hx hb d_C_calculate_126 rfl (lv_at hl 2 rfl) ?_
    refine lv_aload_n hx hb d_C_calculate_127 rfl (lv_at hl 3 rfl) ?_
    refine x_callv (A := CA o) (va_runV (As := [.ref x, .ref y]) (rest := []) ⟨hx, hb, hml, hown, htw⟩ (c_divideSizes l D cJ cI cQ cR o x y vx vy fx fy hxr hyr hvx hvy hNx hNy) (xcV 2 htw kw_186 kw_1 kw_183 kw_185 ks_C_divideSizes rfl rfl ⟨by decide, by decide, by decide +kernel⟩ ⟨Nat.le_of_ble_eq_true rfl, Nat.le_of_ble_eq_true rfl⟩) (xPreV hK (hO.rv hK) ⟨hO, ⟨⟨_, h_18⟩, ⟨_, h_19⟩, ⟨_, h_20⟩, ⟨_, h_21⟩, ⟨_, h_22⟩, ⟨_, h_23⟩⟩, h_X, h_Y⟩) rfl rfl hl.1 rfl (lv_room (Nat.le_of_ble_eq_true rfl)) d_C_calculate_128 ⟨Nat.le_of_ble_eq_true rfl, Nat.le_of_ble_eq_true rfl⟩) hlo (fun _ h => h) (fun H1 locs1 hB1 hlo => ?_)
    obtain ⟨hF1, ⟨⟨g18, h18⟩, ⟨g19, h19⟩, ⟨g20, h20⟩, ⟨g21, h21⟩, -, -⟩, f1, g1, hf1, hN1, hg1, hM1⟩ := hB1
    have h_18 := h18
    have h_19 := h19
    have h_20 := h20
    have h_21 := h21
    have h_22 := hf1
    have h_23 := hg1
    have h_X := hL_f h_X hF1 (nSA (by omega))
    have h_Y := hL_f h_Y hF1 (nSA (by omega))
    have hO := hO.fS hF1
    have hG := SAS hG hF1
    have hql : ab vx / ab vy < 2 ^ 256 := Nat.lt_of_le_of_lt (Nat.div_le_self _ _) (ab_lt hvx)
    have hrl : (if ab vy = 0 then 0 else ab vx % ab vy) < 2 ^ 256 := by
      split
      · exact pw_pos 256
      · exact Nat.lt_of_le_of_lt (Nat.mod_le _ _) (ab_lt hvx)
    refine lv_aload_n hx hb d_C_calculate_131 rfl (lv_at hl 0 rfl) ?_
    refine va_get (D := D) (ci := 0) (v := .ref (o + 18)) (C := "WideNumbers") (T := F_C) (N := 7) hx hb htw inC hown hK hO.1 0 rfl rfl 1 (by decide) (htw _ kw_21) (fun _ h9 => h9) rfl d_C_calculate_132 ?_
    refine lv_aload_n hx hb d_C_calculate_135 rfl (lv_at hl 0 rfl) ?_
    refine va_get (D := D) (ci := 0) (v := .ref (o + 22)) (C := "WideNumbers") (T := F_C) (N := 7) hx hb htw inC hown hK hO.1 0 rfl rfl 5 (by decide) (htw _ kw_25) (fun _ h9 => h9) rfl d_C_calculate_136 ?_
    refine lv_aload_n hx hb d_C_calculate_139 rfl (lv_at hl 2 rfl) ?_
    refine x_calli (A := CA o) (va_runS (As := [.ref x]) (rest := [.ref (o + 22), .ref (o + 18)]) ⟨hx, hb, hml, hown, htw⟩ (c_isNegative l D cJ cI cQ cR x vx fx hvx hNx) (xcS 1 htw kw_189 kw_1 kw_187 kw_188 rfl rfl ⟨by decide, by decide, by decide +kernel⟩ ⟨Nat.le_of_ble_eq_true rfl, Nat.le_of_ble_eq_true rfl⟩) (xPre hK h_X) rfl rfl hl.1 rfl (lv_room (Nat.le_of_ble_eq_true rfl)) d_C_calculate_140 ⟨Nat.le_of_ble_eq_true rfl, Nat.le_of_ble_eq_true rfl⟩) hlo (fun _ h => h.elim) (fun r2 H2 locs2 hB2 hlo => ?_)
    obtain ⟨rfl, rfl⟩ := hB2
    refine lv_aload_n hx hb d_C_calculate_143 rfl (lv_at hl 3 rfl) ?_
    refine x_calli (A := CA o) (va_runS (As := [.ref y]) (rest := [.int (if 2 ^ 255 ≤ vx then 1 else 0), .ref (o + 22), .ref (o + 18)]) ⟨hx, hb, hml, hown, htw⟩ (c_isNegative l D cJ cI cQ cR y vy fy hvy hNy) (xcS 1 htw kw_189 kw_1 kw_187 kw_188 rfl rfl ⟨by decide, by decide, by decide +kernel⟩ ⟨Nat.le_of_ble_eq_true rfl, Nat.le_of_ble_eq_true rfl⟩) (xPre hK h_Y) rfl rfl hl.1 rfl (lv_room (Nat.le_of_ble_eq_true rfl)) d_C_calculate_144 ⟨Nat.le_of_ble_eq_true rfl, Nat.le_of_ble_eq_true rfl⟩) hlo (fun _ h => h.elim) (fun r3 H3 locs3 hB3 hlo => ?_)
    obtain ⟨rfl, rfl⟩ := hB3
    refine lv_icmp_eq (tgt := 154) hx hb d_C_calculate_147 (by decide) (fun hc => ?_) (fun hc => ?_)
    · refine lv_iconst (v := nI 0) hx hb d_C_calculate_154 (by decide) ?_
      refine x_callv (A := CA o) (va_runS (As := [.ref (o + 18), .ref (o + 22), .int (nI 0)]) (rest := []) ⟨hx, hb, hml, hown, htw⟩ (c_copyWithSign l D cJ cI cQ cR (o + 18) (o + 22) 16 (ab vx / ab vy) (nI 0) g18 f1 (by decide) (by omega) hql (fun j hj => hN1 j (by omega))) (xcS 3 htw kw_192 kw_1 kw_190 kw_191 rfl rfl ⟨by decide, by decide, by decide +kernel⟩ ⟨Nat.le_of_ble_eq_true rfl, Nat.le_of_ble_eq_true rfl⟩) (xPre hK ⟨h_18, h_22⟩) rfl rfl hl.1 rfl (lv_room (Nat.le_of_ble_eq_true rfl)) d_C_calculate_155 ⟨Nat.le_of_ble_eq_true rfl, Nat.le_of_ble_eq_true rfl⟩) hlo (fun q h => by rcases h with h | h <;> (rw [h]; exact ⟨by omega, by omega⟩)) (fun H4 locs4 hB4 hlo => ?_)
      obtain ⟨hF4, f4, hf4, hN4⟩ := hB4
      rw [if_pos nI_0] at hN4
      have hv : ab vx / ab vy = sdv vx vy := by
        unfold sdv
        rw [if_pos]
        by_cases h1 : 2 ^ 255 ≤ vx
        · by_cases h2 : 2 ^ 255 ≤ vy
          · rw [decide_eq_true h1, decide_eq_true h2]
          · rw [if_pos h1, if_neg h2] at hc
            exact absurd hc (by decide)
        · by_cases h2 : 2 ^ 255 ≤ vy
          · rw [if_neg h1, if_pos h2] at hc
            exact absurd hc (by decide)
          · rw [decide_eq_false h1, decide_eq_false h2]
      rw [hv] at hN4
      have h_18 := hf4
      have h_19 := hL_f h_19 hF4 (show o + 19 ≠ o + 18 by omega)
      have h_20 := hL_f h_20 hF4 (show o + 20 ≠ o + 18 by omega)
      have h_21 := hL_f h_21 hF4 (show o + 21 ≠ o + 18 by omega)
      have h_22 := hL_f h_22 hF4 (show o + 22 ≠ o + 18 by omega)
      have h_23 := hL_f h_23 hF4 (show o + 23 ≠ o + 18 by omega)
      have h_X := hL_f h_X hF4 (show x ≠ o + 18 by omega)
      have h_Y := hL_f h_Y hF4 (show y ≠ o + 18 by omega)
      have hO := hO.f1 hF4 (by omega)
      have hG := SA1 hG hF4 (by omega)
      refine lv_goto (tgt := 194) hx hb d_C_calculate_158 (by decide) ?_
      exact W.vret hx hb hr (fun t ht hW => ⟨rfl, by rw [ht]; exact hG, by rw [ht]; exact ⟨⟨_, h_18⟩, ⟨_, h_19⟩, ⟨_, h_20⟩, ⟨_, h_21⟩, ⟨_, h_22⟩, ⟨_, h_23⟩⟩, _, by rw [ht]; exact h_18, hN4⟩) hlo d_C_calculate_194
    · refine lv_iconst (v := nI 1) hx hb d_C_calculate_150 (by decide) ?_
      refine lv_goto (tgt := 155) hx hb d_C_calculate_151 (by decide) ?_
      refine x_callv (A := CA o) (va_runS (As := [.ref (o + 18), .ref (o + 22), .int (nI 1)]) (rest := []) ⟨hx, hb, hml, hown, htw⟩ (c_copyWithSign l D cJ cI cQ cR (o + 18) (o + 22) 16 (ab vx / ab vy) (nI 1) g18 f1 (by decide) (by omega) hql (fun j hj => hN1 j (by omega))) (xcS 3 htw kw_192 kw_1 kw_190 kw_191 rfl rfl ⟨by decide, by decide, by decide +kernel⟩ ⟨Nat.le_of_ble_eq_true rfl, Nat.le_of_ble_eq_true rfl⟩) (xPre hK ⟨h_18, h_22⟩) rfl rfl hl.1 rfl (lv_room (Nat.le_of_ble_eq_true rfl)) d_C_calculate_155 ⟨Nat.le_of_ble_eq_true rfl, Nat.le_of_ble_eq_true rfl⟩) hlo (fun q h => by rcases h with h | h <;> (rw [h]; exact ⟨by omega, by omega⟩)) (fun H4 locs4 hB4 hlo => ?_)
      obtain ⟨hF4, f4, hf4, hN4⟩ := hB4
      rw [if_neg (by decide)] at hN4
      have hv : (2 ^ 256 - ab vx / ab vy) % 2 ^ 256 = sdv vx vy := by
        unfold sdv
        rw [if_neg]
        intro h
        apply hc
        by_cases h1 : 2 ^ 255 ≤ vx
        · have h2 : 2 ^ 255 ≤ vy := of_decide_eq_true (h.symm.trans (decide_eq_true h1))
          rw [if_pos h1, if_pos h2]
        · have h2 : ¬ 2 ^ 255 ≤ vy := of_decide_eq_false (h.symm.trans (decide_eq_false h1))
          rw [if_neg h1, if_neg h2]
      rw [hv] at hN4
      have h_18 := hf4
      have h_19 := hL_f h_19 hF4 (show o + 19 ≠ o + 18 by omega)
      have h_20 := hL_f h_20 hF4 (show o + 20 ≠ o + 18 by omega)
      have h_21 := hL_f h_21 hF4 (show o + 21 ≠ o + 18 by omega)
      have h_22 := hL_f h_22 hF4 (show o + 22 ≠ o + 18 by omega)
      have h_23 := hL_f h_23 hF4 (show o + 23 ≠ o + 18 by omega)
      have h_X := hL_f h_X hF4 (show x ≠ o + 18 by omega)
      have h_Y := hL_f h_Y hF4 (show y ≠ o + 18 by omega)
      have hO := hO.f1 hF4 (by omega)
      have hG := SA1 hG hF4 (by omega)
      refine lv_goto (tgt := 194) hx hb d_C_calculate_158 (by decide) ?_
      exact W.vret hx hb hr (fun t ht hW => ⟨rfl, by rw [ht]; exact hG, by rw [ht]; exact ⟨⟨_, h_18⟩, ⟨_, h_19⟩, ⟨_, h_20⟩, ⟨_, h_21⟩, ⟨_, h_22⟩, ⟨_, h_23⟩⟩, _, by rw [ht]; exact h_18, hN4⟩) hlo d_C_calculate_194
  · refine lv_iload_n hx hb d_C_calculate_0 rfl (lv_at hl 1 rfl) ?_
    refine lv_tableIn (off := 160) (tgt := 161) hx hb d_C_calculate_1 (by decide) (by decide) (by decide) (by decide) ?_
    refine lv_aload_n hx hb d_C_calculate_161 rfl (lv_at hl 0 rfl) ?_
    refine lv_aload_n hx hb d_C_calculate_162 rfl (lv_at hl 2 rfl) ?_
    refine lv_aload_n hx hb d_C_calculate_163 rfl (lv_at hl 3 rfl) ?_
    refine x_callv (A := CA o) (va_runV (As := [.ref x, .ref y]) (rest := []) ⟨hx, hb, hml, hown, htw⟩ (c_divideSizes l D cJ cI cQ cR o x y vx vy fx fy hxr hyr hvx hvy hNx hNy) (xcV 2 htw kw_186 kw_1 kw_183 kw_185 ks_C_divideSizes rfl rfl ⟨by decide, by decide, by decide +kernel⟩ ⟨Nat.le_of_ble_eq_true rfl, Nat.le_of_ble_eq_true rfl⟩) (xPreV hK (hO.rv hK) ⟨hO, ⟨⟨_, h_18⟩, ⟨_, h_19⟩, ⟨_, h_20⟩, ⟨_, h_21⟩, ⟨_, h_22⟩, ⟨_, h_23⟩⟩, h_X, h_Y⟩) rfl rfl hl.1 rfl (lv_room (Nat.le_of_ble_eq_true rfl)) d_C_calculate_164 ⟨Nat.le_of_ble_eq_true rfl, Nat.le_of_ble_eq_true rfl⟩) hlo (fun _ h => h) (fun H1 locs1 hB1 hlo => ?_)
    obtain ⟨hF1, ⟨⟨g18, h18⟩, ⟨g19, h19⟩, ⟨g20, h20⟩, ⟨g21, h21⟩, -, -⟩, f1, g1, hf1, hN1, hg1, hM1⟩ := hB1
    have h_18 := h18
    have h_19 := h19
    have h_20 := h20
    have h_21 := h21
    have h_22 := hf1
    have h_23 := hg1
    have h_X := hL_f h_X hF1 (nSA (by omega))
    have h_Y := hL_f h_Y hF1 (nSA (by omega))
    have hO := hO.fS hF1
    have hG := SAS hG hF1
    have hql : ab vx / ab vy < 2 ^ 256 := Nat.lt_of_le_of_lt (Nat.div_le_self _ _) (ab_lt hvx)
    have hrl : (if ab vy = 0 then 0 else ab vx % ab vy) < 2 ^ 256 := by
      split
      · exact pw_pos 256
      · exact Nat.lt_of_le_of_lt (Nat.mod_le _ _) (ab_lt hvx)
    refine lv_aload_n hx hb d_C_calculate_167 rfl (lv_at hl 0 rfl) ?_
    refine va_get (D := D) (ci := 0) (v := .ref (o + 18)) (C := "WideNumbers") (T := F_C) (N := 7) hx hb htw inC hown hK hO.1 0 rfl rfl 1 (by decide) (htw _ kw_21) (fun _ h9 => h9) rfl d_C_calculate_168 ?_
    refine lv_aload_n hx hb d_C_calculate_171 rfl (lv_at hl 0 rfl) ?_
    refine va_get (D := D) (ci := 0) (v := .ref (o + 23)) (C := "WideNumbers") (T := F_C) (N := 7) hx hb htw inC hown hK hO.1 0 rfl rfl 6 (by decide) (htw _ kw_26) (fun _ h9 => h9) rfl d_C_calculate_172 ?_
    refine lv_aload_n hx hb d_C_calculate_175 rfl (lv_at hl 2 rfl) ?_
    refine x_calli (A := CA o) (va_runS (As := [.ref x]) (rest := [.ref (o + 23), .ref (o + 18)]) ⟨hx, hb, hml, hown, htw⟩ (c_isNegative l D cJ cI cQ cR x vx fx hvx hNx) (xcS 1 htw kw_189 kw_1 kw_187 kw_188 rfl rfl ⟨by decide, by decide, by decide +kernel⟩ ⟨Nat.le_of_ble_eq_true rfl, Nat.le_of_ble_eq_true rfl⟩) (xPre hK h_X) rfl rfl hl.1 rfl (lv_room (Nat.le_of_ble_eq_true rfl)) d_C_calculate_176 ⟨Nat.le_of_ble_eq_true rfl, Nat.le_of_ble_eq_true rfl⟩) hlo (fun _ h => h.elim) (fun r2 H2 locs2 hB2 hlo => ?_)
    obtain ⟨rfl, rfl⟩ := hB2
    refine x_callv (A := CA o) (va_runS (As := [.ref (o + 18), .ref (o + 23), .int (if 2 ^ 255 ≤ vx then 1 else 0)]) (rest := []) ⟨hx, hb, hml, hown, htw⟩ (c_copyWithSign l D cJ cI cQ cR (o + 18) (o + 23) 8 (if ab vy = 0 then 0 else ab vx % ab vy) (if 2 ^ 255 ≤ vx then 1 else 0) g18 g1 (by decide) (by omega) hrl hM1) (xcS 3 htw kw_192 kw_1 kw_190 kw_191 rfl rfl ⟨by decide, by decide, by decide +kernel⟩ ⟨Nat.le_of_ble_eq_true rfl, Nat.le_of_ble_eq_true rfl⟩) (xPre hK ⟨h_18, h_23⟩) rfl rfl hl.1 rfl (lv_room (Nat.le_of_ble_eq_true rfl)) d_C_calculate_179 ⟨Nat.le_of_ble_eq_true rfl, Nat.le_of_ble_eq_true rfl⟩) hlo (fun q h => by rcases h with h | h <;> (rw [h]; exact ⟨by omega, by omega⟩)) (fun H3 locs3 hB3 hlo => ?_)
    obtain ⟨hF3, f3, hf3, hN3⟩ := hB3
    have hv : (if (if 2 ^ 255 ≤ vx then (1 : Int32) else 0) = 0 then (if ab vy = 0 then 0 else ab vx % ab vy) else (2 ^ 256 - (if ab vy = 0 then 0 else ab vx % ab vy)) % 2 ^ 256) = srm vx vy := by
      unfold srm
      by_cases h : 2 ^ 255 ≤ vx
      · rw [if_pos h, if_pos h, if_neg (by decide)]
      · rw [if_neg h, if_neg h, if_pos rfl]
    rw [hv] at hN3
    have h_18 := hf3
    have h_19 := hL_f h_19 hF3 (show o + 19 ≠ o + 18 by omega)
    have h_20 := hL_f h_20 hF3 (show o + 20 ≠ o + 18 by omega)
    have h_21 := hL_f h_21 hF3 (show o + 21 ≠ o + 18 by omega)
    have h_22 := hL_f h_22 hF3 (show o + 22 ≠ o + 18 by omega)
    have h_23 := hL_f h_23 hF3 (show o + 23 ≠ o + 18 by omega)
    have h_X := hL_f h_X hF3 (show x ≠ o + 18 by omega)
    have h_Y := hL_f h_Y hF3 (show y ≠ o + 18 by omega)
    have hO := hO.f1 hF3 (by omega)
    have hG := SA1 hG hF3 (by omega)
    refine lv_goto (tgt := 194) hx hb d_C_calculate_182 (by decide) ?_
    exact W.vret hx hb hr (fun t ht hW => ⟨rfl, by rw [ht]; exact hG, by rw [ht]; exact ⟨⟨_, h_18⟩, ⟨_, h_19⟩, ⟨_, h_20⟩, ⟨_, h_21⟩, ⟨_, h_22⟩, ⟨_, h_23⟩⟩, _, by rw [ht]; exact h_18, hN3⟩) hlo d_C_calculate_194
  · refine lv_iload_n hx hb d_C_calculate_0 rfl (lv_at hl 1 rfl) ?_
    refine lv_tableIn (off := 184) (tgt := 185) hx hb d_C_calculate_1 (by decide) (by decide) (by decide) (by decide) ?_
    refine lv_aload_n hx hb d_C_calculate_185 rfl (lv_at hl 0 rfl) ?_
    refine lv_aload_n hx hb d_C_calculate_186 rfl (lv_at hl 2 rfl) ?_
    refine lv_aload_n hx hb d_C_calculate_187 rfl (lv_at hl 3 rfl) ?_
    refine x_callv (A := CA o) (va_runV (As := [.ref x, .ref y]) (rest := []) ⟨hx, hb, hml, hown, htw⟩ (c_raise l D cJ cI cQ cR o x y vx vy fx fy hxr hyr hvx hvy hNx hNy) (xcV 2 htw kw_199 kw_1 kw_196 kw_198 ks_C_raise rfl rfl ⟨by decide, by decide, by decide +kernel⟩ ⟨Nat.le_of_ble_eq_true rfl, Nat.le_of_ble_eq_true rfl⟩) (xPreV hK (hO.rv hK) ⟨hO, ⟨⟨_, h_18⟩, ⟨_, h_19⟩, ⟨_, h_20⟩, ⟨_, h_21⟩, ⟨_, h_22⟩, ⟨_, h_23⟩⟩, h_X, h_Y⟩) rfl rfl hl.1 rfl (lv_room (Nat.le_of_ble_eq_true rfl)) d_C_calculate_188 ⟨Nat.le_of_ble_eq_true rfl, Nat.le_of_ble_eq_true rfl⟩) hlo (fun _ h => h) (fun H1 locs1 hB1 hlo => ?_)
    obtain ⟨hF1, hSC1, f1, hf1, hN1⟩ := hB1
    refine lv_goto (tgt := 194) hx hb d_C_calculate_191 (by decide) ?_
    exact W.vret hx hb hr (fun t ht hW => ⟨rfl, by rw [ht]; exact SAS hG hF1, by rw [ht]; exact hSC1, f1, by rw [ht]; exact hf1, hN1⟩) hlo d_C_calculate_194
set_option maxHeartbeats 4000000 in
set_option maxRecDepth 100000 in
theorem c_arrangeBits (l : Launch) (D : va_G) (cJ cI cQ cR : ClassId) (op : Nat) (hop : 8 ≤ op ∧ op ≤ 15) (o x y vx vy : Nat) (fx fy : Nat → Int64) (hxr : o + 2 ≤ x ∧ x < o + 18) (hyr : o + 2 ≤ y ∧ y < o + 18) (hvx : vx < 2 ^ 256) (hvy : vy < 2 ^ 256) (hNx : NL fx 8 vx) (hNy : NL fy 8 vy) : Met l y_C_arrangeBits w_C_arrangeBits { frames := 4, cells := 0, slots := 0, locals := 87 } (xP D vwCl (TY cJ cI cQ cR) [.ref o, .int (nI op), .ref x, .ref y] (fun H => CB D cQ o H ∧ SC cJ o H ∧ hL H cJ x 8 fx ∧ hL H cJ y 8 fy)) (xQv (fun H0 H => XF (SA o) H0 H ∧ SC cJ o H ∧ ∃ (f : Nat → Int64), hL H cJ (o + 18) 8 f ∧ NL f 8 (opv op vx vy))) 0 0 (CA o) := by
  refine Met.ofW (cc := b_C_arrangeBits) (maxL := 4) (ret := none) (by decide) rfl ?_
  intro p e s m args below meth c s₁ B hml hv
  obtain ⟨rfl, hK, ⟨hO, hSC, h_X, h_Y⟩⟩ := hv
  have hx := B.exec
  have hb := B.bytes
  have hr := B.returns
  have hts := atoms_spec (ws := w_C_arrangeBits) B.pre
  have htw : ∀ w ∈ WT, w.before _ s = true := fun w h => hts w (List.mem_cons_of_mem _ h)
  have hown : s.vm.findClass "WideNumbers" = some m.cls := findClass_of_methodNamed B.named
  have hlocks := B.notSynchronized
  have hJ : ArrOfT s cJ .long := (hK.2 0 _ rfl).1
  have hI9 : ArrOfT s cI .int := (hK.2 1 _ rfl).1
  have hl := lv_entry ([.ref o, .int (nI op), .ref x, .ref y]) (n := 4) (Nat.le_of_ble_eq_true rfl)
  rw [lg_entry_eq]
  generalize (lg_sl ([.ref o, .int (nI op), .ref x, .ref y]) ++ List.replicate (4 - (lg_sl ([.ref o, .int (nI op), .ref x, .ref y])).length) Slot.unset).toArray = ls at hl ⊢
  have hl : lv_has ls 4 [(0, .ref o), (1, .int (nI op)), (2, .ref x), (3, .ref y)] := hl
  obtain ⟨⟨f18, h_18⟩, ⟨f19, h_19⟩, ⟨f20, h_20⟩, ⟨f21, h_21⟩, ⟨f22, h_22⟩, ⟨f23, h_23⟩⟩ := hSC
  have hG : XF (SA o) s.heap s.heap := XF.rf
  have hlo : ∀ q ∈ ([] : List Loc), CA o q.base := fun _ h => nomatch h
  rcases (show op = 8 ∨ op = 9 ∨ op = 10 ∨ op = 11 ∨ op = 12 ∨ op = 13 ∨ op = 14 ∨ op = 15 by omega) with rfl | rfl | rfl | rfl | rfl | rfl | rfl | rfl
  · refine lv_iload_n hx hb d_C_arrangeBits_0 rfl (lv_at hl 1 rfl) ?_
    refine lv_tableIn (off := 47) (tgt := 48) hx hb d_C_arrangeBits_1 (by decide) (by decide) (by decide) (by decide) ?_
    refine lv_aload_n hx hb d_C_arrangeBits_48 rfl (lv_at hl 0 rfl) ?_
    refine lv_aload_n hx hb d_C_arrangeBits_49 rfl (lv_at hl 2 rfl) ?_
    refine lv_aload_n hx hb d_C_arrangeBits_50 rfl (lv_at hl 3 rfl) ?_
    refine x_callv (A := CA o) (va_runV (As := [.ref x, .ref y]) (rest := []) ⟨hx, hb, hml, hown, htw⟩ (c_extendSign l D cJ cI cQ cR o x y vx vy fx fy hxr hyr hvx hvy hNx hNy) (xcV 2 htw kw_207 kw_1 kw_204 kw_206 ks_C_extendSign rfl rfl ⟨by decide, by decide, by decide +kernel⟩ ⟨Nat.le_of_ble_eq_true rfl, Nat.le_of_ble_eq_true rfl⟩) (xPreV hK (hO.rv hK) ⟨hO, ⟨⟨_, h_18⟩, ⟨_, h_19⟩, ⟨_, h_20⟩, ⟨_, h_21⟩, ⟨_, h_22⟩, ⟨_, h_23⟩⟩, h_X, h_Y⟩) rfl rfl hl.1 rfl (lv_room (Nat.le_of_ble_eq_true rfl)) d_C_arrangeBits_51 ⟨Nat.le_of_ble_eq_true rfl, Nat.le_of_ble_eq_true rfl⟩) hlo (fun _ h => h) (fun H1 locs1 hB1 hlo => ?_)
    obtain ⟨hF1, hSC1, f1, hf1, hN1⟩ := hB1
    refine lv_goto (tgt := 161) hx hb d_C_arrangeBits_54 (by decide) ?_
    exact W.vret hx hb hr (fun t ht hW => ⟨rfl, by rw [ht]; exact SAS hG hF1, by rw [ht]; exact hSC1, f1, by rw [ht]; exact hf1, hN1⟩) hlo d_C_arrangeBits_161
  · refine lv_iload_n hx hb d_C_arrangeBits_0 rfl (lv_at hl 1 rfl) ?_
    refine lv_tableIn (off := 56) (tgt := 57) hx hb d_C_arrangeBits_1 (by decide) (by decide) (by decide) (by decide) ?_
    refine lv_aload_n hx hb d_C_arrangeBits_57 rfl (lv_at hl 0 rfl) ?_
    refine va_get (D := D) (ci := 0) (v := .ref (o + 18)) (C := "WideNumbers") (T := F_C) (N := 7) hx hb htw inC hown hK hO.1 0 rfl rfl 1 (by decide) (htw _ kw_21) (fun _ h9 => h9) rfl d_C_arrangeBits_58 ?_
    refine lv_aload_n hx hb d_C_arrangeBits_61 rfl (lv_at hl 3 rfl) ?_
    refine lv_aload_n hx hb d_C_arrangeBits_62 rfl (lv_at hl 2 rfl) ?_
    refine lv_sipush (v := nI 256) hx hb d_C_arrangeBits_63 (by decide) ?_
    refine x_calli (A := CA o) (va_runS (As := [.ref x, .int (nI 256)]) (rest := [.ref y, .ref (o + 18)]) ⟨hx, hb, hml, hown, htw⟩ (c_valueUpTo l D cJ cI cQ cR x vx 256 fx hvx (by decide) hNx) (xcS 2 htw kw_210 kw_1 kw_208 kw_209 rfl rfl ⟨by decide, by decide, by decide +kernel⟩ ⟨Nat.le_of_ble_eq_true rfl, Nat.le_of_ble_eq_true rfl⟩) (xPre hK h_X) rfl rfl hl.1 rfl (lv_room (Nat.le_of_ble_eq_true rfl)) d_C_arrangeBits_66 ⟨Nat.le_of_ble_eq_true rfl, Nat.le_of_ble_eq_true rfl⟩) hlo (fun _ h => h.elim) (fun r1 H1 locs1 hB1 hlo => ?_)
    obtain ⟨rfl, rfl⟩ := hB1
    refine x_callv (A := CA o) (va_runS (As := [.ref (o + 18), .ref y, .int (nI (min vx 256))]) (rest := []) ⟨hx, hb, hml, hown, htw⟩ (c_moveLeft l D cJ cI cQ cR (o + 18) y vy (min vx 256) f18 fy (by omega) (by omega) hNy) (xcS 3 htw kw_213 kw_1 kw_211 kw_212 rfl rfl ⟨by decide, by decide, by decide +kernel⟩ ⟨Nat.le_of_ble_eq_true rfl, Nat.le_of_ble_eq_true rfl⟩) (xPre hK ⟨h_18, h_Y⟩) rfl rfl hl.1 rfl (lv_room (Nat.le_of_ble_eq_true rfl)) d_C_arrangeBits_69 ⟨Nat.le_of_ble_eq_true rfl, Nat.le_of_ble_eq_true rfl⟩) hlo (fun q h => by have h : q = o + 18 := h; rw [h]; exact ⟨by omega, by omega⟩) (fun H2 locs2 hB2 hlo => ?_)
    obtain ⟨hF2, f2, hf2, hN2⟩ := hB2
    have h_18 := hf2
    have h_19 := hL_f h_19 hF2 (show o + 19 ≠ o + 18 by omega)
    have h_20 := hL_f h_20 hF2 (show o + 20 ≠ o + 18 by omega)
    have h_21 := hL_f h_21 hF2 (show o + 21 ≠ o + 18 by omega)
    have h_22 := hL_f h_22 hF2 (show o + 22 ≠ o + 18 by omega)
    have h_23 := hL_f h_23 hF2 (show o + 23 ≠ o + 18 by omega)
    have h_X := hL_f h_X hF2 (show x ≠ o + 18 by omega)
    have h_Y := hL_f h_Y hF2 (show y ≠ o + 18 by omega)
    have hO := hO.f1 hF2 (by omega)
    have hG := SA1 hG hF2 (by omega)
    refine lv_goto (tgt := 161) hx hb d_C_arrangeBits_72 (by decide) ?_
    exact W.vret hx hb hr (fun t ht hW => ⟨rfl, by rw [ht]; exact hG, by rw [ht]; exact ⟨⟨_, h_18⟩, ⟨_, h_19⟩, ⟨_, h_20⟩, ⟨_, h_21⟩, ⟨_, h_22⟩, ⟨_, h_23⟩⟩, _, by rw [ht]; exact h_18, NL_m hN2⟩) hlo d_C_arrangeBits_161
  · refine lv_iload_n hx hb d_C_arrangeBits_0 rfl (lv_at hl 1 rfl) ?_
    refine lv_tableIn (off := 74) (tgt := 75) hx hb d_C_arrangeBits_1 (by decide) (by decide) (by decide) (by decide) ?_
    refine lv_aload_n hx hb d_C_arrangeBits_75 rfl (lv_at hl 0 rfl) ?_
    refine va_get (D := D) (ci := 0) (v := .ref (o + 18)) (C := "WideNumbers") (T := F_C) (N := 7) hx hb htw inC hown hK hO.1 0 rfl rfl 1 (by decide) (htw _ kw_21) (fun _ h9 => h9) rfl d_C_arrangeBits_76 ?_
    refine lv_aload_n hx hb d_C_arrangeBits_79 rfl (lv_at hl 3 rfl) ?_
    refine lv_aload_n hx hb d_C_arrangeBits_80 rfl (lv_at hl 2 rfl) ?_
    refine lv_sipush (v := nI 256) hx hb d_C_arrangeBits_81 (by decide) ?_
    refine x_calli (A := CA o) (va_runS (As := [.ref x, .int (nI 256)]) (rest := [.ref y, .ref (o + 18)]) ⟨hx, hb, hml, hown, htw⟩ (c_valueUpTo l D cJ cI cQ cR x vx 256 fx hvx (by decide) hNx) (xcS 2 htw kw_210 kw_1 kw_208 kw_209 rfl rfl ⟨by decide, by decide, by decide +kernel⟩ ⟨Nat.le_of_ble_eq_true rfl, Nat.le_of_ble_eq_true rfl⟩) (xPre hK h_X) rfl rfl hl.1 rfl (lv_room (Nat.le_of_ble_eq_true rfl)) d_C_arrangeBits_84 ⟨Nat.le_of_ble_eq_true rfl, Nat.le_of_ble_eq_true rfl⟩) hlo (fun _ h => h.elim) (fun r1 H1 locs1 hB1 hlo => ?_)
    obtain ⟨rfl, rfl⟩ := hB1
    refine lv_lconst (v := lN 0) hx hb d_C_arrangeBits_87 (by decide) ?_
    refine x_callv (A := CA o) (va_runS (As := [.ref (o + 18), .ref y, .int (nI (min vx 256)), .long (lN 0)]) (rest := []) ⟨hx, hb, hml, hown, htw⟩ (c_moveRight l D cJ cI cQ cR (o + 18) y vy (min vx 256) 0 vy f18 fy (by omega) (by decide) (by omega) hNy (fun _ _ => rfl) (fun k h1 _ => dg_big (Nat.lt_of_lt_of_le hvy (pw_le (by omega))))) (xcS 4 htw kw_222 kw_1 kw_220 kw_221 rfl rfl ⟨by decide, by decide, by decide +kernel⟩ ⟨Nat.le_of_ble_eq_true rfl, Nat.le_of_ble_eq_true rfl⟩) (xPre hK ⟨h_18, h_Y⟩) rfl rfl hl.1 rfl (lv_room (Nat.le_of_ble_eq_true rfl)) d_C_arrangeBits_88 ⟨Nat.le_of_ble_eq_true rfl, Nat.le_of_ble_eq_true rfl⟩) hlo (fun q h => by have h : q = o + 18 := h; rw [h]; exact ⟨by omega, by omega⟩) (fun H2 locs2 hB2 hlo => ?_)
    obtain ⟨hF2, f2, hf2, hN2⟩ := hB2
    have h_18 := hf2
    have h_19 := hL_f h_19 hF2 (show o + 19 ≠ o + 18 by omega)
    have h_20 := hL_f h_20 hF2 (show o + 20 ≠ o + 18 by omega)
    have h_21 := hL_f h_21 hF2 (show o + 21 ≠ o + 18 by omega)
    have h_22 := hL_f h_22 hF2 (show o + 22 ≠ o + 18 by omega)
    have h_23 := hL_f h_23 hF2 (show o + 23 ≠ o + 18 by omega)
    have h_X := hL_f h_X hF2 (show x ≠ o + 18 by omega)
    have h_Y := hL_f h_Y hF2 (show y ≠ o + 18 by omega)
    have hO := hO.f1 hF2 (by omega)
    have hG := SA1 hG hF2 (by omega)
    refine lv_goto (tgt := 161) hx hb d_C_arrangeBits_91 (by decide) ?_
    exact W.vret hx hb hr (fun t ht hW => ⟨rfl, by rw [ht]; exact hG, by rw [ht]; exact ⟨⟨_, h_18⟩, ⟨_, h_19⟩, ⟨_, h_20⟩, ⟨_, h_21⟩, ⟨_, h_22⟩, ⟨_, h_23⟩⟩, _, by rw [ht]; exact h_18, hN2⟩) hlo d_C_arrangeBits_161
  · refine lv_iload_n hx hb d_C_arrangeBits_0 rfl (lv_at hl 1 rfl) ?_
    refine lv_tableIn (off := 93) (tgt := 94) hx hb d_C_arrangeBits_1 (by decide) (by decide) (by decide) (by decide) ?_
    refine lv_aload_n hx hb d_C_arrangeBits_94 rfl (lv_at hl 0 rfl) ?_
    refine va_get (D := D) (ci := 0) (v := .ref (o + 18)) (C := "WideNumbers") (T := F_C) (N := 7) hx hb htw inC hown hK hO.1 0 rfl rfl 1 (by decide) (htw _ kw_21) (fun _ h9 => h9) rfl d_C_arrangeBits_95 ?_
    refine lv_aload_n hx hb d_C_arrangeBits_98 rfl (lv_at hl 3 rfl) ?_
    refine lv_aload_n hx hb d_C_arrangeBits_99 rfl (lv_at hl 2 rfl) ?_
    refine lv_sipush (v := nI 256) hx hb d_C_arrangeBits_100 (by decide) ?_
    refine x_calli (A := CA o) (va_runS (As := [.ref x, .int (nI 256)]) (rest := [.ref y, .ref (o + 18)]) ⟨hx, hb, hml, hown, htw⟩ (c_valueUpTo l D cJ cI cQ cR x vx 256 fx hvx (by decide) hNx) (xcS 2 htw kw_210 kw_1 kw_208 kw_209 rfl rfl ⟨by decide, by decide, by decide +kernel⟩ ⟨Nat.le_of_ble_eq_true rfl, Nat.le_of_ble_eq_true rfl⟩) (xPre hK h_X) rfl rfl hl.1 rfl (lv_room (Nat.le_of_ble_eq_true rfl)) d_C_arrangeBits_103 ⟨Nat.le_of_ble_eq_true rfl, Nat.le_of_ble_eq_true rfl⟩) hlo (fun _ h => h.elim) (fun r1 H1 locs1 hB1 hlo => ?_)
    obtain ⟨rfl, rfl⟩ := hB1
    refine lv_aload_n hx hb d_C_arrangeBits_106 rfl (lv_at hl 3 rfl) ?_
    refine x_calll (A := CA o) (va_runS (As := [.ref y]) (rest := [.int (nI (min vx 256)), .ref y, .ref (o + 18)]) ⟨hx, hb, hml, hown, htw⟩ (c_limbOfSign l D cJ cI cQ cR y vy fy hvy hNy) (xcS 1 htw kw_219 kw_1 kw_217 kw_218 rfl rfl ⟨by decide, by decide, by decide +kernel⟩ ⟨Nat.le_of_ble_eq_true rfl, Nat.le_of_ble_eq_true rfl⟩) (xPre hK h_Y) rfl rfl hl.1 rfl (lv_room (Nat.le_of_ble_eq_true rfl)) d_C_arrangeBits_107 ⟨Nat.le_of_ble_eq_true rfl, Nat.le_of_ble_eq_true rfl⟩) hlo (fun _ h => h.elim) (fun r3 H3 locs3 hB3 hlo => ?_)
    obtain ⟨rfl, rfl⟩ := hB3
    refine x_callv (A := CA o) (va_runS (As := [.ref (o + 18), .ref y, .int (nI (min vx 256)), .long (lN (if 2 ^ 255 ≤ vy then 4294967295 else 0))]) (rest := []) ⟨hx, hb, hml, hown, htw⟩ (c_moveRight l D cJ cI cQ cR (o + 18) y vy (min vx 256) (if 2 ^ 255 ≤ vy then 4294967295 else 0) (sx vy) f18 fy (by omega) (by split <;> decide) (by omega) hNy sx_lo (sx_hi hvy)) (xcS 4 htw kw_222 kw_1 kw_220 kw_221 rfl rfl ⟨by decide, by decide, by decide +kernel⟩ ⟨Nat.le_of_ble_eq_true rfl, Nat.le_of_ble_eq_true rfl⟩) (xPre hK ⟨h_18, h_Y⟩) rfl rfl hl.1 rfl (lv_room (Nat.le_of_ble_eq_true rfl)) d_C_arrangeBits_110 ⟨Nat.le_of_ble_eq_true rfl, Nat.le_of_ble_eq_true rfl⟩) hlo (fun q h => by have h : q = o + 18 := h; rw [h]; exact ⟨by omega, by omega⟩) (fun H2 locs2 hB2 hlo => ?_)
    obtain ⟨hF2, f2, hf2, hN2⟩ := hB2
    have h_18 := hf2
    have h_19 := hL_f h_19 hF2 (show o + 19 ≠ o + 18 by omega)
    have h_20 := hL_f h_20 hF2 (show o + 20 ≠ o + 18 by omega)
    have h_21 := hL_f h_21 hF2 (show o + 21 ≠ o + 18 by omega)
    have h_22 := hL_f h_22 hF2 (show o + 22 ≠ o + 18 by omega)
    have h_23 := hL_f h_23 hF2 (show o + 23 ≠ o + 18 by omega)
    have h_X := hL_f h_X hF2 (show x ≠ o + 18 by omega)
    have h_Y := hL_f h_Y hF2 (show y ≠ o + 18 by omega)
    have hO := hO.f1 hF2 (by omega)
    have hG := SA1 hG hF2 (by omega)
    refine lv_goto (tgt := 161) hx hb d_C_arrangeBits_113 (by decide) ?_
    exact W.vret hx hb hr (fun t ht hW => ⟨rfl, by rw [ht]; exact hG, by rw [ht]; exact ⟨⟨_, h_18⟩, ⟨_, h_19⟩, ⟨_, h_20⟩, ⟨_, h_21⟩, ⟨_, h_22⟩, ⟨_, h_23⟩⟩, _, by rw [ht]; exact h_18, NL_m hN2⟩) hlo d_C_arrangeBits_161
  · refine lv_iload_n hx hb d_C_arrangeBits_0 rfl (lv_at hl 1 rfl) ?_
    refine lv_tableIn (off := 115) (tgt := 116) hx hb d_C_arrangeBits_1 (by decide) (by decide) (by decide) (by decide) ?_
    refine lv_aload_n hx hb d_C_arrangeBits_116 rfl (lv_at hl 0 rfl) ?_
    refine lv_aload_n hx hb d_C_arrangeBits_117 rfl (lv_at hl 2 rfl) ?_
    refine lv_aload_n hx hb d_C_arrangeBits_118 rfl (lv_at hl 3 rfl) ?_
    refine x_callv (A := CA o) (va_runV (As := [.ref x, .ref y]) (rest := []) ⟨hx, hb, hml, hown, htw⟩ (c_pickByte l D cJ cI cQ cR o x y vx vy fx fy hxr hyr hvx hvy hNx hNy) (xcV 2 htw kw_226 kw_1 kw_223 kw_225 ks_C_pickByte rfl rfl ⟨by decide, by decide, by decide +kernel⟩ ⟨Nat.le_of_ble_eq_true rfl, Nat.le_of_ble_eq_true rfl⟩) (xPreV hK (hO.rv hK) ⟨hO, ⟨⟨_, h_18⟩, ⟨_, h_19⟩, ⟨_, h_20⟩, ⟨_, h_21⟩, ⟨_, h_22⟩, ⟨_, h_23⟩⟩, h_X, h_Y⟩) rfl rfl hl.1 rfl (lv_room (Nat.le_of_ble_eq_true rfl)) d_C_arrangeBits_119 ⟨Nat.le_of_ble_eq_true rfl, Nat.le_of_ble_eq_true rfl⟩) hlo (fun _ h => h) (fun H1 locs1 hB1 hlo => ?_)
    obtain ⟨hF1, hSC1, f1, hf1, hN1⟩ := hB1
    refine lv_goto (tgt := 161) hx hb d_C_arrangeBits_122 (by decide) ?_
    exact W.vret hx hb hr (fun t ht hW => ⟨rfl, by rw [ht]; exact SAS hG hF1, by rw [ht]; exact hSC1, f1, by rw [ht]; exact hf1, hN1⟩) hlo d_C_arrangeBits_161
  · refine lv_iload_n hx hb d_C_arrangeBits_0 rfl (lv_at hl 1 rfl) ?_
    refine lv_tableIn (off := 124) (tgt := 125) hx hb d_C_arrangeBits_1 (by decide) (by decide) (by decide) (by decide) ?_
    refine lv_aload_n hx hb d_C_arrangeBits_125 rfl (lv_at hl 0 rfl) ?_
    refine va_get (D := D) (ci := 0) (v := .ref (o + 18)) (C := "WideNumbers") (T := F_C) (N := 7) hx hb htw inC hown hK hO.1 0 rfl rfl 1 (by decide) (htw _ kw_21) (fun _ h9 => h9) rfl d_C_arrangeBits_126 ?_
    refine lv_aload_n hx hb d_C_arrangeBits_129 rfl (lv_at hl 2 rfl) ?_
    refine lv_aload_n hx hb d_C_arrangeBits_130 rfl (lv_at hl 3 rfl) ?_
    refine x_callv (A := CA o) (va_runS (As := [.ref (o + 18), .ref x, .ref y]) (rest := []) ⟨hx, hb, hml, hown, htw⟩ (c_and l D cJ cI cQ cR (o + 18) x y vx vy f18 fx fy (by omega) (by omega) hNx hNy) (xcS 3 htw kw_230 kw_1 kw_228 kw_229 rfl rfl ⟨by decide, by decide, by decide +kernel⟩ ⟨Nat.le_of_ble_eq_true rfl, Nat.le_of_ble_eq_true rfl⟩) (xPre hK ⟨h_18, h_X, h_Y⟩) rfl rfl hl.1 rfl (lv_room (Nat.le_of_ble_eq_true rfl)) d_C_arrangeBits_131 ⟨Nat.le_of_ble_eq_true rfl, Nat.le_of_ble_eq_true rfl⟩) hlo (fun q h => by have h : q = o + 18 := h; rw [h]; exact ⟨by omega, by omega⟩) (fun H2 locs2 hB2 hlo => ?_)
    obtain ⟨hF2, f2, hf2, hN2⟩ := hB2
    have h_18 := hf2
    have h_19 := hL_f h_19 hF2 (show o + 19 ≠ o + 18 by omega)
    have h_20 := hL_f h_20 hF2 (show o + 20 ≠ o + 18 by omega)
    have h_21 := hL_f h_21 hF2 (show o + 21 ≠ o + 18 by omega)
    have h_22 := hL_f h_22 hF2 (show o + 22 ≠ o + 18 by omega)
    have h_23 := hL_f h_23 hF2 (show o + 23 ≠ o + 18 by omega)
    have h_X := hL_f h_X hF2 (show x ≠ o + 18 by omega)
    have h_Y := hL_f h_Y hF2 (show y ≠ o + 18 by omega)
    have hO := hO.f1 hF2 (by omega)
    have hG := SA1 hG hF2 (by omega)
    refine lv_goto (tgt := 161) hx hb d_C_arrangeBits_134 (by decide) ?_
    exact W.vret hx hb hr (fun t ht hW => ⟨rfl, by rw [ht]; exact hG, by rw [ht]; exact ⟨⟨_, h_18⟩, ⟨_, h_19⟩, ⟨_, h_20⟩, ⟨_, h_21⟩, ⟨_, h_22⟩, ⟨_, h_23⟩⟩, _, by rw [ht]; exact h_18, hN2⟩) hlo d_C_arrangeBits_161
  · refine lv_iload_n hx hb d_C_arrangeBits_0 rfl (lv_at hl 1 rfl) ?_
    refine lv_tableIn (off := 136) (tgt := 137) hx hb d_C_arrangeBits_1 (by decide) (by decide) (by decide) (by decide) ?_
    refine lv_aload_n hx hb d_C_arrangeBits_137 rfl (lv_at hl 0 rfl) ?_
    refine va_get (D := D) (ci := 0) (v := .ref (o + 18)) (C := "WideNumbers") (T := F_C) (N := 7) hx hb htw inC hown hK hO.1 0 rfl rfl 1 (by decide) (htw _ kw_21) (fun _ h9 => h9) rfl d_C_arrangeBits_138 ?_
    refine lv_aload_n hx hb d_C_arrangeBits_141 rfl (lv_at hl 2 rfl) ?_
    refine lv_aload_n hx hb d_C_arrangeBits_142 rfl (lv_at hl 3 rfl) ?_
    refine x_callv (A := CA o) (va_runS (As := [.ref (o + 18), .ref x, .ref y]) (rest := []) ⟨hx, hb, hml, hown, htw⟩ (c_or l D cJ cI cQ cR (o + 18) x y vx vy f18 fx fy (by omega) (by omega) hNx hNy) (xcS 3 htw kw_233 kw_1 kw_231 kw_232 rfl rfl ⟨by decide, by decide, by decide +kernel⟩ ⟨Nat.le_of_ble_eq_true rfl, Nat.le_of_ble_eq_true rfl⟩) (xPre hK ⟨h_18, h_X, h_Y⟩) rfl rfl hl.1 rfl (lv_room (Nat.le_of_ble_eq_true rfl)) d_C_arrangeBits_143 ⟨Nat.le_of_ble_eq_true rfl, Nat.le_of_ble_eq_true rfl⟩) hlo (fun q h => by have h : q = o + 18 := h; rw [h]; exact ⟨by omega, by omega⟩) (fun H2 locs2 hB2 hlo => ?_)
    obtain ⟨hF2, f2, hf2, hN2⟩ := hB2
    have h_18 := hf2
    have h_19 := hL_f h_19 hF2 (show o + 19 ≠ o + 18 by omega)
    have h_20 := hL_f h_20 hF2 (show o + 20 ≠ o + 18 by omega)
    have h_21 := hL_f h_21 hF2 (show o + 21 ≠ o + 18 by omega)
    have h_22 := hL_f h_22 hF2 (show o + 22 ≠ o + 18 by omega)
    have h_23 := hL_f h_23 hF2 (show o + 23 ≠ o + 18 by omega)
    have h_X := hL_f h_X hF2 (show x ≠ o + 18 by omega)
    have h_Y := hL_f h_Y hF2 (show y ≠ o + 18 by omega)
    have hO := hO.f1 hF2 (by omega)
    have hG := SA1 hG hF2 (by omega)
    refine lv_goto (tgt := 161) hx hb d_C_arrangeBits_146 (by decide) ?_
    exact W.vret hx hb hr (fun t ht hW => ⟨rfl, by rw [ht]; exact hG, by rw [ht]; exact ⟨⟨_, h_18⟩, ⟨_, h_19⟩, ⟨_, h_20⟩, ⟨_, h_21⟩, ⟨_, h_22⟩, ⟨_, h_23⟩⟩, _, by rw [ht]; exact h_18, hN2⟩) hlo d_C_arrangeBits_161
  · refine lv_iload_n hx hb d_C_arrangeBits_0 rfl (lv_at hl 1 rfl) ?_
    refine lv_tableIn (off := 148) (tgt := 149) hx hb d_C_arrangeBits_1 (by decide) (by decide) (by decide) (by decide) ?_
    refine lv_aload_n hx hb d_C_arrangeBits_149 rfl (lv_at hl 0 rfl) ?_
    refine va_get (D := D) (ci := 0) (v := .ref (o + 18)) (C := "WideNumbers") (T := F_C) (N := 7) hx hb htw inC hown hK hO.1 0 rfl rfl 1 (by decide) (htw _ kw_21) (fun _ h9 => h9) rfl d_C_arrangeBits_150 ?_
    refine lv_aload_n hx hb d_C_arrangeBits_153 rfl (lv_at hl 2 rfl) ?_
    refine lv_aload_n hx hb d_C_arrangeBits_154 rfl (lv_at hl 3 rfl) ?_
    refine x_callv (A := CA o) (va_runS (As := [.ref (o + 18), .ref x, .ref y]) (rest := []) ⟨hx, hb, hml, hown, htw⟩ (c_xor l D cJ cI cQ cR (o + 18) x y vx vy f18 fx fy (by omega) (by omega) hNx hNy) (xcS 3 htw kw_236 kw_1 kw_234 kw_235 rfl rfl ⟨by decide, by decide, by decide +kernel⟩ ⟨Nat.le_of_ble_eq_true rfl, Nat.le_of_ble_eq_true rfl⟩) (xPre hK ⟨h_18, h_X, h_Y⟩) rfl rfl hl.1 rfl (lv_room (Nat.le_of_ble_eq_true rfl)) d_C_arrangeBits_155 ⟨Nat.le_of_ble_eq_true rfl, Nat.le_of_ble_eq_true rfl⟩) hlo (fun q h => by have h : q = o + 18 := h; rw [h]; exact ⟨by omega, by omega⟩) (fun H2 locs2 hB2 hlo => ?_)
    obtain ⟨hF2, f2, hf2, hN2⟩ := hB2
    have h_18 := hf2
    have h_19 := hL_f h_19 hF2 (show o + 19 ≠ o + 18 by omega)
    have h_20 := hL_f h_20 hF2 (show o + 20 ≠ o + 18 by omega)
    have h_21 := hL_f h_21 hF2 (show o + 21 ≠ o + 18 by omega)
    have h_22 := hL_f h_22 hF2 (show o + 22 ≠ o + 18 by omega)
    have h_23 := hL_f h_23 hF2 (show o + 23 ≠ o + 18 by omega)
    have h_X := hL_f h_X hF2 (show x ≠ o + 18 by omega)
    have h_Y := hL_f h_Y hF2 (show y ≠ o + 18 by omega)
    have hO := hO.f1 hF2 (by omega)
    have hG := SA1 hG hF2 (by omega)
    refine lv_goto (tgt := 161) hx hb d_C_arrangeBits_158 (by decide) ?_
    exact W.vret hx hb hr (fun t ht hW => ⟨rfl, by rw [ht]; exact hG, by rw [ht]; exact ⟨⟨_, h_18⟩, ⟨_, h_19⟩, ⟨_, h_20⟩, ⟨_, h_21⟩, ⟨_, h_22⟩, ⟨_, h_23⟩⟩, _, by rw [ht]; exact h_18, hN2⟩) hlo d_C_arrangeBits_161
end
section
-- a throw's surroundings, calls that return or throw
abbrev IAE : String := "java/lang/IllegalArgumentException"
abbrev dS (X : String) : MethodName := ⟨X, "<init>", "(Ljava/lang/String;)V"⟩
def XB (U : State) : Prop := va_Nw (.castable IAE IAE) U ∧ va_Nw (.declares (dS "java/lang/RuntimeException")) U ∧ va_Nw (.declares (dS "java/lang/Exception")) U ∧ va_Nw (.declares (dS "java/lang/Throwable")) U
def XE (b0 sa : Nat) (U : State) : Prop := XB U ∧ vk_R "WideNumbers" 93 "a number out of range" sa U ∧ vx_Zq Bundle.tN "UNASSIGNED_STACK" Bundle.steD (fun q => b0 ≤ q) U U.heap ∧ vx_Zq Bundle.tN "SUPPRESSED_SENTINEL" Bundle.listD (fun q => b0 ≤ q) U U.heap
theorem XE.mv {b0 sa : Nat} {s U : State} (h : XE b0 sa s) (hW : s.WarmedH U.vm) (hk : ∀ q : Nat, q < s.heap.size → ¬ b0 ≤ q → U.heap[q]? = s.heap[q]?) : XE b0 sa U := ⟨⟨va_Nw.warmC hW h.1.1, va_Nw.warmD hW h.1.2.1, va_Nw.warmD hW h.1.2.2.1, va_Nw.warmD hW h.1.2.2.2⟩, vk_R.warm hW h.2.1, vx_Zq.moved hW.alike (h.2.2.1.kept hk), vx_Zq.moved hW.alike (h.2.2.2.kept hk)⟩
def xPX (D : va_G) (cl : List vw_C) (tys : List (ClassId × FieldType)) (b0 sa : Nat) (av : List Value) (B : Heap → Prop) : Array Value → State → Prop := fun v U => v = av.toArray ∧ va_K D cl tys U ∧ XE b0 sa U ∧ B U.heap
theorem xPX_blind {D : va_G} {cl : List vw_C} {tys : List (ClassId × FieldType)} {b0 sa : Nat} {av : List Value} {B : Heap → Prop} : FrameBlind (xPX D cl tys b0 sa av B) := fun a U g mk h => ⟨h.1, va_K.moved (u := U) (U := U.calling g mk a) (Vm.Alike.refl U.vm) h.2.1, XE.mv (U := U.calling g mk a) h.2.2.1 (State.WarmedH.refl U) (fun _ _ _ => rfl), h.2.2.2⟩
/-- behind a throw: of this kind alone, and how the heap is then -/
def xX (BX : Heap → Heap → Prop) : String → State → State → Prop := fun E st t => E = IAE ∧ BX st.heap t.heap
/-- a number in its range -/
def vd (n : Int32) (b : Nat) : Prop := ∃ k : Nat, k < b ∧ n = nI k
theorem atW : ∀ w ∈ (vx_atS "WideNumbers" 95 IAE ["java/lang/RuntimeException", "java/lang/Exception"]).filter goodWord, w ∈ WT := by decide +kernel
theorem atB : ∀ w ∈ (vx_atS "WideNumbers" 95 IAE ["java/lang/RuntimeException", "java/lang/Exception"]).filter (fun w => !goodWord w), w ∈ [Cond.castable IAE IAE, Cond.declares (dS "java/lang/RuntimeException"), Cond.declares (dS "java/lang/Exception"), Cond.declares (dS "java/lang/Throwable")] := by decide +kernel
theorem atG : ∀ w ∈ Cond.classLink "WideNumbers" 91 IAE :: Cond.initialized IAE :: vx_atS "WideNumbers" 95 IAE ["java/lang/RuntimeException", "java/lang/Exception"], vx_ot w = true := by decide +kernel
section XT
variable {p : Program} {l : Launch} {e : Env} {R : Room} {s : State} {m : MethodId} {args : Array Value} {below : List Frame} {meth : Method} {c : Code} {H : Heap} {locs : List Loc} {cells slots : Nat} {Q : State → Prop}
variable {cc : ByteArray} {pc : Nat} {ls : Array Slot} {rest : List Value} {A : Nat → Prop}
theorem xPreX {D : va_G} {cl : List vw_C} {tys : List (ClassId × FieldType)} {b0 sa : Nat} {As : List Value} {B : Heap → Prop} (hK : va_K D cl tys s) (hE : XE b0 sa s) (hk : ∀ q : Nat, q < s.heap.size → ¬ b0 ≤ q → H[q]? = s.heap[q]?) (hB : B H) : PreS s H (xPX D cl tys b0 sa As B) As := ⟨xPX_blind, fun U hU hW => ⟨rfl, va_K.moved hW.alike hK, hE.mv hW (by rw [hU]; exact hk), by rw [hU]; exact hB⟩⟩
theorem xPreXV {D : va_G} {cl : List vw_C} {tys : List (ClassId × FieldType)} {b0 sa : Nat} {As : List Value} {C : String} {b : Addr} {B : Heap → Prop} (hK : va_K D cl tys s) (hE : XE b0 sa s) (hk : ∀ q : Nat, q < s.heap.size → ¬ b0 ≤ q → H[q]? = s.heap[q]?) (hr : ∃ cellB : Cell, H[b]? = some cellB ∧ cellB.vm.isStatics = false ∧ s.vm.findClass C = some cellB.cls) (hB : B H) : PreV s H C b (xPX D cl tys b0 sa (.ref b :: As) B) As := ⟨xPX_blind, hr, fun U hU hW => ⟨rfl, va_K.moved hW.alike hK, hE.mv hW (by rw [hU]; exact hk), by rw [hU]; exact hB⟩⟩
theorem x_xcallv {st0 : List Value} {av : Array Value} {mc ms : Nat} {free : Addr → Prop} {B BX : Heap → Heap → Prop} (hr : vx_Run p l e R s m args below meth c H locs cells slots mc ms (F0 m pc ls st0) rest (xQv B av) (xX BX) free) (hlo : ∀ q ∈ locs, A q.base) (hf : ∀ q, free q → A q)
    (kx : ∀ (q9 : Addr) (ce : Cell) (H1 : Heap) (locs1 : List Loc), BX H H1 → (∀ q ∈ locs1, A q.base) → H1[q9]? = some ce → ce.vm = .none → s.vm.findClass IAE = some ce.cls → vx_W p l e R s m args below meth c H1 locs1 (cells + mc) (slots + ms) Q (F0 m pc ls rest) q9)
    (kk : ∀ (H1 : Heap) (locs1 : List Loc), B H H1 → (∀ q ∈ locs1, A q.base) → W p l e R s m args below meth c H1 locs1 (cells + mc) (slots + ms) Q (F0 m (pc + 3) ls rest)) : W p l e R s m args below meth c H locs cells slots Q (F0 m pc ls st0) := by
  intro T hT X
  rcases hr T hT X with ⟨v, st₀, t, T', L, h0, X', hL, e1, e2, ⟨hv, hb⟩, st⟩ | ⟨q, st₀, t, T', L, E, ce, h0, X', hL, e1, e2, ⟨hE, hb⟩, hc, hv, hcl, st⟩
  · cases hv
    rw [h0] at hb
    obtain ⟨t2, a1, b1⟩ := kk t.heap (locs ++ L) hb (x_lapp hlo hf hL) T' e1 X'
    exact ⟨t2, st t2 a1, b1⟩
  · subst hE
    rw [h0] at hb
    obtain ⟨t2, a1, b1⟩ := kx q ce t.heap (locs ++ L) hb (x_lapp hlo hf hL) hc hv hcl T' e1 X'
    exact ⟨t2, st.trans a1, b1⟩
theorem x_xcalli {st0 : List Value} {av : Array Value} {mc ms : Nat} {free : Addr → Prop} {B : Int32 → Heap → Heap → Prop} {BX : Heap → Heap → Prop} (hr : vx_Run p l e R s m args below meth c H locs cells slots mc ms (F0 m pc ls st0) rest (xQi B av) (xX BX) free) (hlo : ∀ q ∈ locs, A q.base) (hf : ∀ q, free q → A q)
    (kx : ∀ (q9 : Addr) (ce : Cell) (H1 : Heap) (locs1 : List Loc), BX H H1 → (∀ q ∈ locs1, A q.base) → H1[q9]? = some ce → ce.vm = .none → s.vm.findClass IAE = some ce.cls → vx_W p l e R s m args below meth c H1 locs1 (cells + mc) (slots + ms) Q (F0 m pc ls rest) q9)
    (kk : ∀ (r : Int32) (H1 : Heap) (locs1 : List Loc), B r H H1 → (∀ q ∈ locs1, A q.base) → W p l e R s m args below meth c H1 locs1 (cells + mc) (slots + ms) Q (F0 m (pc + 3) ls (.int r :: rest))) : W p l e R s m args below meth c H locs cells slots Q (F0 m pc ls st0) := by
  intro T hT X
  rcases hr T hT X with ⟨v, st₀, t, T', L, h0, X', hL, e1, e2, ⟨r, hv, hb⟩, st⟩ | ⟨q, st₀, t, T', L, E, ce, h0, X', hL, e1, e2, ⟨hE, hb⟩, hc, hv, hcl, st⟩
  · cases hv
    rw [h0] at hb
    obtain ⟨t2, a1, b1⟩ := kk r t.heap (locs ++ L) hb (x_lapp hlo hf hL) T' e1 X'
    exact ⟨t2, st t2 a1, b1⟩
  · subst hE
    rw [h0] at hb
    obtain ⟨t2, a1, b1⟩ := kx q ce t.heap (locs ++ L) hb (x_lapp hlo hf hL) hc hv hcl T' e1 X'
    exact ⟨t2, st.trans a1, b1⟩
theorem x_xcalll {st0 : List Value} {av : Array Value} {mc ms : Nat} {free : Addr → Prop} {B : Int64 → Heap → Heap → Prop} {BX : Heap → Heap → Prop} (hr : vx_Run p l e R s m args below meth c H locs cells slots mc ms (F0 m pc ls st0) rest (xQl B av) (xX BX) free) (hlo : ∀ q ∈ locs, A q.base) (hf : ∀ q, free q → A q)
    (kx : ∀ (q9 : Addr) (ce : Cell) (H1 : Heap) (locs1 : List Loc), BX H H1 → (∀ q ∈ locs1, A q.base) → H1[q9]? = some ce → ce.vm = .none → s.vm.findClass IAE = some ce.cls → vx_W p l e R s m args below meth c H1 locs1 (cells + mc) (slots + ms) Q (F0 m pc ls rest) q9)
    (kk : ∀ (r : Int64) (H1 : Heap) (locs1 : List Loc), B r H H1 → (∀ q ∈ locs1, A q.base) → W p l e R s m args below meth c H1 locs1 (cells + mc) (slots + ms) Q (F0 m (pc + 3) ls (.long r :: rest))) : W p l e R s m args below meth c H locs cells slots Q (F0 m pc ls st0) := by
  intro T hT X
  rcases hr T hT X with ⟨v, st₀, t, T', L, h0, X', hL, e1, e2, ⟨r, hv, hb⟩, st⟩ | ⟨q, st₀, t, T', L, E, ce, h0, X', hL, e1, e2, ⟨hE, hb⟩, hc, hv, hcl, st⟩
  · cases hv
    rw [h0] at hb
    obtain ⟨t2, a1, b1⟩ := kk r t.heap (locs ++ L) hb (x_lapp hlo hf hL) T' e1 X'
    exact ⟨t2, st t2 a1, b1⟩
  · subst hE
    rw [h0] at hb
    obtain ⟨t2, a1, b1⟩ := kx q ce t.heap (locs ++ L) hb (x_lapp hlo hf hL) hc hv hcl T' e1 X'
    exact ⟨t2, st.trans a1, b1⟩
end XT
set_option maxHeartbeats 4000000 in
set_option maxRecDepth 100000 in
theorem c_refuse (l : Launch) (D : va_G) (cJ cI cQ cR : ClassId) (b0 sa : Nat) (hst : l.stackTraces = false) (n : Int32) (b : Nat) (hb9 : b ≤ 16) : vx_Met l y_C_refuseOutside w_C_refuseOutside { frames := 7, cells := 1, slots := 6, locals := 110 } (xPX D vwCl (TY cJ cI cQ cR) b0 sa [.int n, .int (nI b)] (fun H => True)) (xQv (fun H0 H => H = H0 ∧ vd n b)) (xX (fun H0 H => ¬ vd n b ∧ XF (fun _ => False) H0 H)) 1 6 (fun _ => False) := by
  refine vx_ofW (cc := b_C_refuseOutside) (maxL := 2) (ret := none) (by decide) rfl ?_
  intro p e s m args below meth c s₁ B hml hno hv
  obtain ⟨rfl, hK, hE, hB⟩ := hv
  have hx := B.exec
  have hb := B.bytes
  have hr := B.returns
  have hts := atoms_spec (ws := w_C_refuseOutside) B.pre
  have htw : ∀ w ∈ WT, w.before _ s = true := fun w h => hts w (List.mem_cons_of_mem _ h)
  have hown : s.vm.findClass "WideNumbers" = some m.cls := findClass_of_methodNamed B.named
  have hlocks := B.notSynchronized
  have hJ : ArrOfT s cJ .long := (hK.2 0 _ rfl).1
  have hI9 : ArrOfT s cI .int := (hK.2 1 _ rfl).1
  have hQ9 : ArrOfT s cQ (.array .long) := (hK.2 2 _ rfl).1
  have hl := lv_entry ([.int n, .int (nI b)]) (n := 2) (Nat.le_of_ble_eq_true rfl)
  rw [lg_entry_eq]
  generalize (lg_sl ([.int n, .int (nI b)]) ++ List.replicate (2 - (lg_sl ([.int n, .int (nI b)])).length) Slot.unset).toArray = ls at hl ⊢
  have hl : lv_has ls 2 [(0, .int n), (1, .int (nI b))] := hl
  have hat : ∀ w ∈ vx_atS "WideNumbers" 95 IAE ["java/lang/RuntimeException", "java/lang/Exception"], w.before _ s = true := vx_hat (fun w h => htw w (atW w h)) atB (vx_c (va_Nw.use rfl hE.1.1) (vx_c (va_Nw.use rfl hE.1.2.1) (vx_c (va_Nw.use rfl hE.1.2.2.1) (vx_c (va_Nw.use rfl hE.1.2.2.2) vx_n))))
  refine lv_iload_n hx hb d_C_refuseOutside_0 rfl (lv_at hl 0 rfl) ?_
  refine lv_if_lt (tgt := 9) hx hb d_C_refuseOutside_1 (by decide) (fun hc => ?_) (fun hc => ?_)
  · exact vx_throwS (pc := 9) (A := fun q => b0 ≤ q) hx hb hst hown (by decide) (by decide) (htw _ kw_54) (htw _ kw_6) hE.2.1 hat atG hE.2.2.1 hE.2.2.2 va_S.rf (hl.1.trans hml.symm) d_C_refuseOutside_9 d_C_refuseOutside_12 d_C_refuseOutside_13 d_C_refuseOutside_15 d_C_refuseOutside_18 (fun x hx => (hno x hx).elim) (by decide) (by decide) (by decide) (by decide) hlocks (fun t _ hsz hk => ⟨rfl, fun h => by obtain ⟨k, hk, rfl⟩ := h; exact nI_pos (by omega) hc, hsz, fun q hq _ => hk q hq⟩) (fun _ h => nomatch h) (by decide) (by decide)
  · refine lv_iload_n hx hb d_C_refuseOutside_4 rfl (lv_at hl 0 rfl) ?_
    refine lv_iload_n hx hb d_C_refuseOutside_5 rfl (lv_at hl 1 rfl) ?_
    refine lv_icmp_lt (tgt := 19) hx hb d_C_refuseOutside_6 (by decide) (fun hc2 => ?_) (fun hc2 => ?_)
    · obtain ⟨k, hk, ek⟩ := nI_of hc
      refine W.widen (k := 1) (n := 6) (by decide) (by decide) ?_
      exact vx_ret (W.vret hx hb hr (fun t ht hW => ⟨rfl, ht, k, by subst ek; exact (nI_ltI hk (by omega)).mp hc2, ek⟩) (fun _ h => nomatch h) d_C_refuseOutside_19)
    · exact vx_throwS (pc := 9) (A := fun q => b0 ≤ q) hx hb hst hown (by decide) (by decide) (htw _ kw_54) (htw _ kw_6) hE.2.1 hat atG hE.2.2.1 hE.2.2.2 va_S.rf (hl.1.trans hml.symm) d_C_refuseOutside_9 d_C_refuseOutside_12 d_C_refuseOutside_13 d_C_refuseOutside_15 d_C_refuseOutside_18 (fun x hx => (hno x hx).elim) (by decide) (by decide) (by decide) (by decide) hlocks (fun t _ hsz hk => ⟨rfl, fun h => by obtain ⟨k, hk, rfl⟩ := h; exact hc2 (nI_lt hk (by omega)), hsz, fun q hq _ => hk q hq⟩) (fun _ h => nomatch h) (by decide) (by decide)
end
section
-- the registers
def RG (cJ : ClassId) (o : Nat) (V : Nat → Nat) (H : Heap) : Prop := ∀ r, r < 16 → ∃ f : Nat → Int64, hL H cJ (o + 2 + r) 8 f ∧ NL f 8 (V r)
def CO (D : va_G) (cJ cQ : ClassId) (o : Nat) (V : Nat → Nat) (H : Heap) : Prop := CB D cQ o H ∧ SC cJ o H ∧ RG cJ o V H
theorem RG.f {cJ : ClassId} {o : Nat} {V : Nat → Nat} {A : Nat → Prop} {H H1 : Heap} (h : RG cJ o V H) (hF : XF A H H1) (ha : ∀ r, r < 16 → ¬ A (o + 2 + r)) : RG cJ o V H1 := fun r hr => by
  obtain ⟨f, h1, h2⟩ := h r hr
  exact ⟨f, hL_f h1 hF (ha r hr), h2⟩
theorem RG.fS {cJ : ClassId} {o : Nat} {V : Nat → Nat} {H H1 : Heap} (h : RG cJ o V H) (hF : XF (SA o) H H1) : RG cJ o V H1 := h.f hF (fun r hr => nSA (by omega))
theorem RG.f1 {cJ : ClassId} {o z : Nat} {V : Nat → Nat} {H H1 : Heap} (h : RG cJ o V H) (hF : XF (fun q => q = z) H H1) (hz : o + 18 ≤ z) : RG cJ o V H1 := h.f hF (fun r hr e => by have e : o + 2 + r = z := e; omega)
theorem RG.fD {cJ : ClassId} {o : Nat} {V : Nat → Nat} {H H1 : Heap} (h : RG cJ o V H) (hF : XF (DA o) H H1) : RG cJ o V H1 := h.f hF (fun r hr => nDA (by omega))
theorem RG.put {cJ : ClassId} {o k v : Nat} {V : Nat → Nat} {f : Nat → Int64} {H H1 : Heap} (h : RG cJ o V H) (hF : XF (fun q => q = o + 2 + k) H H1) (hf : hL H1 cJ (o + 2 + k) 8 f) (hN : NL f 8 v) : RG cJ o (va_up V k v) H1 := fun r hr => by
  by_cases e : r = k
  · subst e
    exact ⟨f, hf, by rw [va_up_self]; exact hN⟩
  · obtain ⟨g, h1, h2⟩ := h r hr
    exact ⟨g, hL_f h1 hF (show o + 2 + r ≠ o + 2 + k by omega), by rw [va_up_ne _ _ e]; exact h2⟩
theorem SC.f1 {cJ : ClassId} {o z : Nat} {H H1 : Heap} (h : SC cJ o H) (hF : XF (fun q => q = z) H H1) (hz : z < o + 18) : SC cJ o H1 := by
  obtain ⟨⟨f18, h18⟩, ⟨f19, h19⟩, ⟨f20, h20⟩, ⟨f21, h21⟩, ⟨f22, h22⟩, ⟨f23, h23⟩⟩ := h
  exact ⟨⟨_, hL_f h18 hF (show o + 18 ≠ z by omega)⟩, ⟨_, hL_f h19 hF (show o + 19 ≠ z by omega)⟩, ⟨_, hL_f h20 hF (show o + 20 ≠ z by omega)⟩, ⟨_, hL_f h21 hF (show o + 21 ≠ z by omega)⟩, ⟨_, hL_f h22 hF (show o + 22 ≠ z by omega)⟩, ⟨_, hL_f h23 hF (show o + 23 ≠ z by omega)⟩⟩
theorem SA_CA {o q : Nat} (h : SA o q) : CA o q := ⟨by have := h.1; omega, h.2⟩
-- what the methods answer
def gp (v k : Nat) : Nat := dg v (2 * (3 - k) + 1) * 4294967296 ||| dg v (2 * (3 - k))
def sv (p0 p1 p2 p3 : Nat) : Nat := p3 + 18446744073709551616 * p2 + 340282366920938463463374607431768211456 * p1 + 6277101735386680763835789423207666416102355444464034512896 * p0
def cmpv (z : Int32) (a b : Nat) : Int32 := if z = 0 then ordv a b else if 2 ^ 255 ≤ a ∧ ¬ 2 ^ 255 ≤ b then -1 else if ¬ 2 ^ 255 ≤ a ∧ 2 ^ 255 ≤ b then 1 else ordv a b
def byv (v n : Nat) : Prop := v < 2 ^ (8 * n) ∧ (n = 0 ∨ 2 ^ (8 * (n - 1)) ≤ v)
def mdv (z : Int32) (a b c : Nat) : Nat := if c = 0 then 0 else (if z = 0 then a + b else a * b) % c
def trn (z : Int32) (a : Nat) : Nat := if z = 0 then (2 ^ 256 - a) % 2 ^ 256 else 2 ^ 256 - (a + 1)
theorem by_of {v k : Nat} (h : ub v k) : byv v ((k + 7) / 8) := by
  obtain ⟨h1, h2⟩ := h
  refine ⟨Nat.lt_of_lt_of_le h1 (pw_le (by omega)), ?_⟩
  by_cases h0 : (k + 7) / 8 = 0
  · exact Or.inl h0
  · exact Or.inr (Nat.le_trans (pw_le (by omega)) (h2.resolve_left (by omega)))
theorem sv_lt {p0 p1 p2 p3 : Nat} (h0 : p0 < 18446744073709551616) (h1 : p1 < 18446744073709551616) (h2 : p2 < 18446744073709551616) (h3 : p3 < 18446744073709551616) : sv p0 p1 p2 p3 < 2 ^ 256 := by
  unfold sv
  omega
theorem sv_dg {p0 p1 p2 p3 : Nat} (h0 : p0 < 18446744073709551616) (h1 : p1 < 18446744073709551616) (h2 : p2 < 18446744073709551616) (h3 : p3 < 18446744073709551616) :
    dg (sv p0 p1 p2 p3) 0 = p3 % 4294967296 ∧ dg (sv p0 p1 p2 p3) 1 = p3 / 4294967296 ∧ dg (sv p0 p1 p2 p3) 2 = p2 % 4294967296 ∧ dg (sv p0 p1 p2 p3) 3 = p2 / 4294967296 ∧ dg (sv p0 p1 p2 p3) 4 = p1 % 4294967296 ∧ dg (sv p0 p1 p2 p3) 5 = p1 / 4294967296 ∧ dg (sv p0 p1 p2 p3) 6 = p0 % 4294967296 ∧ dg (sv p0 p1 p2 p3) 7 = p0 / 4294967296 := by
  unfold dg sv
  refine ⟨?_, ?_, ?_, ?_, ?_, ?_, ?_, ?_⟩ <;> omega
theorem j8 {j : Nat} (h : j < 8) : j = 0 ∨ j = 1 ∨ j = 2 ∨ j = 3 ∨ j = 4 ∨ j = 5 ∨ j = 6 ∨ j = 7 := by omega
theorem opv_up {V : Nat → Nat} {k v : Nat} (hV : ∀ r, r < 16 → V r < 2 ^ 256) (hv : v < 2 ^ 256) : ∀ r, r < 16 → va_up V k v r < 2 ^ 256 := fun r hr => by
  by_cases e : r = k
  · subst e; rw [va_up_self]; exact hv
  · rw [va_up_ne _ _ e]; exact hV r hr
theorem mdv_lt {z : Int32} {a b c : Nat} (hc : c < 2 ^ 256) : mdv z a b c < 2 ^ 256 := by
  unfold mdv
  split
  · exact pw_pos 256
  · rename_i h
    exact Nat.lt_trans (Nat.mod_lt _ (Nat.pos_of_ne_zero h)) hc
theorem trn_lt {z : Int32} {a : Nat} : trn z a < 2 ^ 256 := by
  unfold trn
  split
  · exact Nat.mod_lt _ (pw_pos 256)
  · omega
end
section
-- contracts of the public methods
set_option maxHeartbeats 4000000 in
set_option maxRecDepth 100000 in
theorem c_get (l : Launch) (D : va_G) (cJ cI cQ cR : ClassId) (b0 sa : Nat) (hst : l.stackTraces = false) (o : Nat) (V : Nat → Nat) (hV : ∀ r, r < 16 → V r < 2 ^ 256) (r pt : Int32) : vx_Met l y_C_get w_C_get { frames := 8, cells := 2, slots := 12, locals := 131 } (xPX D vwCl (TY cJ cI cQ cR) b0 sa [.ref o, .int r, .int pt] (fun H => CO D cJ cQ o V H)) (xQl (fun x H0 H => H = H0 ∧ ∃ kr kp : Nat, kr < 16 ∧ r = nI kr ∧ kp < 4 ∧ pt = nI kp ∧ x = lN (gp (V kr) kp))) (xX (fun H0 H => ¬ (vd r 16 ∧ vd pt 4) ∧ XF (fun _ => False) H0 H)) 2 12 (CA o) := by
  refine vx_ofW (cc := b_C_get) (maxL := 4) (ret := some .long) (by decide) rfl ?_
  intro p e s m args below meth c s₁ B hml hno hv
  obtain ⟨rfl, hK, hE, ⟨hO, hSC, hR⟩⟩ := hv
  have hx := B.exec
  have hb := B.bytes
  have hr := B.returns
  have hts := atoms_spec (ws := w_C_get) B.pre
  have htw : ∀ w ∈ WT, w.before _ s = true := fun w h => hts w (List.mem_cons_of_mem _ h)
  have hown : s.vm.findClass "WideNumbers" = some m.cls := findClass_of_methodNamed B.named
  have hlocks := B.notSynchronized
  have hJ : ArrOfT s cJ .long := (hK.2 0 _ rfl).1
  have hI9 : ArrOfT s cI .int := (hK.2 1 _ rfl).1
  have hQ9 : ArrOfT s cQ (.array .long) := (hK.2 2 _ rfl).1
  have hl := lv_entry ([.ref o, .int r, .int pt]) (n := 4) (Nat.le_of_ble_eq_true rfl)
  rw [lg_entry_eq]
  generalize (lg_sl ([.ref o, .int r, .int pt]) ++ List.replicate (4 - (lg_sl ([.ref o, .int r, .int pt])).length) Slot.unset).toArray = ls at hl ⊢
  have hl : lv_has ls 4 [(0, .ref o), (1, .int r), (2, .int pt)] := hl
  have hlo : ∀ q ∈ ([] : List Loc), CA o q.base := fun _ h => nomatch h
  refine lv_iload_n hx hb d_C_get_0 rfl (lv_at hl 1 rfl) ?_
  refine lv_bipush (v := nI 16) hx hb d_C_get_1 (by decide) ?_
  refine x_xcallv (A := CA o) (vx_runS (As := [.int r, .int (nI 16)]) (rest := []) ⟨hx, hb, hml, hown, htw⟩ (c_refuse l D cJ cI cQ cR b0 sa hst r 16 (by decide)) (xcS 2 htw kw_53 kw_1 kw_51 kw_52 rfl rfl ⟨by decide, by decide, by decide +kernel⟩ ⟨Nat.le_of_ble_eq_true rfl, Nat.le_of_ble_eq_true rfl⟩) (xPreX hK hE (fun _ _ _ => rfl) trivial) rfl rfl hl.1 rfl (lv_room (Nat.le_of_ble_eq_true rfl)) d_C_get_3 ⟨Nat.le_of_ble_eq_true rfl, Nat.le_of_ble_eq_true rfl⟩) hlo (fun _ h => h.elim) (fun q9 ce H1 locs1 hB1 hlo hc9 hv9 hcl9 => ?_) (fun H1 locs1 hB1 hlo => ?_)
  · obtain ⟨hinv, hF⟩ := hB1
    exact vx_out (fun x hx => (hno x hx).elim) hlocks hc9 hv9 hcl9 (fun t ht _ => ⟨rfl, fun h => hinv h.1, by rw [ht]; exact hF⟩) hlo (by decide) (by decide)
  obtain ⟨rfl, kr, hkr, rfl⟩ := hB1
  have hl : lv_has ls 4 [(0, .ref o), (1, .int (nI kr)), (2, .int pt)] := hl
  refine lv_iload_n hx hb d_C_get_6 rfl (lv_at hl 2 rfl) ?_
  refine lv_iconst (v := nI 4) hx hb d_C_get_7 (by decide) ?_
  refine x_xcallv (A := CA o) (vx_runS (As := [.int pt, .int (nI 4)]) (rest := []) ⟨hx, hb, hml, hown, htw⟩ (c_refuse l D cJ cI cQ cR b0 sa hst pt 4 (by decide)) (xcS 2 htw kw_53 kw_1 kw_51 kw_52 rfl rfl ⟨by decide, by decide, by decide +kernel⟩ ⟨Nat.le_of_ble_eq_true rfl, Nat.le_of_ble_eq_true rfl⟩) (xPreX hK hE (fun _ _ _ => rfl) trivial) rfl rfl hl.1 rfl (lv_room (Nat.le_of_ble_eq_true rfl)) d_C_get_8 ⟨Nat.le_of_ble_eq_true rfl, Nat.le_of_ble_eq_true rfl⟩) hlo (fun _ h => h.elim) (fun q9 ce H1 locs1 hB1 hlo hc9 hv9 hcl9 => ?_) (fun H1 locs1 hB1 hlo => ?_)
  · obtain ⟨hinv, hF⟩ := hB1
    exact vx_out (fun x hx => (hno x hx).elim) hlocks hc9 hv9 hcl9 (fun t ht _ => ⟨rfl, fun h => hinv h.2, by rw [ht]; exact hF⟩) hlo (by decide) (by decide)
  obtain ⟨rfl, kp, hkp, rfl⟩ := hB1
  have hl : lv_has ls 4 [(0, .ref o), (1, .int (nI kr)), (2, .int (nI kp))] := hl
  obtain ⟨fkr, h_kr, hNkr⟩ := hR kr hkr
  have hvkr := hV kr hkr
  refine lv_iload_n hx hb d_C_get_11 rfl (lv_at hl 2 rfl) ?_
  refine x_calli (A := CA o) (va_runS (As := [.int (nI kp)]) (rest := []) ⟨hx, hb, hml, hown, htw⟩ (c_lowLimb l D cJ cI cQ cR kp hkp) (xcS 1 htw kw_125 kw_1 kw_123 kw_124 rfl rfl ⟨by decide, by decide, by decide +kernel⟩ ⟨Nat.le_of_ble_eq_true rfl, Nat.le_of_ble_eq_true rfl⟩) (xPre hK trivial) rfl rfl hl.1 rfl (lv_room (Nat.le_of_ble_eq_true rfl)) d_C_get_12 ⟨Nat.le_of_ble_eq_true rfl, Nat.le_of_ble_eq_true rfl⟩) hlo (fun _ h => h.elim) (fun r2 H2 locs2 hB2 hlo => ?_)
  obtain ⟨rfl, rfl⟩ := hB2
  refine lv_istore_n hx hb d_C_get_15 rfl hl (by decide) rfl (fun ls hl => ?_)
  have hl : lv_has ls 4 [(3, .int (nI (2 * (3 - kp)))), (0, .ref o), (1, .int (nI kr)), (2, .int (nI kp))] := hl
  refine lv_aload_n hx hb d_C_get_16 rfl (lv_at hl 1 rfl) ?_
  refine va_get (D := D) (ci := 0) (v := .ref (o + 1)) (C := "WideNumbers") (T := F_C) (N := 7) hx hb htw inC hown hK hO.1 0 rfl rfl 0 (by decide) (htw _ kw_20) (fun _ h9 => h9) rfl d_C_get_17 ?_
  refine lv_iload_n hx hb d_C_get_20 rfl (lv_at hl 2 rfl) ?_
  refine x_aald hx hb rfl hQ9 hO.2 kr rfl hkr (by omega) (v := o + 2 + kr) (if_pos hkr) d_C_get_21 ?_
  refine lv_iload_n hx hb d_C_get_22 rfl (lv_at hl 0 rfl) ?_
  refine lv_iconst (v := nI 1) hx hb d_C_get_23 (by decide) ?_
  refine lv_iadd hx hb d_C_get_24 ?_
  refine x_topi (v := nI (2 * (3 - kp) + 1)) (nI_1 _) ?_
  refine x_lald hx hb hJ h_kr (2 * (3 - kp) + 1) (rfl) (by omega) (by omega) (v := lN (dg (V kr) (2 * (3 - kp) + 1))) (hNkr _ (by omega)) d_C_get_25 ?_
  refine lv_bipush (v := nI 32) hx hb d_C_get_26 (by decide) ?_
  refine lv_lshl (v := lN (dg (V kr) (2 * (3 - kp) + 1) * 4294967296)) hx hb d_C_get_28 (jN_shl (k := 32) _ (by decide)) ?_
  refine lv_aload_n hx hb d_C_get_29 rfl (lv_at hl 1 rfl) ?_
  refine va_get (D := D) (ci := 0) (v := .ref (o + 1)) (C := "WideNumbers") (T := F_C) (N := 7) hx hb htw inC hown hK hO.1 0 rfl rfl 0 (by decide) (htw _ kw_20) (fun _ h9 => h9) rfl d_C_get_30 ?_
  refine lv_iload_n hx hb d_C_get_33 rfl (lv_at hl 2 rfl) ?_
  refine x_aald hx hb rfl hQ9 hO.2 kr rfl hkr (by omega) (v := o + 2 + kr) (if_pos hkr) d_C_get_34 ?_
  refine lv_iload_n hx hb d_C_get_35 rfl (lv_at hl 0 rfl) ?_
  refine x_lald hx hb hJ h_kr (2 * (3 - kp)) (rfl) (by omega) (by omega) (v := lN (dg (V kr) (2 * (3 - kp)))) (hNkr _ (by omega)) d_C_get_36 ?_
  refine lv_lor hx hb d_C_get_37 ?_
  refine x_topl (v := lN (gp (V kr) kp)) (jN_or _ _) ?_
  exact vx_ret (W.lret hx hb hr (fun t ht hW => ⟨_, rfl, ht, kr, kp, hkr, rfl, hkp, rfl, rfl⟩) hlo d_C_get_38)
set_option maxHeartbeats 4000000 in
set_option maxRecDepth 100000 in
theorem c_set (l : Launch) (D : va_G) (cJ cI cQ cR : ClassId) (b0 sa : Nat) (hst : l.stackTraces = false) (o : Nat) (V : Nat → Nat) (hV : ∀ r, r < 16 → V r < 2 ^ 256) (r : Int32) (p0 p1 p2 p3 : Nat) (h0 : p0 < 18446744073709551616) (h1 : p1 < 18446744073709551616) (h2 : p2 < 18446744073709551616) (h3 : p3 < 18446744073709551616) : vx_Met l y_C_set w_C_set { frames := 8, cells := 1, slots := 6, locals := 131 } (xPX D vwCl (TY cJ cI cQ cR) b0 sa [.ref o, .int r, .long (lN p0), .long (lN p1), .long (lN p2), .long (lN p3)] (fun H => CO D cJ cQ o V H)) (xQv (fun H0 H => XF (CA o) H0 H ∧ ∃ kr : Nat, kr < 16 ∧ r = nI kr ∧ CO D cJ cQ o (va_up V kr (sv p0 p1 p2 p3)) H)) (xX (fun H0 H => ¬ vd r 16 ∧ XF (fun _ => False) H0 H)) 1 6 (CA o) := by
  refine vx_ofW (cc := b_C_set) (maxL := 10) (ret := none) (by decide) rfl ?_
  intro p e s m args below meth c s₁ B hml hno hv
  obtain ⟨rfl, hK, hE, ⟨hO, hSC, hR⟩⟩ := hv
  have hx := B.exec
  have hb := B.bytes
  have hr := B.returns
  have hts := atoms_spec (ws := w_C_set) B.pre
  have htw : ∀ w ∈ WT, w.before _ s = true := fun w h => hts w (List.mem_cons_of_mem _ h)
  have hown : s.vm.findClass "WideNumbers" = some m.cls := findClass_of_methodNamed B.named
  have hlocks := B.notSynchronized
  have hJ : ArrOfT s cJ .long := (hK.2 0 _ rfl).1
  have hI9 : ArrOfT s cI .int := (hK.2 1 _ rfl).1
  have hQ9 : ArrOfT s cQ (.array .long) := (hK.2 2 _ rfl).1
  have hl := lv_entry ([.ref o, .int r, .long (lN p0), .long (lN p1), .long (lN p2), .long (lN p3)]) (n := 10) (Nat.le_of_ble_eq_true rfl)
  rw [lg_entry_eq]
  generalize (lg_sl ([.ref o, .int r, .long (lN p0), .long (lN p1), .long (lN p2), .long (lN p3)]) ++ List.replicate (10 - (lg_sl ([.ref o, .int r, .long (lN p0), .long (lN p1), .long (lN p2), .long (lN p3)])).length) Slot.unset).toArray = ls at hl ⊢
  have hl : lv_has ls 10 [(0, .ref o), (1, .int r), (2, .long (lN p0)), (4, .long (lN p1)), (6, .long (lN p2)), (8, .long (lN p3))] := hl
  have hlo : ∀ q ∈ ([] : List Loc), CA o q.base := fun _ h => nomatch h
  refine lv_iload_n hx hb d_C_set_0 rfl (lv_at hl 1 rfl) ?_
  refine lv_bipush (v := nI 16) hx hb d_C_set_1 (by decide) ?_
  refine x_xcallv (A := CA o) (vx_runS (As := [.int r, .int (nI 16)]) (rest := []) ⟨hx, hb, hml, hown, htw⟩ (c_refuse l D cJ cI cQ cR b0 sa hst r 16 (by decide)) (xcS 2 htw kw_53 kw_1 kw_51 kw_52 rfl rfl ⟨by decide, by decide, by decide +kernel⟩ ⟨Nat.le_of_ble_eq_true rfl, Nat.le_of_ble_eq_true rfl⟩) (xPreX hK hE (fun _ _ _ => rfl) trivial) rfl rfl hl.1 rfl (lv_room (Nat.le_of_ble_eq_true rfl)) d_C_set_3 ⟨Nat.le_of_ble_eq_true rfl, Nat.le_of_ble_eq_true rfl⟩) hlo (fun _ h => h.elim) (fun q9 ce H1 locs1 hB1 hlo hc9 hv9 hcl9 => ?_) (fun H1 locs1 hB1 hlo => ?_)
  · obtain ⟨hinv, hF⟩ := hB1
    exact vx_out (fun x hx => (hno x hx).elim) hlocks hc9 hv9 hcl9 (fun t ht _ => ⟨rfl, hinv, by rw [ht]; exact hF⟩) hlo (by decide) (by decide)
  obtain ⟨rfl, kr, hkr, rfl⟩ := hB1
  have hl : lv_has ls 10 [(0, .ref o), (1, .int (nI kr)), (2, .long (lN p0)), (4, .long (lN p1)), (6, .long (lN p2)), (8, .long (lN p3))] := hl
  obtain ⟨fkr, h_kr, hNkr⟩ := hR kr hkr
  have hvkr := hV kr hkr
  have hG : XF (fun q => q = o + 2 + kr) s.heap s.heap := XF.rf
  refine lv_aload_n hx hb d_C_set_6 rfl (lv_at hl 0 rfl) ?_
  refine va_get (D := D) (ci := 0) (v := .ref (o + 1)) (C := "WideNumbers") (T := F_C) (N := 7) hx hb htw inC hown hK hO.1 0 rfl rfl 0 (by decide) (htw _ kw_20) (fun _ h9 => h9) rfl d_C_set_7 ?_
  refine lv_iload_n hx hb d_C_set_10 rfl (lv_at hl 1 rfl) ?_
  refine x_aald hx hb rfl hQ9 hO.2 kr rfl hkr (by omega) (v := o + 2 + kr) (if_pos hkr) d_C_set_11 ?_
  refine lv_iconst (v := nI 0) hx hb d_C_set_12 (by decide) ?_
  refine lv_lload_n hx hb d_C_set_13 rfl (lv_at hl 2 rfl) ?_
  refine x_callv (A := CA o) (va_runS (As := [.ref (o + 2 + kr), .int (nI 0), .long (lN p0)]) (rest := []) ⟨hx, hb, hml, hown, htw⟩ (c_writePart l D cJ cI cQ cR (o + 2 + kr) 0 p0 _ (by decide) h0) (xcS 3 htw kw_122 kw_1 kw_120 kw_121 rfl rfl ⟨by decide, by decide, by decide +kernel⟩ ⟨Nat.le_of_ble_eq_true rfl, Nat.le_of_ble_eq_true rfl⟩) (xPre hK h_kr) rfl rfl hl.1 rfl (lv_room (Nat.le_of_ble_eq_true rfl)) d_C_set_14 ⟨Nat.le_of_ble_eq_true rfl, Nat.le_of_ble_eq_true rfl⟩) hlo (fun q h => by have h : q = o + 2 + kr := h; rw [h]; exact ⟨by omega, by omega⟩) (fun G0 locg0 hB0 hlo => ?_)
  obtain ⟨hF0, h_kr⟩ := hB0
  have hO := hO.f1 hF0 (by omega)
  have hG := hG.tr hF0 (fun _ h => h)
  refine lv_aload_n hx hb d_C_set_17 rfl (lv_at hl 0 rfl) ?_
  refine va_get (D := D) (ci := 0) (v := .ref (o + 1)) (C := "WideNumbers") (T := F_C) (N := 7) hx hb htw inC hown hK hO.1 0 rfl rfl 0 (by decide) (htw _ kw_20) (fun _ h9 => h9) rfl d_C_set_18 ?_
  refine lv_iload_n hx hb d_C_set_21 rfl (lv_at hl 1 rfl) ?_
  refine x_aald hx hb rfl hQ9 hO.2 kr rfl hkr (by omega) (v := o + 2 + kr) (if_pos hkr) d_C_set_22 ?_
  refine lv_iconst (v := nI 1) hx hb d_C_set_23 (by decide) ?_
  refine lv_lload hx hb d_C_set_24 (lv_at hl 3 rfl) ?_
  refine x_callv (A := CA o) (va_runS (As := [.ref (o + 2 + kr), .int (nI 1), .long (lN p1)]) (rest := []) ⟨hx, hb, hml, hown, htw⟩ (c_writePart l D cJ cI cQ cR (o + 2 + kr) 1 p1 _ (by decide) h1) (xcS 3 htw kw_122 kw_1 kw_120 kw_121 rfl rfl ⟨by decide, by decide, by decide +kernel⟩ ⟨Nat.le_of_ble_eq_true rfl, Nat.le_of_ble_eq_true rfl⟩) (xPre hK h_kr) rfl rfl hl.1 rfl (lv_room (Nat.le_of_ble_eq_true rfl)) d_C_set_26 ⟨Nat.le_of_ble_eq_true rfl, Nat.le_of_ble_eq_true rfl⟩) hlo (fun q h => by have h : q = o + 2 + kr := h; rw [h]; exact ⟨by omega, by omega⟩) (fun G1 locg1 hB1 hlo => ?_)
  obtain ⟨hF1, h_kr⟩ := hB1
  have hO := hO.f1 hF1 (by omega)
  have hG := hG.tr hF1 (fun _ h => h)
  refine lv_aload_n hx hb d_C_set_29 rfl (lv_at hl 0 rfl) ?_
  refine va_get (D := D) (ci := 0) (v := .ref (o + 1)) (C := "WideNumbers") (T := F_C) (N := 7) hx hb htw inC hown hK hO.1 0 rfl rfl 0 (by decide) (htw _ kw_20) (fun _ h9 => h9) rfl d_C_set_30 ?_
  refine lv_iload_n hx hb d_C_set_33 rfl (lv_at hl 1 rfl) ?_
  refine x_aald hx hb rfl hQ9 hO.2 kr rfl hkr (by omega) (v := o + 2 + kr) (if_pos hkr) d_C_set_34 ?_
  refine lv_iconst (v := nI 2) hx hb d_C_set_35 (by decide) ?_
  refine lv_lload hx hb d_C_set_36 (lv_at hl 4 rfl) ?_
  refine x_callv (A := CA o) (va_runS (As := [.ref (o + 2 + kr), .int (nI 2), .long (lN p2)]) (rest := []) ⟨hx, hb, hml, hown, htw⟩ (c_writePart l D cJ cI cQ cR (o + 2 + kr) 2 p2 _ (by decide) h2) (xcS 3 htw kw_122 kw_1 kw_120 kw_121 rfl rfl ⟨by decide, by decide, by decide +kernel⟩ ⟨Nat.le_of_ble_eq_true rfl, Nat.le_of_ble_eq_true rfl⟩) (xPre hK h_kr) rfl rfl hl.1 rfl (lv_room (Nat.le_of_ble_eq_true rfl)) d_C_set_38 ⟨Nat.le_of_ble_eq_true rfl, Nat.le_of_ble_eq_true rfl⟩) hlo (fun q h => by have h : q = o + 2 + kr := h; rw [h]; exact ⟨by omega, by omega⟩) (fun G2 locg2 hB2 hlo => ?_)
  obtain ⟨hF2, h_kr⟩ := hB2
  have hO := hO.f1 hF2 (by omega)
  have hG := hG.tr hF2 (fun _ h => h)
  refine lv_aload_n hx hb d_C_set_41 rfl (lv_at hl 0 rfl) ?_
  refine va_get (D := D) (ci := 0) (v := .ref (o + 1)) (C := "WideNumbers") (T := F_C) (N := 7) hx hb htw inC hown hK hO.1 0 rfl rfl 0 (by decide) (htw _ kw_20) (fun _ h9 => h9) rfl d_C_set_42 ?_
  refine lv_iload_n hx hb d_C_set_45 rfl (lv_at hl 1 rfl) ?_
  refine x_aald hx hb rfl hQ9 hO.2 kr rfl hkr (by omega) (v := o + 2 + kr) (if_pos hkr) d_C_set_46 ?_
  refine lv_iconst (v := nI 3) hx hb d_C_set_47 (by decide) ?_
  refine lv_lload hx hb d_C_set_48 (lv_at hl 5 rfl) ?_
  refine x_callv (A := CA o) (va_runS (As := [.ref (o + 2 + kr), .int (nI 3), .long (lN p3)]) (rest := []) ⟨hx, hb, hml, hown, htw⟩ (c_writePart l D cJ cI cQ cR (o + 2 + kr) 3 p3 _ (by decide) h3) (xcS 3 htw kw_122 kw_1 kw_120 kw_121 rfl rfl ⟨by decide, by decide, by decide +kernel⟩ ⟨Nat.le_of_ble_eq_true rfl, Nat.le_of_ble_eq_true rfl⟩) (xPre hK h_kr) rfl rfl hl.1 rfl (lv_room (Nat.le_of_ble_eq_true rfl)) d_C_set_50 ⟨Nat.le_of_ble_eq_true rfl, Nat.le_of_ble_eq_true rfl⟩) hlo (fun q h => by have h : q = o + 2 + kr := h; rw [h]; exact ⟨by omega, by omega⟩) (fun G3 locg3 hB3 hlo => ?_)
  obtain ⟨hF3, h_kr⟩ := hB3
  have hO := hO.f1 hF3 (by omega)
  have hG := hG.tr hF3 (fun _ h => h)
  have hd := sv_dg h0 h1 h2 h3
  have hR2 := hR.put hG h_kr (v := sv p0 p1 p2 p3) (fun j hj => by
    rcases j8 hj with rfl | rfl | rfl | rfl | rfl | rfl | rfl | rfl <;> simp [vp_updL, hd])
  exact vx_ret (W.vret hx hb hr (fun t ht hW => ⟨rfl, by rw [ht]; exact hG.wk (fun q h => by have h : q = o + 2 + kr := h; rw [h]; exact ⟨by omega, by omega⟩), kr, hkr, rfl, by rw [ht]; exact ⟨hO, hSC.f1 hG (by omega), hR2⟩⟩) hlo d_C_set_53)
set_option maxHeartbeats 4000000 in
set_option maxRecDepth 100000 in
theorem c_two (l : Launch) (D : va_G) (cJ cI cQ cR : ClassId) (b0 sa : Nat) (hst : l.stackTraces = false) (o : Nat) (V : Nat → Nat) (hV : ∀ r, r < 16 → V r < 2 ^ 256) (op to a b : Int32) : vx_Met l y_C_two w_C_two { frames := 8, cells := 4, slots := 24, locals := 152 } (xPX D vwCl (TY cJ cI cQ cR) b0 sa [.ref o, .int op, .int to, .int a, .int b] (fun H => CO D cJ cQ o V H)) (xQv (fun H0 H => XF (CA o) H0 H ∧ ∃ ko kt ka kb : Nat, ko < 16 ∧ op = nI ko ∧ kt < 16 ∧ to = nI kt ∧ ka < 16 ∧ a = nI ka ∧ kb < 16 ∧ b = nI kb ∧ CO D cJ cQ o (va_up V kt (opv ko (V ka) (V kb))) H)) (xX (fun H0 H => ¬ (vd op 16 ∧ vd to 16 ∧ vd a 16 ∧ vd b 16) ∧ XF (fun _ => False) H0 H)) 4 24 (CA o) := by
  refine vx_ofW (cc := b_C_two) (maxL := 5) (ret := none) (by decide) rfl ?_
  intro p e s m args below meth c s₁ B hml hno hv
  obtain ⟨rfl, hK, hE, ⟨hO, hSC, hR⟩⟩ := hv
  have hx := B.exec
  have hb := B.bytes
  have hr := B.returns
  have hts := atoms_spec (ws := w_C_two) B.pre
  have htw : ∀ w ∈ WT, w.before _ s = true := fun w h => hts w (List.mem_cons_of_mem _ h)
  have hown : s.vm.findClass "WideNumbers" = some m.cls := findClass_of_methodNamed B.named
  have hlocks := B.notSynchronized
  have hJ : ArrOfT s cJ .long := (hK.2 0 _ rfl).1
  have hI9 : ArrOfT s cI .int := (hK.2 1 _ rfl).1
  have hQ9 : ArrOfT s cQ (.array .long) := (hK.2 2 _ rfl).1
  have hl := lv_entry ([.ref o, .int op, .int to, .int a, .int b]) (n := 5) (Nat.le_of_ble_eq_true rfl)
  rw [lg_entry_eq]
  generalize (lg_sl ([.ref o, .int op, .int to, .int a, .int b]) ++ List.replicate (5 - (lg_sl ([.ref o, .int op, .int to, .int a, .int b])).length) Slot.unset).toArray = ls at hl ⊢
  have hl : lv_has ls 5 [(0, .ref o), (1, .int op), (2, .int to), (3, .int a), (4, .int b)] := hl
  have hlo : ∀ q ∈ ([] : List Loc), CA o q.base := fun _ h => nomatch h
  refine lv_iload_n hx hb d_C_two_0 rfl (lv_at hl 1 rfl) ?_
  refine lv_bipush (v := nI 16) hx hb d_C_two_1 (by decide) ?_
  refine x_xcallv (A := CA o) (vx_runS (As := [.int op, .int (nI 16)]) (rest := []) ⟨hx, hb, hml, hown, htw⟩ (c_refuse l D cJ cI cQ cR b0 sa hst op 16 (by decide)) (xcS 2 htw kw_53 kw_1 kw_51 kw_52 rfl rfl ⟨by decide, by decide, by decide +kernel⟩ ⟨Nat.le_of_ble_eq_true rfl, Nat.le_of_ble_eq_true rfl⟩) (xPreX hK hE (fun _ _ _ => rfl) trivial) rfl rfl hl.1 rfl (lv_room (Nat.le_of_ble_eq_true rfl)) d_C_two_3 ⟨Nat.le_of_ble_eq_true rfl, Nat.le_of_ble_eq_true rfl⟩) hlo (fun _ h => h.elim) (fun q9 ce H1 locs1 hB1 hlo hc9 hv9 hcl9 => ?_) (fun H1 locs1 hB1 hlo => ?_)
  · obtain ⟨hinv, hF⟩ := hB1
    exact vx_out (fun x hx => (hno x hx).elim) hlocks hc9 hv9 hcl9 (fun t ht _ => ⟨rfl, fun h => hinv h.1, by rw [ht]; exact hF⟩) hlo (by decide) (by decide)
  obtain ⟨rfl, ko, hko, rfl⟩ := hB1
  have hl : lv_has ls 5 [(0, .ref o), (1, .int (nI ko)), (2, .int to), (3, .int a), (4, .int b)] := hl
  refine lv_iload_n hx hb d_C_two_6 rfl (lv_at hl 2 rfl) ?_
  refine lv_bipush (v := nI 16) hx hb d_C_two_7 (by decide) ?_
  refine x_xcallv (A := CA o) (vx_runS (As := [.int to, .int (nI 16)]) (rest := []) ⟨hx, hb, hml, hown, htw⟩ (c_refuse l D cJ cI cQ cR b0 sa hst to 16 (by decide)) (xcS 2 htw kw_53 kw_1 kw_51 kw_52 rfl rfl ⟨by decide, by decide, by decide +kernel⟩ ⟨Nat.le_of_ble_eq_true rfl, Nat.le_of_ble_eq_true rfl⟩) (xPreX hK hE (fun _ _ _ => rfl) trivial) rfl rfl hl.1 rfl (lv_room (Nat.le_of_ble_eq_true rfl)) d_C_two_9 ⟨Nat.le_of_ble_eq_true rfl, Nat.le_of_ble_eq_true rfl⟩) hlo (fun _ h => h.elim) (fun q9 ce H1 locs1 hB1 hlo hc9 hv9 hcl9 => ?_) (fun H1 locs1 hB1 hlo => ?_)
  · obtain ⟨hinv, hF⟩ := hB1
    exact vx_out (fun x hx => (hno x hx).elim) hlocks hc9 hv9 hcl9 (fun t ht _ => ⟨rfl, fun h => hinv h.2.1, by rw [ht]; exact hF⟩) hlo (by decide) (by decide)
  obtain ⟨rfl, kt, hkt, rfl⟩ := hB1
  have hl : lv_has ls 5 [(0, .ref o), (1, .int (nI ko)), (2, .int (nI kt)), (3, .int a), (4, .int b)] := hl
  refine lv_iload_n hx hb d_C_two_12 rfl (lv_at hl 3 rfl) ?_
  refine lv_bipush (v := nI 16) hx hb d_C_two_13 (by decide) ?_
  refine x_xcallv (A := CA o) (vx_runS (As := [.int a, .int (nI 16)]) (rest := []) ⟨hx, hb, hml, hown, htw⟩ (c_refuse l D cJ cI cQ cR b0 sa hst a 16 (by decide)) (xcS 2 htw kw_53 kw_1 kw_51 kw_52 rfl rfl ⟨by decide, by decide, by decide +kernel⟩ ⟨Nat.le_of_ble_eq_true rfl, Nat.le_of_ble_eq_true rfl⟩) (xPreX hK hE (fun _ _ _ => rfl) trivial) rfl rfl hl.1 rfl (lv_room (Nat.le_of_ble_eq_true rfl)) d_C_two_15 ⟨Nat.le_of_ble_eq_true rfl, Nat.le_of_ble_eq_true rfl⟩) hlo (fun _ h => h.elim) (fun q9 ce H1 locs1 hB1 hlo hc9 hv9 hcl9 => ?_) (fun H1 locs1 hB1 hlo => ?_)
  · obtain ⟨hinv, hF⟩ := hB1
    exact vx_out (fun x hx => (hno x hx).elim) hlocks hc9 hv9 hcl9 (fun t ht _ => ⟨rfl, fun h => hinv h.2.2.1, by rw [ht]; exact hF⟩) hlo (by decide) (by decide)
  obtain ⟨rfl, ka, hka, rfl⟩ := hB1
  have hl : lv_has ls 5 [(0, .ref o), (1, .int (nI ko)), (2, .int (nI kt)), (3, .int (nI ka)), (4, .int b)] := hl
  refine lv_iload hx hb d_C_two_18 (lv_at hl 4 rfl) ?_
  refine lv_bipush (v := nI 16) hx hb d_C_two_20 (by decide) ?_
  refine x_xcallv (A := CA o) (vx_runS (As := [.int b, .int (nI 16)]) (rest := []) ⟨hx, hb, hml, hown, htw⟩ (c_refuse l D cJ cI cQ cR b0 sa hst b 16 (by decide)) (xcS 2 htw kw_53 kw_1 kw_51 kw_52 rfl rfl ⟨by decide, by decide, by decide +kernel⟩ ⟨Nat.le_of_ble_eq_true rfl, Nat.le_of_ble_eq_true rfl⟩) (xPreX hK hE (fun _ _ _ => rfl) trivial) rfl rfl hl.1 rfl (lv_room (Nat.le_of_ble_eq_true rfl)) d_C_two_22 ⟨Nat.le_of_ble_eq_true rfl, Nat.le_of_ble_eq_true rfl⟩) hlo (fun _ h => h.elim) (fun q9 ce H1 locs1 hB1 hlo hc9 hv9 hcl9 => ?_) (fun H1 locs1 hB1 hlo => ?_)
  · obtain ⟨hinv, hF⟩ := hB1
    exact vx_out (fun x hx => (hno x hx).elim) hlocks hc9 hv9 hcl9 (fun t ht _ => ⟨rfl, fun h => hinv h.2.2.2, by rw [ht]; exact hF⟩) hlo (by decide) (by decide)
  obtain ⟨rfl, kb, hkb, rfl⟩ := hB1
  have hl : lv_has ls 5 [(0, .ref o), (1, .int (nI ko)), (2, .int (nI kt)), (3, .int (nI ka)), (4, .int (nI kb))] := hl
  obtain ⟨fka, h_ka, hNka⟩ := hR ka hka
  have hvka := hV ka hka
  obtain ⟨fkb, h_kb, hNkb⟩ := hR kb hkb
  have hvkb := hV kb hkb
  refine lv_iload_n hx hb d_C_two_25 rfl (lv_at hl 1 rfl) ?_
  refine lv_bipush (v := nI 7) hx hb d_C_two_26 (by decide) ?_
  refine x_cut 70 (fun H locs ls => lv_has ls 5 [(0, .ref o), (1, .int (nI ko)), (2, .int (nI kt)), (3, .int (nI ka)), (4, .int (nI kb))] ∧ (∀ q ∈ locs, CA o q.base) ∧ XF (CA o) s.heap H ∧ CB D cQ o H ∧ SC cJ o H ∧ RG cJ o V H ∧ ∃ f, hL H cJ (o + 18) 8 f ∧ NL f 8 (opv ko (V ka) (V kb))) ?_ (fun J => ?_)
  · rintro H locs ls ⟨hl, hlo, hG, hO, hSC, hR, f, hf, hN⟩
    refine lv_aload_n hx hb d_C_two_70 rfl (lv_at hl 0 rfl) ?_
    refine va_get (D := D) (ci := 0) (v := .ref (o + 1)) (C := "WideNumbers") (T := F_C) (N := 7) hx hb htw inC hown hK hO.1 0 rfl rfl 0 (by decide) (htw _ kw_20) (fun _ h9 => h9) rfl d_C_two_71 ?_
    refine lv_iload_n hx hb d_C_two_74 rfl (lv_at hl 2 rfl) ?_
    refine x_aald hx hb rfl hQ9 hO.2 kt rfl hkt (by omega) (v := o + 2 + kt) (if_pos hkt) d_C_two_75 ?_
    refine lv_aload_n hx hb d_C_two_76 rfl (lv_at hl 0 rfl) ?_
    refine va_get (D := D) (ci := 0) (v := .ref (o + 18)) (C := "WideNumbers") (T := F_C) (N := 7) hx hb htw inC hown hK hO.1 0 rfl rfl 1 (by decide) (htw _ kw_21) (fun _ h9 => h9) rfl d_C_two_77 ?_
    obtain ⟨ft, h_t, hNt⟩ := hR kt hkt
    refine x_callv (A := CA o) (va_runS (As := [.ref (o + 2 + kt), .ref (o + 18)]) (rest := []) ⟨hx, hb, hml, hown, htw⟩ (c_copy l D cJ cI cQ cR (o + 2 + kt) (o + 18) 8 (opv ko (V ka) (V kb)) ft f (by decide) (by omega) hN) (xcS 2 htw kw_179 kw_1 kw_177 kw_178 rfl rfl ⟨by decide, by decide, by decide +kernel⟩ ⟨Nat.le_of_ble_eq_true rfl, Nat.le_of_ble_eq_true rfl⟩) (xPre hK ⟨h_t, hf⟩) rfl rfl hl.1 rfl (lv_room (Nat.le_of_ble_eq_true rfl)) d_C_two_80 ⟨Nat.le_of_ble_eq_true rfl, Nat.le_of_ble_eq_true rfl⟩) hlo (fun q h => by rcases h with h | h <;> (rw [h]; exact ⟨by omega, by omega⟩)) (fun H8 locs8 hB8 hlo => ?_)
    obtain ⟨hF8, f8, hf8, hN8⟩ := hB8
    have hO := hO.f1 hF8 (by omega)
    have hSC := hSC.f1 hF8 (by omega)
    have hR := hR.put hF8 hf8 hN8
    have hG := hG.tr hF8 (fun q h => by have h : q = o + 2 + kt := h; rw [h]; exact ⟨by omega, by omega⟩)
    exact vx_ret (W.vret hx hb hr (fun t ht hW => ⟨rfl, by rw [ht]; exact hG, ko, kt, ka, kb, hko, rfl, hkt, rfl, hka, rfl, hkb, rfl, by rw [ht]; exact ⟨hO, hSC, hR⟩⟩) hlo d_C_two_83)
  · refine lv_icmp_gt (tgt := 52) hx hb d_C_two_28 (by decide) (fun hc => ?_) (fun hc => ?_)
    · refine lv_aload_n hx hb d_C_two_52 rfl (lv_at hl 0 rfl) ?_
      refine lv_iload_n hx hb d_C_two_53 rfl (lv_at hl 1 rfl) ?_
      refine lv_aload_n hx hb d_C_two_54 rfl (lv_at hl 0 rfl) ?_
      refine va_get (D := D) (ci := 0) (v := .ref (o + 1)) (C := "WideNumbers") (T := F_C) (N := 7) hx hb htw inC hown hK hO.1 0 rfl rfl 0 (by decide) (htw _ kw_20) (fun _ h9 => h9) rfl d_C_two_55 ?_
      refine lv_iload_n hx hb d_C_two_58 rfl (lv_at hl 3 rfl) ?_
      refine x_aald hx hb rfl hQ9 hO.2 ka rfl hka (by omega) (v := o + 2 + ka) (if_pos hka) d_C_two_59 ?_
      refine lv_aload_n hx hb d_C_two_60 rfl (lv_at hl 0 rfl) ?_
      refine va_get (D := D) (ci := 0) (v := .ref (o + 1)) (C := "WideNumbers") (T := F_C) (N := 7) hx hb htw inC hown hK hO.1 0 rfl rfl 0 (by decide) (htw _ kw_20) (fun _ h9 => h9) rfl d_C_two_61 ?_
      refine lv_iload hx hb d_C_two_64 (lv_at hl 4 rfl) ?_
      refine x_aald hx hb rfl hQ9 hO.2 kb rfl hkb (by omega) (v := o + 2 + kb) (if_pos hkb) d_C_two_66 ?_
      refine x_callv (A := CA o) (va_runV (As := [.int (nI ko), .ref (o + 2 + ka), .ref (o + 2 + kb)]) (rest := []) ⟨hx, hb, hml, hown, htw⟩ (c_arrangeBits l D cJ cI cQ cR ko ⟨Nat.le_of_not_lt (fun h => absurd hc (nI_nlt (by omega) (by omega))), by omega⟩ o (o + 2 + ka) (o + 2 + kb) (V ka) (V kb) fka fkb (by omega) (by omega) hvka hvkb hNka hNkb) (xcV 3 htw kw_203 kw_1 kw_200 kw_202 ks_C_arrangeBits rfl rfl ⟨by decide, by decide, by decide +kernel⟩ ⟨Nat.le_of_ble_eq_true rfl, Nat.le_of_ble_eq_true rfl⟩) (xPreV hK (hO.rv hK) ⟨hO, hSC, h_ka, h_kb⟩) rfl rfl hl.1 rfl (lv_room (Nat.le_of_ble_eq_true rfl)) d_C_two_67 ⟨Nat.le_of_ble_eq_true rfl, Nat.le_of_ble_eq_true rfl⟩) hlo (fun _ h => h) (fun H7 locs7 hB7 hlo => ?_)
      obtain ⟨hF7, hSC7, f7, hf7, hN7⟩ := hB7
      exact J _ _ ls ⟨hl, hlo, hF7.wk (fun _ h => SA_CA h), hO.fS hF7, hSC7, hR.fS hF7, f7, hf7, hN7⟩
    · refine lv_aload_n hx hb d_C_two_31 rfl (lv_at hl 0 rfl) ?_
      refine lv_iload_n hx hb d_C_two_32 rfl (lv_at hl 1 rfl) ?_
      refine lv_aload_n hx hb d_C_two_33 rfl (lv_at hl 0 rfl) ?_
      refine va_get (D := D) (ci := 0) (v := .ref (o + 1)) (C := "WideNumbers") (T := F_C) (N := 7) hx hb htw inC hown hK hO.1 0 rfl rfl 0 (by decide) (htw _ kw_20) (fun _ h9 => h9) rfl d_C_two_34 ?_
      refine lv_iload_n hx hb d_C_two_37 rfl (lv_at hl 3 rfl) ?_
      refine x_aald hx hb rfl hQ9 hO.2 ka rfl hka (by omega) (v := o + 2 + ka) (if_pos hka) d_C_two_38 ?_
      refine lv_aload_n hx hb d_C_two_39 rfl (lv_at hl 0 rfl) ?_
      refine va_get (D := D) (ci := 0) (v := .ref (o + 1)) (C := "WideNumbers") (T := F_C) (N := 7) hx hb htw inC hown hK hO.1 0 rfl rfl 0 (by decide) (htw _ kw_20) (fun _ h9 => h9) rfl d_C_two_40 ?_
      refine lv_iload hx hb d_C_two_43 (lv_at hl 4 rfl) ?_
      refine x_aald hx hb rfl hQ9 hO.2 kb rfl hkb (by omega) (v := o + 2 + kb) (if_pos hkb) d_C_two_45 ?_
      refine x_callv (A := CA o) (va_runV (As := [.int (nI ko), .ref (o + 2 + ka), .ref (o + 2 + kb)]) (rest := []) ⟨hx, hb, hml, hown, htw⟩ (c_calculate l D cJ cI cQ cR ko ⟨by omega, Nat.le_of_not_lt (fun h => hc (nI_lt (by omega) (by omega)))⟩ o (o + 2 + ka) (o + 2 + kb) (V ka) (V kb) fka fkb (by omega) (by omega) hvka hvkb hNka hNkb) (xcV 3 htw kw_144 kw_1 kw_141 kw_143 ks_C_calculate rfl rfl ⟨by decide, by decide, by decide +kernel⟩ ⟨Nat.le_of_ble_eq_true rfl, Nat.le_of_ble_eq_true rfl⟩) (xPreV hK (hO.rv hK) ⟨hO, hSC, h_ka, h_kb⟩) rfl rfl hl.1 rfl (lv_room (Nat.le_of_ble_eq_true rfl)) d_C_two_46 ⟨Nat.le_of_ble_eq_true rfl, Nat.le_of_ble_eq_true rfl⟩) hlo (fun _ h => h) (fun H7 locs7 hB7 hlo => ?_)
      obtain ⟨hF7, hSC7, f7, hf7, hN7⟩ := hB7
      refine lv_goto (tgt := 70) hx hb d_C_two_49 (by decide) ?_
      exact J _ _ ls ⟨hl, hlo, hF7.wk (fun _ h => SA_CA h), hO.fS hF7, hSC7, hR.fS hF7, f7, hf7, hN7⟩
set_option maxHeartbeats 4000000 in
set_option maxRecDepth 100000 in
theorem c_turn (l : Launch) (D : va_G) (cJ cI cQ cR : ClassId) (b0 sa : Nat) (hst : l.stackTraces = false) (o : Nat) (V : Nat → Nat) (hV : ∀ r, r < 16 → V r < 2 ^ 256) (to a z : Int32) : vx_Met l y_C_turn w_C_turn { frames := 8, cells := 2, slots := 12, locals := 131 } (xPX D vwCl (TY cJ cI cQ cR) b0 sa [.ref o, .int to, .int a, .int z] (fun H => CO D cJ cQ o V H)) (xQv (fun H0 H => XF (CA o) H0 H ∧ ∃ kt ka : Nat, kt < 16 ∧ to = nI kt ∧ ka < 16 ∧ a = nI ka ∧ CO D cJ cQ o (va_up V kt (trn z (V ka))) H)) (xX (fun H0 H => ¬ (vd to 16 ∧ vd a 16) ∧ XF (fun _ => False) H0 H)) 2 12 (CA o) := by
  refine vx_ofW (cc := b_C_turn) (maxL := 4) (ret := none) (by decide) rfl ?_
  intro p e s m args below meth c s₁ B hml hno hv
  obtain ⟨rfl, hK, hE, ⟨hO, hSC, hR⟩⟩ := hv
  have hx := B.exec
  have hb := B.bytes
  have hr := B.returns
  have hts := atoms_spec (ws := w_C_turn) B.pre
  have htw : ∀ w ∈ WT, w.before _ s = true := fun w h => hts w (List.mem_cons_of_mem _ h)
  have hown : s.vm.findClass "WideNumbers" = some m.cls := findClass_of_methodNamed B.named
  have hlocks := B.notSynchronized
  have hJ : ArrOfT s cJ .long := (hK.2 0 _ rfl).1
  have hI9 : ArrOfT s cI .int := (hK.2 1 _ rfl).1
  have hQ9 : ArrOfT s cQ (.array .long) := (hK.2 2 _ rfl).1
  have hl := lv_entry ([.ref o, .int to, .int a, .int z]) (n := 4) (Nat.le_of_ble_eq_true rfl)
  rw [lg_entry_eq]
  generalize (lg_sl ([.ref o, .int to, .int a, .int z]) ++ List.replicate (4 - (lg_sl ([.ref o, .int to, .int a, .int z])).length) Slot.unset).toArray = ls at hl ⊢
  have hl : lv_has ls 4 [(0, .ref o), (1, .int to), (2, .int a), (3, .int z)] := hl
  have hlo : ∀ q ∈ ([] : List Loc), CA o q.base := fun _ h => nomatch h
  refine lv_iload_n hx hb d_C_turn_0 rfl (lv_at hl 1 rfl) ?_
  refine lv_bipush (v := nI 16) hx hb d_C_turn_1 (by decide) ?_
  refine x_xcallv (A := CA o) (vx_runS (As := [.int to, .int (nI 16)]) (rest := []) ⟨hx, hb, hml, hown, htw⟩ (c_refuse l D cJ cI cQ cR b0 sa hst to 16 (by decide)) (xcS 2 htw kw_53 kw_1 kw_51 kw_52 rfl rfl ⟨by decide, by decide, by decide +kernel⟩ ⟨Nat.le_of_ble_eq_true rfl, Nat.le_of_ble_eq_true rfl⟩) (xPreX hK hE (fun _ _ _ => rfl) trivial) rfl rfl hl.1 rfl (lv_room (Nat.le_of_ble_eq_true rfl)) d_C_turn_3 ⟨Nat.le_of_ble_eq_true rfl, Nat.le_of_ble_eq_true rfl⟩) hlo (fun _ h => h.elim) (fun q9 ce H1 locs1 hB1 hlo hc9 hv9 hcl9 => ?_) (fun H1 locs1 hB1 hlo => ?_)
  · obtain ⟨hinv, hF⟩ := hB1
    exact vx_out (fun x hx => (hno x hx).elim) hlocks hc9 hv9 hcl9 (fun t ht _ => ⟨rfl, fun h => hinv h.1, by rw [ht]; exact hF⟩) hlo (by decide) (by decide)
  obtain ⟨rfl, kt, hkt, rfl⟩ := hB1
  have hl : lv_has ls 4 [(0, .ref o), (1, .int (nI kt)), (2, .int a), (3, .int z)] := hl
  refine lv_iload_n hx hb d_C_turn_6 rfl (lv_at hl 2 rfl) ?_
  refine lv_bipush (v := nI 16) hx hb d_C_turn_7 (by decide) ?_
  refine x_xcallv (A := CA o) (vx_runS (As := [.int a, .int (nI 16)]) (rest := []) ⟨hx, hb, hml, hown, htw⟩ (c_refuse l D cJ cI cQ cR b0 sa hst a 16 (by decide)) (xcS 2 htw kw_53 kw_1 kw_51 kw_52 rfl rfl ⟨by decide, by decide, by decide +kernel⟩ ⟨Nat.le_of_ble_eq_true rfl, Nat.le_of_ble_eq_true rfl⟩) (xPreX hK hE (fun _ _ _ => rfl) trivial) rfl rfl hl.1 rfl (lv_room (Nat.le_of_ble_eq_true rfl)) d_C_turn_9 ⟨Nat.le_of_ble_eq_true rfl, Nat.le_of_ble_eq_true rfl⟩) hlo (fun _ h => h.elim) (fun q9 ce H1 locs1 hB1 hlo hc9 hv9 hcl9 => ?_) (fun H1 locs1 hB1 hlo => ?_)
  · obtain ⟨hinv, hF⟩ := hB1
    exact vx_out (fun x hx => (hno x hx).elim) hlocks hc9 hv9 hcl9 (fun t ht _ => ⟨rfl, fun h => hinv h.2, by rw [ht]; exact hF⟩) hlo (by decide) (by decide)
  obtain ⟨rfl, ka, hka, rfl⟩ := hB1
  have hl : lv_has ls 4 [(0, .ref o), (1, .int (nI kt)), (2, .int (nI ka)), (3, .int z)] := hl
  obtain ⟨fka, h_ka, hNka⟩ := hR ka hka
  have hvka := hV ka hka
  refine lv_iload_n hx hb d_C_turn_12 rfl (lv_at hl 3 rfl) ?_
  refine x_cut 45 (fun H locs ls => lv_has ls 4 [(0, .ref o), (1, .int (nI kt)), (2, .int (nI ka)), (3, .int z)] ∧ (∀ q ∈ locs, CA o q.base) ∧ XF (CA o) s.heap H ∧ CB D cQ o H ∧ SC cJ o H ∧ RG cJ o V H ∧ ∃ f, hL H cJ (o + 18) 8 f ∧ NL f 8 (trn z (V ka))) ?_ (fun J => ?_)
  · rintro H locs ls ⟨hl, hlo, hG, hO, hSC, hR, f, hf, hN⟩
    refine lv_aload_n hx hb d_C_turn_45 rfl (lv_at hl 0 rfl) ?_
    refine va_get (D := D) (ci := 0) (v := .ref (o + 1)) (C := "WideNumbers") (T := F_C) (N := 7) hx hb htw inC hown hK hO.1 0 rfl rfl 0 (by decide) (htw _ kw_20) (fun _ h9 => h9) rfl d_C_turn_46 ?_
    refine lv_iload_n hx hb d_C_turn_49 rfl (lv_at hl 1 rfl) ?_
    refine x_aald hx hb rfl hQ9 hO.2 kt rfl hkt (by omega) (v := o + 2 + kt) (if_pos hkt) d_C_turn_50 ?_
    refine lv_aload_n hx hb d_C_turn_51 rfl (lv_at hl 0 rfl) ?_
    refine va_get (D := D) (ci := 0) (v := .ref (o + 18)) (C := "WideNumbers") (T := F_C) (N := 7) hx hb htw inC hown hK hO.1 0 rfl rfl 1 (by decide) (htw _ kw_21) (fun _ h9 => h9) rfl d_C_turn_52 ?_
    obtain ⟨ft, h_t, hNt⟩ := hR kt hkt
    refine x_callv (A := CA o) (va_runS (As := [.ref (o + 2 + kt), .ref (o + 18)]) (rest := []) ⟨hx, hb, hml, hown, htw⟩ (c_copy l D cJ cI cQ cR (o + 2 + kt) (o + 18) 8 (trn z (V ka)) ft f (by decide) (by omega) hN) (xcS 2 htw kw_179 kw_1 kw_177 kw_178 rfl rfl ⟨by decide, by decide, by decide +kernel⟩ ⟨Nat.le_of_ble_eq_true rfl, Nat.le_of_ble_eq_true rfl⟩) (xPre hK ⟨h_t, hf⟩) rfl rfl hl.1 rfl (lv_room (Nat.le_of_ble_eq_true rfl)) d_C_turn_55 ⟨Nat.le_of_ble_eq_true rfl, Nat.le_of_ble_eq_true rfl⟩) hlo (fun q h => by rcases h with h | h <;> (rw [h]; exact ⟨by omega, by omega⟩)) (fun H8 locs8 hB8 hlo => ?_)
    obtain ⟨hF8, f8, hf8, hN8⟩ := hB8
    have hO := hO.f1 hF8 (by omega)
    have hSC := hSC.f1 hF8 (by omega)
    have hR := hR.put hF8 hf8 hN8
    have hG := hG.tr hF8 (fun q h => by have h : q = o + 2 + kt := h; rw [h]; exact ⟨by omega, by omega⟩)
    exact vx_ret (W.vret hx hb hr (fun t ht hW => ⟨rfl, by rw [ht]; exact hG, kt, ka, hkt, rfl, hka, rfl, by rw [ht]; exact ⟨hO, hSC, hR⟩⟩) hlo d_C_turn_58)
  · obtain ⟨⟨f18, h_18⟩, h19, h20, h21, h22, h23⟩ := hSC
    refine lv_if_eq (tgt := 32) hx hb d_C_turn_13 (by decide) (fun hc => ?_) (fun hc => ?_)
    · refine lv_aload_n hx hb d_C_turn_32 rfl (lv_at hl 0 rfl) ?_
      refine va_get (D := D) (ci := 0) (v := .ref (o + 18)) (C := "WideNumbers") (T := F_C) (N := 7) hx hb htw inC hown hK hO.1 0 rfl rfl 1 (by decide) (htw _ kw_21) (fun _ h9 => h9) rfl d_C_turn_33 ?_
      refine lv_aload_n hx hb d_C_turn_36 rfl (lv_at hl 0 rfl) ?_
      refine va_get (D := D) (ci := 0) (v := .ref (o + 1)) (C := "WideNumbers") (T := F_C) (N := 7) hx hb htw inC hown hK hO.1 0 rfl rfl 0 (by decide) (htw _ kw_20) (fun _ h9 => h9) rfl d_C_turn_37 ?_
      refine lv_iload_n hx hb d_C_turn_40 rfl (lv_at hl 2 rfl) ?_
      refine x_aald hx hb rfl hQ9 hO.2 ka rfl hka (by omega) (v := o + 2 + ka) (if_pos hka) d_C_turn_41 ?_
      refine x_callv (A := CA o) (va_runS (As := [.ref (o + 18), .ref (o + 2 + ka)]) (rest := []) ⟨hx, hb, hml, hown, htw⟩ (c_negate l D cJ cI cQ cR (o + 18) (o + 2 + ka) 8 (V ka) f18 fka (by decide) (by omega) hvka hNka) (xcS 2 htw kw_195 kw_1 kw_193 kw_194 rfl rfl ⟨by decide, by decide, by decide +kernel⟩ ⟨Nat.le_of_ble_eq_true rfl, Nat.le_of_ble_eq_true rfl⟩) (xPre hK ⟨h_18, h_ka⟩) rfl rfl hl.1 rfl (lv_room (Nat.le_of_ble_eq_true rfl)) d_C_turn_42 ⟨Nat.le_of_ble_eq_true rfl, Nat.le_of_ble_eq_true rfl⟩) hlo (fun q h => by have h : q = o + 18 := h; rw [h]; exact ⟨by omega, by omega⟩) (fun H7 locs7 hB7 hlo => ?_)
      obtain ⟨hF7, f7, hf7, hN7⟩ := hB7
      obtain ⟨⟨f19, h19⟩, ⟨f20, h20⟩, ⟨f21, h21⟩, ⟨f22, h22⟩, ⟨f23, h23⟩⟩ := (⟨h19, h20, h21, h22, h23⟩ : _ ∧ _ ∧ _ ∧ _ ∧ _)
      have hSC7 : SC cJ o H7 := ⟨⟨_, hf7⟩, ⟨_, hL_f h19 hF7 (show o + 19 ≠ o + 18 by omega)⟩, ⟨_, hL_f h20 hF7 (show o + 20 ≠ o + 18 by omega)⟩, ⟨_, hL_f h21 hF7 (show o + 21 ≠ o + 18 by omega)⟩, ⟨_, hL_f h22 hF7 (show o + 22 ≠ o + 18 by omega)⟩, ⟨_, hL_f h23 hF7 (show o + 23 ≠ o + 18 by omega)⟩⟩
      exact J _ _ ls ⟨hl, hlo, hF7.wk (fun q h => by have h : q = o + 18 := h; rw [h]; exact ⟨by omega, by omega⟩), hO.f1 hF7 (by omega), hSC7, hR.f1 hF7 (by omega), f7, hf7, by unfold trn; rw [if_pos hc]; exact hN7⟩
    · refine lv_aload_n hx hb d_C_turn_16 rfl (lv_at hl 0 rfl) ?_
      refine va_get (D := D) (ci := 0) (v := .ref (o + 18)) (C := "WideNumbers") (T := F_C) (N := 7) hx hb htw inC hown hK hO.1 0 rfl rfl 1 (by decide) (htw _ kw_21) (fun _ h9 => h9) rfl d_C_turn_17 ?_
      refine lv_aload_n hx hb d_C_turn_20 rfl (lv_at hl 0 rfl) ?_
      refine va_get (D := D) (ci := 0) (v := .ref (o + 1)) (C := "WideNumbers") (T := F_C) (N := 7) hx hb htw inC hown hK hO.1 0 rfl rfl 0 (by decide) (htw _ kw_20) (fun _ h9 => h9) rfl d_C_turn_21 ?_
      refine lv_iload_n hx hb d_C_turn_24 rfl (lv_at hl 2 rfl) ?_
      refine x_aald hx hb rfl hQ9 hO.2 ka rfl hka (by omega) (v := o + 2 + ka) (if_pos hka) d_C_turn_25 ?_
      refine x_callv (A := CA o) (va_runS (As := [.ref (o + 18), .ref (o + 2 + ka)]) (rest := []) ⟨hx, hb, hml, hown, htw⟩ (c_invert l D cJ cI cQ cR (o + 18) (o + 2 + ka) (V ka) f18 fka (by omega) hvka hNka) (xcS 2 htw kw_253 kw_1 kw_251 kw_252 rfl rfl ⟨by decide, by decide, by decide +kernel⟩ ⟨Nat.le_of_ble_eq_true rfl, Nat.le_of_ble_eq_true rfl⟩) (xPre hK ⟨h_18, h_ka⟩) rfl rfl hl.1 rfl (lv_room (Nat.le_of_ble_eq_true rfl)) d_C_turn_26 ⟨Nat.le_of_ble_eq_true rfl, Nat.le_of_ble_eq_true rfl⟩) hlo (fun q h => by have h : q = o + 18 := h; rw [h]; exact ⟨by omega, by omega⟩) (fun H7 locs7 hB7 hlo => ?_)
      obtain ⟨hF7, f7, hf7, hN7⟩ := hB7
      obtain ⟨⟨f19, h19⟩, ⟨f20, h20⟩, ⟨f21, h21⟩, ⟨f22, h22⟩, ⟨f23, h23⟩⟩ := (⟨h19, h20, h21, h22, h23⟩ : _ ∧ _ ∧ _ ∧ _ ∧ _)
      have hSC7 : SC cJ o H7 := ⟨⟨_, hf7⟩, ⟨_, hL_f h19 hF7 (show o + 19 ≠ o + 18 by omega)⟩, ⟨_, hL_f h20 hF7 (show o + 20 ≠ o + 18 by omega)⟩, ⟨_, hL_f h21 hF7 (show o + 21 ≠ o + 18 by omega)⟩, ⟨_, hL_f h22 hF7 (show o + 22 ≠ o + 18 by omega)⟩, ⟨_, hL_f h23 hF7 (show o + 23 ≠ o + 18 by omega)⟩⟩
      refine lv_goto (tgt := 45) hx hb d_C_turn_29 (by decide) ?_
      exact J _ _ ls ⟨hl, hlo, hF7.wk (fun q h => by have h : q = o + 18 := h; rw [h]; exact ⟨by omega, by omega⟩), hO.f1 hF7 (by omega), hSC7, hR.f1 hF7 (by omega), f7, hf7, by unfold trn; rw [if_neg hc]; exact hN7⟩
set_option maxHeartbeats 4000000 in
set_option maxRecDepth 100000 in
theorem c_compare (l : Launch) (D : va_G) (cJ cI cQ cR : ClassId) (b0 sa : Nat) (hst : l.stackTraces = false) (o : Nat) (V : Nat → Nat) (hV : ∀ r, r < 16 → V r < 2 ^ 256) (a b z : Int32) : vx_Met l y_C_compare w_C_compare { frames := 8, cells := 2, slots := 12, locals := 131 } (xPX D vwCl (TY cJ cI cQ cR) b0 sa [.ref o, .int a, .int b, .int z] (fun H => CO D cJ cQ o V H)) (xQi (fun x H0 H => H = H0 ∧ ∃ ka kb : Nat, ka < 16 ∧ a = nI ka ∧ kb < 16 ∧ b = nI kb ∧ x = cmpv z (V ka) (V kb))) (xX (fun H0 H => ¬ (vd a 16 ∧ vd b 16) ∧ XF (fun _ => False) H0 H)) 2 12 (CA o) := by
  refine vx_ofW (cc := b_C_compare) (maxL := 5) (ret := some .int) (by decide) rfl ?_
  intro p e s m args below meth c s₁ B hml hno hv
  obtain ⟨rfl, hK, hE, ⟨hO, hSC, hR⟩⟩ := hv
  have hx := B.exec
  have hb := B.bytes
  have hr := B.returns
  have hts := atoms_spec (ws := w_C_compare) B.pre
  have htw : ∀ w ∈ WT, w.before _ s = true := fun w h => hts w (List.mem_cons_of_mem _ h)
  have hown : s.vm.findClass "WideNumbers" = some m.cls := findClass_of_methodNamed B.named
  have hlocks := B.notSynchronized
  have hJ : ArrOfT s cJ .long := (hK.2 0 _ rfl).1
  have hI9 : ArrOfT s cI .int := (hK.2 1 _ rfl).1
  have hQ9 : ArrOfT s cQ (.array .long) := (hK.2 2 _ rfl).1
  have hl := lv_entry ([.ref o, .int a, .int b, .int z]) (n := 5) (Nat.le_of_ble_eq_true rfl)
  rw [lg_entry_eq]
  generalize (lg_sl ([.ref o, .int a, .int b, .int z]) ++ List.replicate (5 - (lg_sl ([.ref o, .int a, .int b, .int z])).length) Slot.unset).toArray = ls at hl ⊢
  have hl : lv_has ls 5 [(0, .ref o), (1, .int a), (2, .int b), (3, .int z)] := hl
  have hlo : ∀ q ∈ ([] : List Loc), CA o q.base := fun _ h => nomatch h
  refine lv_iload_n hx hb d_C_compare_0 rfl (lv_at hl 1 rfl) ?_
  refine lv_bipush (v := nI 16) hx hb d_C_compare_1 (by decide) ?_
  refine x_xcallv (A := CA o) (vx_runS (As := [.int a, .int (nI 16)]) (rest := []) ⟨hx, hb, hml, hown, htw⟩ (c_refuse l D cJ cI cQ cR b0 sa hst a 16 (by decide)) (xcS 2 htw kw_53 kw_1 kw_51 kw_52 rfl rfl ⟨by decide, by decide, by decide +kernel⟩ ⟨Nat.le_of_ble_eq_true rfl, Nat.le_of_ble_eq_true rfl⟩) (xPreX hK hE (fun _ _ _ => rfl) trivial) rfl rfl hl.1 rfl (lv_room (Nat.le_of_ble_eq_true rfl)) d_C_compare_3 ⟨Nat.le_of_ble_eq_true rfl, Nat.le_of_ble_eq_true rfl⟩) hlo (fun _ h => h.elim) (fun q9 ce H1 locs1 hB1 hlo hc9 hv9 hcl9 => ?_) (fun H1 locs1 hB1 hlo => ?_)
  · obtain ⟨hinv, hF⟩ := hB1
    exact vx_out (fun x hx => (hno x hx).elim) hlocks hc9 hv9 hcl9 (fun t ht _ => ⟨rfl, fun h => hinv h.1, by rw [ht]; exact hF⟩) hlo (by decide) (by decide)
  obtain ⟨rfl, ka, hka, rfl⟩ := hB1
  have hl : lv_has ls 5 [(0, .ref o), (1, .int (nI ka)), (2, .int b), (3, .int z)] := hl
  refine lv_iload_n hx hb d_C_compare_6 rfl (lv_at hl 2 rfl) ?_
  refine lv_bipush (v := nI 16) hx hb d_C_compare_7 (by decide) ?_
  refine x_xcallv (A := CA o) (vx_runS (As := [.int b, .int (nI 16)]) (rest := []) ⟨hx, hb, hml, hown, htw⟩ (c_refuse l D cJ cI cQ cR b0 sa hst b 16 (by decide)) (xcS 2 htw kw_53 kw_1 kw_51 kw_52 rfl rfl ⟨by decide, by decide, by decide +kernel⟩ ⟨Nat.le_of_ble_eq_true rfl, Nat.le_of_ble_eq_true rfl⟩) (xPreX hK hE (fun _ _ _ => rfl) trivial) rfl rfl hl.1 rfl (lv_room (Nat.le_of_ble_eq_true rfl)) d_C_compare_9 ⟨Nat.le_of_ble_eq_true rfl, Nat.le_of_ble_eq_true rfl⟩) hlo (fun _ h => h.elim) (fun q9 ce H1 locs1 hB1 hlo hc9 hv9 hcl9 => ?_) (fun H1 locs1 hB1 hlo => ?_)
  · obtain ⟨hinv, hF⟩ := hB1
    exact vx_out (fun x hx => (hno x hx).elim) hlocks hc9 hv9 hcl9 (fun t ht _ => ⟨rfl, fun h => hinv h.2, by rw [ht]; exact hF⟩) hlo (by decide) (by decide)
  obtain ⟨rfl, kb, hkb, rfl⟩ := hB1
  have hl : lv_has ls 5 [(0, .ref o), (1, .int (nI ka)), (2, .int (nI kb)), (3, .int z)] := hl
  obtain ⟨fka, h_ka, hNka⟩ := hR ka hka
  have hvka := hV ka hka
  obtain ⟨fkb, h_kb, hNkb⟩ := hR kb hkb
  have hvkb := hV kb hkb
  refine lv_aload_n hx hb d_C_compare_12 rfl (lv_at hl 0 rfl) ?_
  refine va_get (D := D) (ci := 0) (v := .ref (o + 1)) (C := "WideNumbers") (T := F_C) (N := 7) hx hb htw inC hown hK hO.1 0 rfl rfl 0 (by decide) (htw _ kw_20) (fun _ h9 => h9) rfl d_C_compare_13 ?_
  refine lv_iload_n hx hb d_C_compare_16 rfl (lv_at hl 1 rfl) ?_
  refine x_aald hx hb rfl hQ9 hO.2 ka rfl hka (by omega) (v := o + 2 + ka) (if_pos hka) d_C_compare_17 ?_
  refine x_calli (A := CA o) (va_runS (As := [.ref (o + 2 + ka)]) (rest := []) ⟨hx, hb, hml, hown, htw⟩ (c_isNegative l D cJ cI cQ cR (o + 2 + ka) (V ka) fka hvka hNka) (xcS 1 htw kw_189 kw_1 kw_187 kw_188 rfl rfl ⟨by decide, by decide, by decide +kernel⟩ ⟨Nat.le_of_ble_eq_true rfl, Nat.le_of_ble_eq_true rfl⟩) (xPre hK h_ka) rfl rfl hl.1 rfl (lv_room (Nat.le_of_ble_eq_true rfl)) d_C_compare_18 ⟨Nat.le_of_ble_eq_true rfl, Nat.le_of_ble_eq_true rfl⟩) hlo (fun _ h => h.elim) (fun r2 H2 locs2 hB2 hlo => ?_)
  obtain ⟨rfl, rfl⟩ := hB2
  refine lv_istore hx hb d_C_compare_21 hl (by decide) rfl (fun ls hl => ?_)
  have hl : lv_has ls 5 [(4, .int (if 2 ^ 255 ≤ V ka then 1 else 0)), (0, .ref o), (1, .int (nI ka)), (2, .int (nI kb)), (3, .int z)] := hl
  refine x_cut 52 (fun H locs ls => H = s.heap ∧ lv_has ls 5 [(4, .int (if 2 ^ 255 ≤ V ka then 1 else 0)), (0, .ref o), (1, .int (nI ka)), (2, .int (nI kb)), (3, .int z)] ∧ (∀ q ∈ locs, CA o q.base) ∧ cmpv z (V ka) (V kb) = ordv (V ka) (V kb)) ?_ (fun J => ?_)
  · rintro H locs ls ⟨rfl, hl, hlo, hcv⟩
    refine lv_aload_n hx hb d_C_compare_52 rfl (lv_at hl 1 rfl) ?_
    refine va_get (D := D) (ci := 0) (v := .ref (o + 1)) (C := "WideNumbers") (T := F_C) (N := 7) hx hb htw inC hown hK hO.1 0 rfl rfl 0 (by decide) (htw _ kw_20) (fun _ h9 => h9) rfl d_C_compare_53 ?_
    refine lv_iload_n hx hb d_C_compare_56 rfl (lv_at hl 2 rfl) ?_
    refine x_aald hx hb rfl hQ9 hO.2 ka rfl hka (by omega) (v := o + 2 + ka) (if_pos hka) d_C_compare_57 ?_
    refine lv_aload_n hx hb d_C_compare_58 rfl (lv_at hl 1 rfl) ?_
    refine va_get (D := D) (ci := 0) (v := .ref (o + 1)) (C := "WideNumbers") (T := F_C) (N := 7) hx hb htw inC hown hK hO.1 0 rfl rfl 0 (by decide) (htw _ kw_20) (fun _ h9 => h9) rfl d_C_compare_59 ?_
    refine lv_iload_n hx hb d_C_compare_62 rfl (lv_at hl 3 rfl) ?_
    refine x_aald hx hb rfl hQ9 hO.2 kb rfl hkb (by omega) (v := o + 2 + kb) (if_pos hkb) d_C_compare_63 ?_
    refine x_calli (A := CA o) (va_runS (As := [.ref (o + 2 + ka), .ref (o + 2 + kb)]) (rest := []) ⟨hx, hb, hml, hown, htw⟩ (c_order l D cJ cI cQ cR (o + 2 + ka) (o + 2 + kb) (V ka) (V kb) fka fkb hvka hvkb hNka hNkb) (xcS 2 htw kw_176 kw_1 kw_174 kw_175 rfl rfl ⟨by decide, by decide, by decide +kernel⟩ ⟨Nat.le_of_ble_eq_true rfl, Nat.le_of_ble_eq_true rfl⟩) (xPre hK ⟨h_ka, h_kb⟩) rfl rfl hl.1 rfl (lv_room (Nat.le_of_ble_eq_true rfl)) d_C_compare_64 ⟨Nat.le_of_ble_eq_true rfl, Nat.le_of_ble_eq_true rfl⟩) hlo (fun _ h => h.elim) (fun r5 H5 locs5 hB5 hlo => ?_)
    obtain ⟨rfl, rfl⟩ := hB5
    exact vx_ret (W.iret hx hb hr (fun t ht hW => ⟨_, rfl, ht, ka, kb, hka, rfl, hkb, rfl, hcv.symm⟩) hlo d_C_compare_67)
  · refine lv_iload_n hx hb d_C_compare_23 rfl (lv_at hl 4 rfl) ?_
    refine lv_if_eq (tgt := 52) hx hb d_C_compare_24 (by decide) (fun hc => ?_) (fun hc => ?_)
    · exact J _ _ ls ⟨rfl, hl, hlo, by unfold cmpv; rw [if_pos hc]⟩
    · refine lv_iload hx hb d_C_compare_27 (lv_at hl 0 rfl) ?_
      refine lv_aload_n hx hb d_C_compare_29 rfl (lv_at hl 1 rfl) ?_
      refine va_get (D := D) (ci := 0) (v := .ref (o + 1)) (C := "WideNumbers") (T := F_C) (N := 7) hx hb htw inC hown hK hO.1 0 rfl rfl 0 (by decide) (htw _ kw_20) (fun _ h9 => h9) rfl d_C_compare_30 ?_
      refine lv_iload_n hx hb d_C_compare_33 rfl (lv_at hl 3 rfl) ?_
      refine x_aald hx hb rfl hQ9 hO.2 kb rfl hkb (by omega) (v := o + 2 + kb) (if_pos hkb) d_C_compare_34 ?_
      refine x_calli (A := CA o) (va_runS (As := [.ref (o + 2 + kb)]) (rest := [.int (if 2 ^ 255 ≤ V ka then 1 else 0)]) ⟨hx, hb, hml, hown, htw⟩ (c_isNegative l D cJ cI cQ cR (o + 2 + kb) (V kb) fkb hvkb hNkb) (xcS 1 htw kw_189 kw_1 kw_187 kw_188 rfl rfl ⟨by decide, by decide, by decide +kernel⟩ ⟨Nat.le_of_ble_eq_true rfl, Nat.le_of_ble_eq_true rfl⟩) (xPre hK h_kb) rfl rfl hl.1 rfl (lv_room (Nat.le_of_ble_eq_true rfl)) d_C_compare_35 ⟨Nat.le_of_ble_eq_true rfl, Nat.le_of_ble_eq_true rfl⟩) hlo (fun _ h => h.elim) (fun r3 H3 locs3 hB3 hlo => ?_)
      obtain ⟨rfl, rfl⟩ := hB3
      refine lv_icmp_eq (tgt := 52) hx hb d_C_compare_38 (by decide) (fun hc2 => ?_) (fun hc2 => ?_)
      · exact J _ _ ls ⟨rfl, hl, hlo, by
          unfold cmpv
          rw [if_neg hc]
          by_cases h1 : 2 ^ 255 ≤ V ka
          · by_cases h2 : 2 ^ 255 ≤ V kb
            · rw [if_neg (fun h => h.2 h2), if_neg (fun h => h.1 h1)]
            · rw [if_pos h1, if_neg h2] at hc2
              exact absurd hc2 (by decide)
          · by_cases h2 : 2 ^ 255 ≤ V kb
            · rw [if_neg h1, if_pos h2] at hc2
              exact absurd hc2 (by decide)
            · rw [if_neg (fun h => h1 h.1), if_neg (fun h => h2 h.2)]⟩
      · refine lv_iload hx hb d_C_compare_41 (lv_at hl 0 rfl) ?_
        refine lv_if_eq (tgt := 50) hx hb d_C_compare_43 (by decide) (fun hc3 => ?_) (fun hc3 => ?_)
        · have h1 : ¬ 2 ^ 255 ≤ V ka := fun h => by
            rw [if_pos h] at hc3
            exact absurd hc3 (by decide)
          have h2 : 2 ^ 255 ≤ V kb := Decidable.byContradiction (fun h => hc2 (by rw [if_neg h1, if_neg h]))
          refine lv_iconst (v := nI 1) hx hb d_C_compare_50 (by decide) ?_
          exact vx_ret (W.iret hx hb hr (fun t ht hW => ⟨_, rfl, ht, ka, kb, hka, rfl, hkb, rfl, by unfold cmpv; rw [if_neg hc, if_neg (fun h => h1 h.1), if_pos ⟨h1, h2⟩]; rfl⟩) hlo d_C_compare_51)
        · have h1 : 2 ^ 255 ≤ V ka := Decidable.byContradiction (fun h => hc3 (by rw [if_neg h]))
          have h2 : ¬ 2 ^ 255 ≤ V kb := fun h => hc2 (by rw [if_pos h1, if_pos h])
          refine lv_iconst (v := -1) hx hb d_C_compare_46 (by decide) ?_
          refine lv_goto (tgt := 51) hx hb d_C_compare_47 (by decide) ?_
          exact vx_ret (W.iret hx hb hr (fun t ht hW => ⟨_, rfl, ht, ka, kb, hka, rfl, hkb, rfl, by unfold cmpv; rw [if_neg hc, if_pos ⟨h1, h2⟩]⟩) hlo d_C_compare_51)
set_option maxHeartbeats 4000000 in
set_option maxRecDepth 100000 in
theorem c_bytes (l : Launch) (D : va_G) (cJ cI cQ cR : ClassId) (b0 sa : Nat) (hst : l.stackTraces = false) (o : Nat) (V : Nat → Nat) (hV : ∀ r, r < 16 → V r < 2 ^ 256) (a : Int32) : vx_Met l y_C_bytes w_C_bytes { frames := 8, cells := 1, slots := 6, locals := 131 } (xPX D vwCl (TY cJ cI cQ cR) b0 sa [.ref o, .int a] (fun H => CO D cJ cQ o V H)) (xQi (fun x H0 H => H = H0 ∧ ∃ ka n : Nat, ka < 16 ∧ a = nI ka ∧ x = nI n ∧ byv (V ka) n ∧ n ≤ 32)) (xX (fun H0 H => ¬ vd a 16 ∧ XF (fun _ => False) H0 H)) 1 6 (CA o) := by
  refine vx_ofW (cc := b_C_bytes) (maxL := 2) (ret := some .int) (by decide) rfl ?_
  intro p e s m args below meth c s₁ B hml hno hv
  obtain ⟨rfl, hK, hE, ⟨hO, hSC, hR⟩⟩ := hv
  have hx := B.exec
  have hb := B.bytes
  have hr := B.returns
  have hts := atoms_spec (ws := w_C_bytes) B.pre
  have htw : ∀ w ∈ WT, w.before _ s = true := fun w h => hts w (List.mem_cons_of_mem _ h)
  have hown : s.vm.findClass "WideNumbers" = some m.cls := findClass_of_methodNamed B.named
  have hlocks := B.notSynchronized
  have hJ : ArrOfT s cJ .long := (hK.2 0 _ rfl).1
  have hI9 : ArrOfT s cI .int := (hK.2 1 _ rfl).1
  have hQ9 : ArrOfT s cQ (.array .long) := (hK.2 2 _ rfl).1
  have hl := lv_entry ([.ref o, .int a]) (n := 2) (Nat.le_of_ble_eq_true rfl)
  rw [lg_entry_eq]
  generalize (lg_sl ([.ref o, .int a]) ++ List.replicate (2 - (lg_sl ([.ref o, .int a])).length) Slot.unset).toArray = ls at hl ⊢
  have hl : lv_has ls 2 [(0, .ref o), (1, .int a)] := hl
  have hlo : ∀ q ∈ ([] : List Loc), CA o q.base := fun _ h => nomatch h
  refine lv_iload_n hx hb d_C_bytes_0 rfl (lv_at hl 1 rfl) ?_
  refine lv_bipush (v := nI 16) hx hb d_C_bytes_1 (by decide) ?_
  refine x_xcallv (A := CA o) (vx_runS (As := [.int a, .int (nI 16)]) (rest := []) ⟨hx, hb, hml, hown, htw⟩ (c_refuse l D cJ cI cQ cR b0 sa hst a 16 (by decide)) (xcS 2 htw kw_53 kw_1 kw_51 kw_52 rfl rfl ⟨by decide, by decide, by decide +kernel⟩ ⟨Nat.le_of_ble_eq_true rfl, Nat.le_of_ble_eq_true rfl⟩) (xPreX hK hE (fun _ _ _ => rfl) trivial) rfl rfl hl.1 rfl (lv_room (Nat.le_of_ble_eq_true rfl)) d_C_bytes_3 ⟨Nat.le_of_ble_eq_true rfl, Nat.le_of_ble_eq_true rfl⟩) hlo (fun _ h => h.elim) (fun q9 ce H1 locs1 hB1 hlo hc9 hv9 hcl9 => ?_) (fun H1 locs1 hB1 hlo => ?_)
  · obtain ⟨hinv, hF⟩ := hB1
    exact vx_out (fun x hx => (hno x hx).elim) hlocks hc9 hv9 hcl9 (fun t ht _ => ⟨rfl, hinv, by rw [ht]; exact hF⟩) hlo (by decide) (by decide)
  obtain ⟨rfl, ka, hka, rfl⟩ := hB1
  have hl : lv_has ls 2 [(0, .ref o), (1, .int (nI ka))] := hl
  obtain ⟨fka, h_ka, hNka⟩ := hR ka hka
  have hvka := hV ka hka
  refine lv_aload_n hx hb d_C_bytes_6 rfl (lv_at hl 0 rfl) ?_
  refine va_get (D := D) (ci := 0) (v := .ref (o + 1)) (C := "WideNumbers") (T := F_C) (N := 7) hx hb htw inC hown hK hO.1 0 rfl rfl 0 (by decide) (htw _ kw_20) (fun _ h9 => h9) rfl d_C_bytes_7 ?_
  refine lv_iload_n hx hb d_C_bytes_10 rfl (lv_at hl 1 rfl) ?_
  refine x_aald hx hb rfl hQ9 hO.2 ka rfl hka (by omega) (v := o + 2 + ka) (if_pos hka) d_C_bytes_11 ?_
  refine x_calli (A := CA o) (va_runS (As := [.ref (o + 2 + ka)]) (rest := []) ⟨hx, hb, hml, hown, htw⟩ (c_usedBits l D cJ cI cQ cR (o + 2 + ka) 8 (V ka) fka (by decide) hvka hNka) (xcS 1 htw kw_163 kw_1 kw_161 kw_162 rfl rfl ⟨by decide, by decide, by decide +kernel⟩ ⟨Nat.le_of_ble_eq_true rfl, Nat.le_of_ble_eq_true rfl⟩) (xPre hK h_ka) rfl rfl hl.1 rfl (lv_room (Nat.le_of_ble_eq_true rfl)) d_C_bytes_12 ⟨Nat.le_of_ble_eq_true rfl, Nat.le_of_ble_eq_true rfl⟩) hlo (fun _ h => h.elim) (fun r2 H2 locs2 hB2 hlo => ?_)
  obtain ⟨rfl, k, rfl, hk, hk3⟩ := hB2
  refine lv_bipush (v := nI 8) hx hb d_C_bytes_15 (by decide) ?_
  refine lv_iadd hx hb d_C_bytes_17 ?_
  refine x_topi (v := nI (k + 8)) (nI_add _ _) ?_
  refine lv_iconst (v := nI 1) hx hb d_C_bytes_18 (by decide) ?_
  refine lv_isub hx hb d_C_bytes_19 ?_
  refine x_topi (v := nI (k + 8 - 1)) (pk_sub (by omega)) ?_
  refine lv_bipush (v := nI 8) hx hb d_C_bytes_20 (by decide) ?_
  refine lv_idiv hx hb d_C_bytes_22 (by decide) ?_
  refine x_topi (v := nI ((k + 8 - 1) / 8)) (pk_div (by omega) (by decide) (by decide)) ?_
  exact vx_ret (W.iret hx hb hr (fun t ht hW => ⟨_, rfl, ht, ka, (k + 7) / 8, hka, rfl, congrArg nI (by omega), by_of hk, by omega⟩) hlo d_C_bytes_23)
set_option maxHeartbeats 4000000 in
set_option maxRecDepth 100000 in
theorem c_modular (l : Launch) (D : va_G) (cJ cI cQ cR : ClassId) (b0 sa : Nat) (hst : l.stackTraces = false) (o : Nat) (V : Nat → Nat) (hV : ∀ r, r < 16 → V r < 2 ^ 256) (to a b c1 z : Int32) : vx_Met l y_C_modular w_C_modular { frames := 8, cells := 4, slots := 24, locals := 131 } (xPX D vwCl (TY cJ cI cQ cR) b0 sa [.ref o, .int to, .int a, .int b, .int c1, .int z] (fun H => CO D cJ cQ o V H)) (xQv (fun H0 H => XF (CA o) H0 H ∧ ∃ kt ka kb kc : Nat, kt < 16 ∧ to = nI kt ∧ ka < 16 ∧ a = nI ka ∧ kb < 16 ∧ b = nI kb ∧ kc < 16 ∧ c1 = nI kc ∧ CO D cJ cQ o (va_up V kt (mdv z (V ka) (V kb) (V kc))) H)) (xX (fun H0 H => ¬ (vd to 16 ∧ vd a 16 ∧ vd b 16 ∧ vd c1 16) ∧ XF (fun _ => False) H0 H)) 4 24 (CA o) := by
  refine vx_ofW (cc := b_C_modular) (maxL := 6) (ret := none) (by decide) rfl ?_
  intro p e s m args below meth c s₁ B hml hno hv
  obtain ⟨rfl, hK, hE, ⟨hO, hSC, hR⟩⟩ := hv
  have hx := B.exec
  have hb := B.bytes
  have hr := B.returns
  have hts := atoms_spec (ws := w_C_modular) B.pre
  have htw : ∀ w ∈ WT, w.before _ s = true := fun w h => hts w (List.mem_cons_of_mem _ h)
  have hown : s.vm.findClass "WideNumbers" = some m.cls := findClass_of_methodNamed B.named
  have hlocks := B.notSynchronized
  have hJ : ArrOfT s cJ .long := (hK.2 0 _ rfl).1
  have hI9 : ArrOfT s cI .int := (hK.2 1 _ rfl).1
  have hQ9 : ArrOfT s cQ (.array .long) := (hK.2 2 _ rfl).1
  have hl := lv_entry ([.ref o, .int to, .int a, .int b, .int c1, .int z]) (n := 6) (Nat.le_of_ble_eq_true rfl)
  rw [lg_entry_eq]
  generalize (lg_sl ([.ref o, .int to, .int a, .int b, .int c1, .int z]) ++ List.replicate (6 - (lg_sl ([.ref o, .int to, .int a, .int b, .int c1, .int z])).length) Slot.unset).toArray = ls at hl ⊢
  have hl : lv_has ls 6 [(0, .ref o), (1, .int to), (2, .int a), (3, .int b), (4, .int c1), (5, .int z)] := hl
  have hlo : ∀ q ∈ ([] : List Loc), CA o q.base := fun _ h => nomatch h
  refine lv_iload_n hx hb d_C_modular_0 rfl (lv_at hl 1 rfl) ?_
  refine lv_bipush (v := nI 16) hx hb d_C_modular_1 (by decide) ?_
  refine x_xcallv (A := CA o) (vx_runS (As := [.int to, .int (nI 16)]) (rest := []) ⟨hx, hb, hml, hown, htw⟩ (c_refuse l D cJ cI cQ cR b0 sa hst to 16 (by decide)) (xcS 2 htw kw_53 kw_1 kw_51 kw_52 rfl rfl ⟨by decide, by decide, by decide +kernel⟩ ⟨Nat.le_of_ble_eq_true rfl, Nat.le_of_ble_eq_true rfl⟩) (xPreX hK hE (fun _ _ _ => rfl) trivial) rfl rfl hl.1 rfl (lv_room (Nat.le_of_ble_eq_true rfl)) d_C_modular_3 ⟨Nat.le_of_ble_eq_true rfl, Nat.le_of_ble_eq_true rfl⟩) hlo (fun _ h => h.elim) (fun q9 ce H1 locs1 hB1 hlo hc9 hv9 hcl9 => ?_) (fun H1 locs1 hB1 hlo => ?_)
  · obtain ⟨hinv, hF⟩ := hB1
    exact vx_out (fun x hx => (hno x hx).elim) hlocks hc9 hv9 hcl9 (fun t ht _ => ⟨rfl, fun h => hinv h.1, by rw [ht]; exact hF⟩) hlo (by decide) (by decide)
  obtain ⟨rfl, kt, hkt, rfl⟩ := hB1
  have hl : lv_has ls 6 [(0, .ref o), (1, .int (nI kt)), (2, .int a), (3, .int b), (4, .int c1), (5, .int z)] := hl
  refine lv_iload_n hx hb d_C_modular_6 rfl (lv_at hl 2 rfl) ?_
  refine lv_bipush (v := nI 16) hx hb d_C_modular_7 (by decide) ?_
  refine x_xcallv (A := CA o) (vx_runS (As := [.int a, .int (nI 16)]) (rest := []) ⟨hx, hb, hml, hown, htw⟩ (c_refuse l D cJ cI cQ cR b0 sa hst a 16 (by decide)) (xcS 2 htw kw_53 kw_1 kw_51 kw_52 rfl rfl ⟨by decide, by decide, by decide +kernel⟩ ⟨Nat.le_of_ble_eq_true rfl, Nat.le_of_ble_eq_true rfl⟩) (xPreX hK hE (fun _ _ _ => rfl) trivial) rfl rfl hl.1 rfl (lv_room (Nat.le_of_ble_eq_true rfl)) d_C_modular_9 ⟨Nat.le_of_ble_eq_true rfl, Nat.le_of_ble_eq_true rfl⟩) hlo (fun _ h => h.elim) (fun q9 ce H1 locs1 hB1 hlo hc9 hv9 hcl9 => ?_) (fun H1 locs1 hB1 hlo => ?_)
  · obtain ⟨hinv, hF⟩ := hB1
    exact vx_out (fun x hx => (hno x hx).elim) hlocks hc9 hv9 hcl9 (fun t ht _ => ⟨rfl, fun h => hinv h.2.1, by rw [ht]; exact hF⟩) hlo (by decide) (by decide)
  obtain ⟨rfl, ka, hka, rfl⟩ := hB1
  have hl : lv_has ls 6 [(0, .ref o), (1, .int (nI kt)), (2, .int (nI ka)), (3, .int b), (4, .int c1), (5, .int z)] := hl
  refine lv_iload_n hx hb d_C_modular_12 rfl (lv_at hl 3 rfl) ?_
  refine lv_bipush (v := nI 16) hx hb d_C_modular_13 (by decide) ?_
  refine x_xcallv (A := CA o) (vx_runS (As := [.int b, .int (nI 16)]) (rest := []) ⟨hx, hb, hml, hown, htw⟩ (c_refuse l D cJ cI cQ cR b0 sa hst b 16 (by decide)) (xcS 2 htw kw_53 kw_1 kw_51 kw_52 rfl rfl ⟨by decide, by decide, by decide +kernel⟩ ⟨Nat.le_of_ble_eq_true rfl, Nat.le_of_ble_eq_true rfl⟩) (xPreX hK hE (fun _ _ _ => rfl) trivial) rfl rfl hl.1 rfl (lv_room (Nat.le_of_ble_eq_true rfl)) d_C_modular_15 ⟨Nat.le_of_ble_eq_true rfl, Nat.le_of_ble_eq_true rfl⟩) hlo (fun _ h => h.elim) (fun q9 ce H1 locs1 hB1 hlo hc9 hv9 hcl9 => ?_) (fun H1 locs1 hB1 hlo => ?_)
  · obtain ⟨hinv, hF⟩ := hB1
    exact vx_out (fun x hx => (hno x hx).elim) hlocks hc9 hv9 hcl9 (fun t ht _ => ⟨rfl, fun h => hinv h.2.2.1, by rw [ht]; exact hF⟩) hlo (by decide) (by decide)
  obtain ⟨rfl, kb, hkb, rfl⟩ := hB1
  have hl : lv_has ls 6 [(0, .ref o), (1, .int (nI kt)), (2, .int (nI ka)), (3, .int (nI kb)), (4, .int c1), (5, .int z)] := hl
  refine lv_iload hx hb d_C_modular_18 (lv_at hl 4 rfl) ?_
  refine lv_bipush (v := nI 16) hx hb d_C_modular_20 (by decide) ?_
  refine x_xcallv (A := CA o) (vx_runS (As := [.int c1, .int (nI 16)]) (rest := []) ⟨hx, hb, hml, hown, htw⟩ (c_refuse l D cJ cI cQ cR b0 sa hst c1 16 (by decide)) (xcS 2 htw kw_53 kw_1 kw_51 kw_52 rfl rfl ⟨by decide, by decide, by decide +kernel⟩ ⟨Nat.le_of_ble_eq_true rfl, Nat.le_of_ble_eq_true rfl⟩) (xPreX hK hE (fun _ _ _ => rfl) trivial) rfl rfl hl.1 rfl (lv_room (Nat.le_of_ble_eq_true rfl)) d_C_modular_22 ⟨Nat.le_of_ble_eq_true rfl, Nat.le_of_ble_eq_true rfl⟩) hlo (fun _ h => h.elim) (fun q9 ce H1 locs1 hB1 hlo hc9 hv9 hcl9 => ?_) (fun H1 locs1 hB1 hlo => ?_)
  · obtain ⟨hinv, hF⟩ := hB1
    exact vx_out (fun x hx => (hno x hx).elim) hlocks hc9 hv9 hcl9 (fun t ht _ => ⟨rfl, fun h => hinv h.2.2.2, by rw [ht]; exact hF⟩) hlo (by decide) (by decide)
  obtain ⟨rfl, kc, hkc, rfl⟩ := hB1
  have hl : lv_has ls 6 [(0, .ref o), (1, .int (nI kt)), (2, .int (nI ka)), (3, .int (nI kb)), (4, .int (nI kc)), (5, .int z)] := hl
  obtain ⟨fka, h_ka, hNka⟩ := hR ka hka
  have hvka := hV ka hka
  obtain ⟨fkb, h_kb, hNkb⟩ := hR kb hkb
  have hvkb := hV kb hkb
  obtain ⟨fkc, h_kc, hNkc⟩ := hR kc hkc
  have hvkc := hV kc hkc
  obtain ⟨⟨f18, h18⟩, ⟨f19, h19⟩, ⟨f20, h20⟩, ⟨f21, h21⟩, ⟨f22, h22⟩, ⟨f23, h23⟩⟩ := hSC
  refine lv_iload hx hb d_C_modular_25 (lv_at hl 5 rfl) ?_
  refine x_cut 86 (fun H locs ls => lv_has ls 6 [(0, .ref o), (1, .int (nI kt)), (2, .int (nI ka)), (3, .int (nI kb)), (4, .int (nI kc)), (5, .int z)] ∧ (∀ q ∈ locs, CA o q.base) ∧ XF (fun q => q = o + 21) s.heap H ∧ ∃ (u : Nat) (f : Nat → Int64), hL H cJ (o + 21) 16 f ∧ NL f 16 u ∧ u < 2 ^ 512 ∧ u = (if z = 0 then V ka + V kb else V ka * V kb)) ?_ (fun J => ?_)
  · rintro H locs ls ⟨hl, hlo, hF0, u, f, hf, hN, hu, hue⟩
    have hO := hO.f1 hF0 (by omega)
    have hR := hR.f1 hF0 (by omega)
    have h_kc := hL_f h_kc hF0 (show o + 2 + kc ≠ o + 21 by omega)
    have h22 := hL_f h22 hF0 (show o + 22 ≠ o + 21 by omega)
    have h23 := hL_f h23 hF0 (show o + 23 ≠ o + 21 by omega)
    have h18 := hL_f h18 hF0 (show o + 18 ≠ o + 21 by omega)
    have h19 := hL_f h19 hF0 (show o + 19 ≠ o + 21 by omega)
    have h20 := hL_f h20 hF0 (show o + 20 ≠ o + 21 by omega)
    refine lv_aload_n hx hb d_C_modular_86 rfl (lv_at hl 0 rfl) ?_
    refine lv_aload_n hx hb d_C_modular_87 rfl (lv_at hl 0 rfl) ?_
    refine va_get (D := D) (ci := 0) (v := .ref (o + 21)) (C := "WideNumbers") (T := F_C) (N := 7) hx hb htw inC hown hK hO.1 0 rfl rfl 4 (by decide) (htw _ kw_24) (fun _ h9 => h9) rfl d_C_modular_88 ?_
    refine lv_aload_n hx hb d_C_modular_91 rfl (lv_at hl 0 rfl) ?_
    refine va_get (D := D) (ci := 0) (v := .ref (o + 1)) (C := "WideNumbers") (T := F_C) (N := 7) hx hb htw inC hown hK hO.1 0 rfl rfl 0 (by decide) (htw _ kw_20) (fun _ h9 => h9) rfl d_C_modular_92 ?_
    refine lv_iload hx hb d_C_modular_95 (lv_at hl 4 rfl) ?_
    refine x_aald hx hb rfl hQ9 hO.2 kc rfl hkc (by omega) (v := o + 2 + kc) (if_pos hkc) d_C_modular_97 ?_
    refine x_callv (A := CA o) (va_runV (As := [.ref (o + 21), .ref (o + 2 + kc)]) (rest := []) ⟨hx, hb, hml, hown, htw⟩ (c_divide l D cJ cI cQ cR o (o + 21) (o + 2 + kc) 16 u (V kc) f22 f23 f fkc (Or.inr rfl) (nDA (by omega)) (nDA (by omega)) hu hvkc hN hNkc) (xcV 2 htw kw_160 kw_1 kw_157 kw_159 ks_C_divide rfl rfl ⟨by decide, by decide, by decide +kernel⟩ ⟨Nat.le_of_ble_eq_true rfl, Nat.le_of_ble_eq_true rfl⟩) (xPreV hK (hO.rv hK) ⟨hO, h22, h23, hf, h_kc⟩) rfl rfl hl.1 rfl (lv_room (Nat.le_of_ble_eq_true rfl)) d_C_modular_98 ⟨Nat.le_of_ble_eq_true rfl, Nat.le_of_ble_eq_true rfl⟩) hlo (fun q h => by rcases h with h | h <;> (rw [h]; exact ⟨by omega, by omega⟩)) (fun H1 locs1 hB1 hlo => ?_)
    obtain ⟨hF1, f1, g1, hf1, hN1, hg1, hM1⟩ := hB1
    have hO := hO.fD hF1
    have hR := hR.fD hF1
    have hSC : SC cJ o H1 := ⟨⟨_, hL_f h18 hF1 (nDA (by omega))⟩, ⟨_, hL_f h19 hF1 (nDA (by omega))⟩, ⟨_, hL_f h20 hF1 (nDA (by omega))⟩, ⟨_, hL_f hf hF1 (nDA (by omega))⟩, ⟨_, hf1⟩, ⟨_, hg1⟩⟩
    have hG : XF (CA o) s.heap H1 := (hF0.wk (fun q h => by have h : q = o + 21 := h; rw [h]; exact ⟨by omega, by omega⟩)).tr hF1 (fun q h => by rcases h with h | h <;> (rw [h]; exact ⟨by omega, by omega⟩))
    have hmv : (if V kc = 0 then 0 else u % V kc) = mdv z (V ka) (V kb) (V kc) := by
      unfold mdv
      rw [hue]
    rw [hmv] at hM1
    refine lv_aload_n hx hb d_C_modular_101 rfl (lv_at hl 0 rfl) ?_
    refine va_get (D := D) (ci := 0) (v := .ref (o + 1)) (C := "WideNumbers") (T := F_C) (N := 7) hx hb htw inC hown hK hO.1 0 rfl rfl 0 (by decide) (htw _ kw_20) (fun _ h9 => h9) rfl d_C_modular_102 ?_
    refine lv_iload_n hx hb d_C_modular_105 rfl (lv_at hl 1 rfl) ?_
    refine x_aald hx hb rfl hQ9 hO.2 kt rfl hkt (by omega) (v := o + 2 + kt) (if_pos hkt) d_C_modular_106 ?_
    refine lv_aload_n hx hb d_C_modular_107 rfl (lv_at hl 0 rfl) ?_
    refine va_get (D := D) (ci := 0) (v := .ref (o + 23)) (C := "WideNumbers") (T := F_C) (N := 7) hx hb htw inC hown hK hO.1 0 rfl rfl 6 (by decide) (htw _ kw_26) (fun _ h9 => h9) rfl d_C_modular_108 ?_
    obtain ⟨ft, h_t, hNt⟩ := hR kt hkt
    refine x_callv (A := CA o) (va_runS (As := [.ref (o + 2 + kt), .ref (o + 23)]) (rest := []) ⟨hx, hb, hml, hown, htw⟩ (c_copy l D cJ cI cQ cR (o + 2 + kt) (o + 23) 8 (mdv z (V ka) (V kb) (V kc)) ft g1 (by decide) (by omega) hM1) (xcS 2 htw kw_179 kw_1 kw_177 kw_178 rfl rfl ⟨by decide, by decide, by decide +kernel⟩ ⟨Nat.le_of_ble_eq_true rfl, Nat.le_of_ble_eq_true rfl⟩) (xPre hK ⟨h_t, hg1⟩) rfl rfl hl.1 rfl (lv_room (Nat.le_of_ble_eq_true rfl)) d_C_modular_111 ⟨Nat.le_of_ble_eq_true rfl, Nat.le_of_ble_eq_true rfl⟩) hlo (fun q h => by rcases h with h | h <;> (rw [h]; exact ⟨by omega, by omega⟩)) (fun H8 locs8 hB8 hlo => ?_)
    obtain ⟨hF8, f8, hf8, hN8⟩ := hB8
    have hO := hO.f1 hF8 (by omega)
    have hSC := hSC.f1 hF8 (by omega)
    have hR := hR.put hF8 hf8 hN8
    have hG := hG.tr hF8 (fun q h => by have h : q = o + 2 + kt := h; rw [h]; exact ⟨by omega, by omega⟩)
    exact vx_ret (W.vret hx hb hr (fun t ht hW => ⟨rfl, by rw [ht]; exact hG, kt, ka, kb, kc, hkt, rfl, hka, rfl, hkb, rfl, hkc, rfl, by rw [ht]; exact ⟨hO, hSC, hR⟩⟩) hlo d_C_modular_114)
  · refine lv_if_eq (tgt := 52) hx hb d_C_modular_27 (by decide) (fun hc => ?_) (fun hc => ?_)
    · refine lv_aload_n hx hb d_C_modular_52 rfl (lv_at hl 0 rfl) ?_
      refine va_get (D := D) (ci := 0) (v := .ref (o + 21)) (C := "WideNumbers") (T := F_C) (N := 7) hx hb htw inC hown hK hO.1 0 rfl rfl 4 (by decide) (htw _ kw_24) (fun _ h9 => h9) rfl d_C_modular_53 ?_
      refine lv_lconst (v := lN 0) hx hb d_C_modular_56 (by decide) ?_
      refine x_callv (A := CA o) (va_runS (As := [.ref (o + 21), .long (lN 0)]) (rest := []) ⟨hx, hb, hml, hown, htw⟩ (c_fill l D cJ cI cQ cR (o + 21) 16 (lN 0) f21 (by decide)) (xcS 2 htw kw_156 kw_7 kw_154 kw_155 rfl rfl ⟨by decide, by decide, by decide +kernel⟩ ⟨Nat.le_of_ble_eq_true rfl, Nat.le_of_ble_eq_true rfl⟩) (xPre hK h21) rfl rfl hl.1 rfl (lv_room (Nat.le_of_ble_eq_true rfl)) d_C_modular_57 ⟨Nat.le_of_ble_eq_true rfl, Nat.le_of_ble_eq_true rfl⟩) hlo (fun q h => by have h : q = o + 21 := h; rw [h]; exact ⟨by omega, by omega⟩) (fun H1 locs1 hB1 hlo => ?_)
      obtain ⟨hF1, f1, hf1, hN1⟩ := hB1
      have hO := hO.f1 hF1 (by omega)
      have h_ka := hL_f h_ka hF1 (show o + 2 + ka ≠ o + 21 by omega)
      have h_kb := hL_f h_kb hF1 (show o + 2 + kb ≠ o + 21 by omega)
      refine lv_aload_n hx hb d_C_modular_60 rfl (lv_at hl 0 rfl) ?_
      refine va_get (D := D) (ci := 0) (v := .ref (o + 21)) (C := "WideNumbers") (T := F_C) (N := 7) hx hb htw inC hown hK hO.1 0 rfl rfl 4 (by decide) (htw _ kw_24) (fun _ h9 => h9) rfl d_C_modular_61 ?_
      refine lv_bipush (v := nI 8) hx hb d_C_modular_64 (by decide) ?_
      refine lv_aload_n hx hb d_C_modular_66 rfl (lv_at hl 0 rfl) ?_
      refine va_get (D := D) (ci := 0) (v := .ref (o + 21)) (C := "WideNumbers") (T := F_C) (N := 7) hx hb htw inC hown hK hO.1 0 rfl rfl 4 (by decide) (htw _ kw_24) (fun _ h9 => h9) rfl d_C_modular_67 ?_
      refine lv_aload_n hx hb d_C_modular_70 rfl (lv_at hl 0 rfl) ?_
      refine va_get (D := D) (ci := 0) (v := .ref (o + 1)) (C := "WideNumbers") (T := F_C) (N := 7) hx hb htw inC hown hK hO.1 0 rfl rfl 0 (by decide) (htw _ kw_20) (fun _ h9 => h9) rfl d_C_modular_71 ?_
      refine lv_iload_n hx hb d_C_modular_74 rfl (lv_at hl 2 rfl) ?_
      refine x_aald hx hb rfl hQ9 hO.2 ka rfl hka (by omega) (v := o + 2 + ka) (if_pos hka) d_C_modular_75 ?_
      refine lv_aload_n hx hb d_C_modular_76 rfl (lv_at hl 0 rfl) ?_
      refine va_get (D := D) (ci := 0) (v := .ref (o + 1)) (C := "WideNumbers") (T := F_C) (N := 7) hx hb htw inC hown hK hO.1 0 rfl rfl 0 (by decide) (htw _ kw_20) (fun _ h9 => h9) rfl d_C_modular_77 ?_
      refine lv_iload_n hx hb d_C_modular_80 rfl (lv_at hl 3 rfl) ?_
      refine x_aald hx hb rfl hQ9 hO.2 kb rfl hkb (by omega) (v := o + 2 + kb) (if_pos hkb) d_C_modular_81 ?_
      refine x_calll (A := CA o) (va_runS (As := [.ref (o + 21), .ref (o + 2 + ka), .ref (o + 2 + kb)]) (rest := [.int (nI 8), .ref (o + 21)]) ⟨hx, hb, hml, hown, htw⟩ (c_add l D cJ cI cQ cR (o + 21) (o + 2 + ka) (o + 2 + kb) 16 (V ka) (V kb) f1 fka fkb (by decide) (by omega) (by omega) hvka hvkb hNka hNkb) (xcS 3 htw kw_147 kw_1 kw_145 kw_146 rfl rfl ⟨by decide, by decide, by decide +kernel⟩ ⟨Nat.le_of_ble_eq_true rfl, Nat.le_of_ble_eq_true rfl⟩) (xPre hK ⟨hf1, h_ka, h_kb⟩) rfl rfl hl.1 rfl (lv_room (Nat.le_of_ble_eq_true rfl)) d_C_modular_82 ⟨Nat.le_of_ble_eq_true rfl, Nat.le_of_ble_eq_true rfl⟩) hlo (fun q h => by have h : q = o + 21 := h; rw [h]; exact ⟨by omega, by omega⟩) (fun r2 H2 locs2 hB2 hlo => ?_)
      obtain ⟨hF2, c2, v2, f2, rfl, hf2, hhi2, hN2, hv2, he2, hc2⟩ := hB2
      refine x_last (A := CA o) hx hb hJ hf2 hlo (⟨by omega, by omega⟩) (8) (rfl) (by omega) (by omega) d_C_modular_85 (fun H3 locs3 h3 hF3 hlo => ?_)
      have hNs := NL_put hN2 hv2 (show c2 < 4294967296 by omega)
      rw [show 2 ^ (32 * 8) = 2 ^ 256 from rfl, he2] at hNs
      exact J _ _ ls ⟨hl, hlo, (hF1.tr hF2 (fun _ h => h)).tr hF3 (fun _ h => h), V ka + V kb, _, h3, fun j hj => by
        by_cases h9 : j < 9
        · exact hNs j h9
        · rw [pk_uLn (by omega), hhi2 j (by omega), hN1 j hj, dg_big (Nat.lt_of_lt_of_le (show V ka + V kb < 2 ^ 257 by omega) (pw_le (by omega)))], by omega, by rw [if_pos hc]⟩
    · refine lv_aload_n hx hb d_C_modular_30 rfl (lv_at hl 0 rfl) ?_
      refine va_get (D := D) (ci := 0) (v := .ref (o + 21)) (C := "WideNumbers") (T := F_C) (N := 7) hx hb htw inC hown hK hO.1 0 rfl rfl 4 (by decide) (htw _ kw_24) (fun _ h9 => h9) rfl d_C_modular_31 ?_
      refine lv_aload_n hx hb d_C_modular_34 rfl (lv_at hl 0 rfl) ?_
      refine va_get (D := D) (ci := 0) (v := .ref (o + 1)) (C := "WideNumbers") (T := F_C) (N := 7) hx hb htw inC hown hK hO.1 0 rfl rfl 0 (by decide) (htw _ kw_20) (fun _ h9 => h9) rfl d_C_modular_35 ?_
      refine lv_iload_n hx hb d_C_modular_38 rfl (lv_at hl 2 rfl) ?_
      refine x_aald hx hb rfl hQ9 hO.2 ka rfl hka (by omega) (v := o + 2 + ka) (if_pos hka) d_C_modular_39 ?_
      refine lv_aload_n hx hb d_C_modular_40 rfl (lv_at hl 0 rfl) ?_
      refine va_get (D := D) (ci := 0) (v := .ref (o + 1)) (C := "WideNumbers") (T := F_C) (N := 7) hx hb htw inC hown hK hO.1 0 rfl rfl 0 (by decide) (htw _ kw_20) (fun _ h9 => h9) rfl d_C_modular_41 ?_
      refine lv_iload_n hx hb d_C_modular_44 rfl (lv_at hl 3 rfl) ?_
      refine x_aald hx hb rfl hQ9 hO.2 kb rfl hkb (by omega) (v := o + 2 + kb) (if_pos hkb) d_C_modular_45 ?_
      refine x_callv (A := CA o) (va_runS (As := [.ref (o + 21), .ref (o + 2 + ka), .ref (o + 2 + kb)]) (rest := []) ⟨hx, hb, hml, hown, htw⟩ (c_multiply l D cJ cI cQ cR (o + 21) (o + 2 + ka) (o + 2 + kb) 16 (V ka) (V kb) f21 fka fkb (Or.inr rfl) (by omega) (by omega) hvka hvkb hNka hNkb) (xcS 3 htw kw_153 kw_1 kw_151 kw_152 rfl rfl ⟨by decide, by decide, by decide +kernel⟩ ⟨Nat.le_of_ble_eq_true rfl, Nat.le_of_ble_eq_true rfl⟩) (xPre hK ⟨h21, h_ka, h_kb⟩) rfl rfl hl.1 rfl (lv_room (Nat.le_of_ble_eq_true rfl)) d_C_modular_46 ⟨Nat.le_of_ble_eq_true rfl, Nat.le_of_ble_eq_true rfl⟩) hlo (fun q h => by have h : q = o + 21 := h; rw [h]; exact ⟨by omega, by omega⟩) (fun H2 locs2 hB2 hlo => ?_)
      obtain ⟨hF2, f2, hf2, hN2⟩ := hB2
      refine lv_goto (tgt := 86) hx hb d_C_modular_49 (by decide) ?_
      exact J _ _ ls ⟨hl, hlo, hF2, V ka * V kb, f2, hf2, hN2, Nat.lt_of_lt_of_le (Nat.mul_lt_mul_of_lt_of_le hvka (Nat.le_of_lt hvkb) (pw_pos 256)) (by rw [← Nat.pow_add]; exact pw_le (by decide)), by rw [if_neg hc]⟩
end
section
-- ints of the reference
theorem s_l : ∀ n, n < 32 → ((nI n &&& 31).toBitVec.smod 32).toNat = n := by decide +kernel
theorem s_u : ∀ n, n < 32 → (((nI n).toUInt32 &&& Int32.toUInt32 31).toBitVec % 32).toNat = n := by decide +kernel
theorem iN_shr5 {k : Nat} (h : k < 2 ^ 31) : nI k >>> (nI 5 &&& 31) = nI (k / 32) := pk_shrN h _ 5 (by decide)
theorem iN_and31 {k : Nat} (h : k < 4294967296) : nI k &&& nI 31 = nI (k % 32) := pk_andN h 5 (by decide)
theorem iN_ushr {n k : Nat} (hn : n < 4294967296) (hk : k < 32) : ((nI n).toUInt32 >>> ((nI k).toUInt32 &&& Int32.toUInt32 31)).toInt32 = nI (n / 2 ^ k) := pk_ushrN hn (nI k) k (s_u k hk)
theorem iN_and1 {n : Nat} (hn : n < 4294967296) : nI n &&& nI 1 = nI (n % 2) := pk_andN hn 1 (by decide)
theorem iN_shl (n : Nat) {k : Nat} (hk : k < 32) : nI n <<< (nI k &&& 31) = nI (n * 2 ^ k) := by
  rw [← iN_mod n, ← iN_mod (n * 2 ^ k)]
  apply iN_inj
  apply BitVec.eq_of_toNat_eq
  rw [pk_shl _ _ k (s_l k hk), iN_tn (Nat.mod_lt _ (by decide)), iN_tn (Nat.mod_lt _ (by decide))]
  show n % 4294967296 * 2 ^ k % 4294967296 = n * 2 ^ k % 4294967296
  rw [Nat.mul_mod, Nat.mod_mod, ← Nat.mul_mod]
theorem jN_sar32 {S : Nat} (h : S < 4294967296 ∨ 18446744069414584320 ≤ S ∧ S < 18446744073709551616) : lN S >>> ((nI 32).toInt64 &&& 63) = lN (18446744073709551615 * (if S < 4294967296 then 0 else 1)) := by
  apply Int64.toInt_inj.mp
  have e : (lN S >>> ((nI 32).toInt64 &&& 63)).toInt = (lN S).toInt >>> 32 := by
    show ((lN S).toBitVec.sshiftRight (((nI 32).toInt64 &&& 63).toBitVec.smod 64).toNat).toInt = _
    rw [show (((nI 32).toInt64 &&& 63).toBitVec.smod 64).toNat = 32 by decide +kernel, BitVec.toInt_sshiftRight]
    rfl
  rw [e, Int.shiftRight_eq_div_pow]
  rcases h with h | h
  · rw [if_pos h, jN_toInt (by omega), if_pos (by omega), Nat.mul_zero, jN_toInt (by decide), if_pos (by decide)]
    show (S : Int) / 4294967296 = 0
    omega
  · rw [if_neg (by omega), jN_toInt (by omega), if_neg (by omega), Nat.mul_one, jN_toInt (by decide), if_neg (by decide)]
    show ((S : Int) - 18446744073709551616) / 4294967296 = (18446744073709551615 : Nat) - 18446744073709551616
    omega
theorem iN_neg {d : Nat} (h : d < 4294967296) : 0 ≤ nI d ↔ d < 2147483648 := by
  rw [Int32.le_iff_toInt_le, iN_toInt h]
  show (0 : Int) ≤ _ ↔ _
  by_cases hd : d < 2147483648
  · rw [if_pos hd]; omega
  · rw [if_neg hd]; omega
theorem dg7 {v : Nat} (h : v < 2 ^ 256) : dg v 7 < 2147483648 ↔ ¬ 2 ^ 255 ≤ v := by
  unfold dg
  omega
theorem dg_all0 {v : Nat} (hv : v < 2 ^ 256) (h : ∀ j, j < 8 → dg v j = 0) : v = 0 := dg_ext (n := 8) hv (pw_pos 256) (fun j hj => by rw [h j hj, dg_0])
theorem NI_v64 {u : Nat} (hu : u < 18446744073709551616) {f : Nat → Int32} (h0 : NI f 8 0) : NI (upd (upd f 0 (nI u)) 1 (nI (u / 4294967296))) 8 u := by
  intro j hj
  by_cases e1 : j = 1
  · subst e1
    rw [pk_us]
    unfold dg
    exact congrArg nI (by omega)
  · rw [pk_un e1]
    by_cases e0 : j = 0
    · subst e0
      rw [pk_us, ← iN_mod]
      unfold dg
      exact congrArg nI (by omega)
    · rw [pk_un e0, h0 j hj, dg_0, dg_big (Nat.lt_of_lt_of_le hu (pw_le (i := 64) (by omega)))]
theorem v64 {v : Nat} (hv : v < 2 ^ 256) (h : ∀ j, 2 ≤ j → j < 8 → dg v j = 0) : v < 18446744073709551616 ∧ dg v 1 * 4294967296 ||| dg v 0 = v := by
  have e : v = v % 2 ^ (32 * 2) := by
    refine dg_ext (n := 8) hv (Nat.lt_of_lt_of_le (Nat.mod_lt _ (pw_pos _)) (pw_le (by decide))) (fun j hj => ?_)
    by_cases h2 : j < 2
    · rw [dg_mod h2]
    · rw [h j (by omega) hj, dg_big (Nat.lt_of_lt_of_le (Nat.mod_lt _ (pw_pos _)) (pw_le (by omega)))]
  have hl : v < 18446744073709551616 := by
    rw [e]
    exact Nat.mod_lt _ (by decide)
  refine ⟨hl, ?_⟩
  have h0 := dg_lt v 0
  rw [show (4294967296 : Nat) = 2 ^ 32 from rfl, or_add h0]
  unfold dg
  omega
theorem sb_S {dx dy b S : Nat} (h1 : dx < 4294967296) (h2 : dy < 4294967296) (hb : b ≤ 1) (hS : S = (18446744073709551615 * b + (dx + 18446744073709551616 - dy)) % 18446744073709551616) : (S < 4294967296 ∨ 18446744069414584320 ≤ S ∧ S < 18446744073709551616) ∧ (S < 4294967296 → dx + 4294967296 * 0 = S % 4294967296 + dy + b) ∧ (¬ S < 4294967296 → dx + 4294967296 * 1 = S % 4294967296 + dy + b) := by
  rcases (show b = 0 ∨ b = 1 by omega) with e | e
  · subst e
    omega
  · subst e
    omega
end
section
-- contracts of the reference's leaves
set_option maxHeartbeats 4000000 in
set_option maxRecDepth 100000 in
theorem m_clear (l : Launch) (D : va_G) (cJ cI cQ cR : ClassId) (z : Nat) (fz : Nat → Int32) : Met l y_M_clear w_M_clear { frames := 0, cells := 0, slots := 0, locals := 0 } (xP D vwCl (TY cJ cI cQ cR) [.ref z] (fun H => hI H cI z 8 fz)) (xQv (fun H0 H => XF (fun q => q = z) H0 H ∧ ∃ f : Nat → Int32, hI H cI z 8 f ∧ NI f 8 0)) 0 0 (fun q => q = z) := by
  refine Met.ofW (cc := b_M_clear) (maxL := 2) (ret := none) (by decide) rfl ?_
  intro p e s m args below meth c s₁ B hml hv
  obtain ⟨rfl, hK, hz⟩ := hv
  have hx := B.exec
  have hb := B.bytes
  have hr := B.returns
  have hts := atoms_spec (ws := w_M_clear) B.pre
  have htw : ∀ w ∈ WT, w.before _ s = true := fun w h => hts w (List.mem_cons_of_mem _ h)
  have hown : s.vm.findClass "WideNumbersModel" = some m.cls := findClass_of_methodNamed B.named
  have hlocks := B.notSynchronized
  have hJ : ArrOfT s cJ .long := (hK.2 0 _ rfl).1
  have hI9 : ArrOfT s cI .int := (hK.2 1 _ rfl).1
  have hl := lv_entry ([.ref z]) (n := 2) (Nat.le_of_ble_eq_true rfl)
  rw [lg_entry_eq]
  generalize (lg_sl ([.ref z]) ++ List.replicate (2 - (lg_sl ([.ref z])).length) Slot.unset).toArray = ls at hl ⊢
  have hl : lv_has ls 2 [(0, .ref z)] := hl
  refine lv_iconst (v := nI 0) hx hb d_M_clear_0 (by decide) ?_
  refine lv_istore_n hx hb d_M_clear_1 rfl hl (by decide) rfl (fun ls hl => ?_)
  have hl : lv_has ls 2 [(1, .int (nI 0)), (0, .ref z)] := hl
  refine x_loop 2 (fun i H locs ls => ∃ f : Nat → Int32, lv_has ls 2 [(1, .int (nI i)), (0, .ref z)] ∧ (∀ q ∈ locs, q.base = z) ∧ XF (fun q => q = z) s.heap H ∧ hI H cI z 8 f ∧ NI f i 0) 8 ?_ ?_ 0 _ _ _ (by omega) ?_
  · intro i H locs ls hi ⟨f, hl, hlo, hF, hf, hN⟩ ih
    refine lv_iload_n hx hb d_M_clear_2 rfl (lv_at hl 0 rfl) ?_
    refine lv_bipush (v := nI 8) hx hb d_M_clear_3 (by decide) ?_
    refine lv_icmp_ge (tgt := 18) hx hb d_M_clear_5 (by decide) (fun hc => absurd hc (nI_ge (by omega) (by omega))) (fun _ => ?_)
    refine lv_aload_n hx hb d_M_clear_8 rfl (lv_at hl 1 rfl) ?_
    refine lv_iload_n hx hb d_M_clear_9 rfl (lv_at hl 0 rfl) ?_
    refine lv_iconst (v := nI 0) hx hb d_M_clear_10 (by decide) ?_
    refine x_topi (v := nI (dg 0 i)) (by rw [dg_0]) ?_
    refine x_iast (A := fun q => q = z) hx hb hI9 hf hlo (rfl) (i) (rfl) (by omega) (by omega) d_M_clear_11 (fun H1 locs1 h1 hF1 hlo1 => ?_)
    refine lv_iinc (v := nI (i + 1)) (k := 0) hx hb d_M_clear_12 hl rfl (nI_1 i) (by decide) rfl (fun ls hl => ?_)
    have hl : lv_has ls 2 [(1, .int (nI (i + 1))), (0, .ref z)] := hl
    refine lv_goto (tgt := 2) hx hb d_M_clear_15 (by decide) ?_
    exact ih H1 locs1 ls ⟨_, hl, hlo1, hF.tr hF1 (fun _ h => h), h1, NI_up hN⟩
  · intro H locs ls ⟨f, hl, hlo, hF, hf, hN⟩
    refine lv_iload_n hx hb d_M_clear_2 rfl (lv_at hl 0 rfl) ?_
    refine lv_bipush (v := nI 8) hx hb d_M_clear_3 (by decide) ?_
    refine lv_icmp_ge (tgt := 18) hx hb d_M_clear_5 (by decide) (fun _ => ?_) (fun hc => absurd (nI_le (Nat.le_refl _) (by omega)) hc)
    exact W.vret hx hb hr (fun t ht hW => ⟨rfl, by rw [ht]; exact hF, f, by rw [ht]; exact hf, hN⟩) hlo d_M_clear_18
  · exact ⟨fz, hl, (fun _ h => nomatch h), XF.rf, hz, NI_0⟩
set_option maxHeartbeats 4000000 in
set_option maxRecDepth 100000 in
theorem m_copy (l : Launch) (D : va_G) (cJ cI cQ cR : ClassId) (z x n vx : Nat) (fz fx : Nat → Int32) (hn : 8 ≤ n ∧ n ≤ 17) (hxz : x ≠ z) (hNx : NI fx 8 vx) : Met l y_M_copy w_M_copy { frames := 0, cells := 0, slots := 0, locals := 0 } (xP D vwCl (TY cJ cI cQ cR) [.ref z, .ref x] (fun H => hI H cI z 8 fz ∧ hI H cI x n fx)) (xQv (fun H0 H => XF (fun q => q = z) H0 H ∧ ∃ f : Nat → Int32, hI H cI z 8 f ∧ NI f 8 vx)) 0 0 (fun q => q = z) := by
  refine Met.ofW (cc := b_M_copy) (maxL := 3) (ret := none) (by decide) rfl ?_
  intro p e s m args below meth c s₁ B hml hv
  obtain ⟨rfl, hK, ⟨hz, hX⟩⟩ := hv
  have hx := B.exec
  have hb := B.bytes
  have hr := B.returns
  have hts := atoms_spec (ws := w_M_copy) B.pre
  have htw : ∀ w ∈ WT, w.before _ s = true := fun w h => hts w (List.mem_cons_of_mem _ h)
  have hown : s.vm.findClass "WideNumbersModel" = some m.cls := findClass_of_methodNamed B.named
  have hlocks := B.notSynchronized
  have hJ : ArrOfT s cJ .long := (hK.2 0 _ rfl).1
  have hI9 : ArrOfT s cI .int := (hK.2 1 _ rfl).1
  have hl := lv_entry ([.ref z, .ref x]) (n := 3) (Nat.le_of_ble_eq_true rfl)
  rw [lg_entry_eq]
  generalize (lg_sl ([.ref z, .ref x]) ++ List.replicate (3 - (lg_sl ([.ref z, .ref x])).length) Slot.unset).toArray = ls at hl ⊢
  have hl : lv_has ls 3 [(0, .ref z), (1, .ref x)] := hl
  refine lv_iconst (v := nI 0) hx hb d_M_copy_0 (by decide) ?_
  refine lv_istore_n hx hb d_M_copy_1 rfl hl (by decide) rfl (fun ls hl => ?_)
  have hl : lv_has ls 3 [(2, .int (nI 0)), (0, .ref z), (1, .ref x)] := hl
  have hl : lv_has ls 3 [(2, .int (nI 0)), (0, .ref z), (1, .ref x)] := lv_sub hl [0, 1, 2] rfl
  refine x_loop 2 (fun i H locs ls => ∃ f : Nat → Int32, lv_has ls 3 [(2, .int (nI i)), (0, .ref z), (1, .ref x)] ∧ (∀ q ∈ locs, q.base = z) ∧ XF (fun q => q = z) s.heap H ∧ hI H cI z 8 f ∧ NI f i vx) 8 ?_ ?_ 0 _ _ _ (by omega) ?_
  · intro i H locs ls hi ⟨f, hl, hlo, hF, hf, hN⟩ ih
    refine lv_iload_n hx hb d_M_copy_2 rfl (lv_at hl 0 rfl) ?_
    refine lv_bipush (v := nI 8) hx hb d_M_copy_3 (by decide) ?_
    refine lv_icmp_ge (tgt := 20) hx hb d_M_copy_5 (by decide) (fun hc => absurd hc (nI_ge (by omega) (by omega))) (fun _ => ?_)
    refine lv_aload_n hx hb d_M_copy_8 rfl (lv_at hl 1 rfl) ?_
    refine lv_iload_n hx hb d_M_copy_9 rfl (lv_at hl 0 rfl) ?_
    refine lv_aload_n hx hb d_M_copy_10 rfl (lv_at hl 2 rfl) ?_
    refine lv_iload_n hx hb d_M_copy_11 rfl (lv_at hl 0 rfl) ?_
    refine x_iald hx hb hI9 (hI_f hX hF hxz) (i) (rfl) (by omega) (by omega) (v := nI (dg vx i)) (hNx i hi) d_M_copy_12 ?_
    refine x_iast (A := fun q => q = z) hx hb hI9 hf hlo (rfl) (i) (rfl) (by omega) (by omega) d_M_copy_13 (fun H1 locs1 h1 hF1 hlo1 => ?_)
    refine lv_iinc (v := nI (i + 1)) (k := 0) hx hb d_M_copy_14 hl rfl (nI_1 i) (by decide) rfl (fun ls hl => ?_)
    have hl : lv_has ls 3 [(2, .int (nI (i + 1))), (0, .ref z), (1, .ref x)] := hl
    refine lv_goto (tgt := 2) hx hb d_M_copy_17 (by decide) ?_
    have hl : lv_has ls 3 [(2, .int (nI (i + 1))), (0, .ref z), (1, .ref x)] := lv_sub hl [0, 1, 2] rfl
    exact ih H1 locs1 ls ⟨_, hl, hlo1, hF.tr hF1 (fun _ h => h), h1, NI_up hN⟩
  · intro H locs ls ⟨f, hl, hlo, hF, hf, hN⟩
    refine lv_iload_n hx hb d_M_copy_2 rfl (lv_at hl 0 rfl) ?_
    refine lv_bipush (v := nI 8) hx hb d_M_copy_3 (by decide) ?_
    refine lv_icmp_ge (tgt := 20) hx hb d_M_copy_5 (by decide) (fun _ => ?_) (fun hc => absurd (nI_le (Nat.le_refl _) (by omega)) hc)
    exact W.vret hx hb hr (fun t ht hW => ⟨rfl, by rw [ht]; exact hF, f, by rw [ht]; exact hf, hN⟩) hlo d_M_copy_20
  · exact ⟨fz, hl, (fun _ h => nomatch h), XF.rf, hz, NI_0⟩
set_option maxHeartbeats 4000000 in
set_option maxRecDepth 100000 in
theorem m_take (l : Launch) (D : va_G) (cJ cI cQ cR : ClassId) (z x n vx : Nat) (fz fx : Nat → Int32) (hn : 8 ≤ n ∧ n ≤ 17) (hxz : x ≠ z) (hNx : NI fx 8 vx) : Met l y_M_take w_M_take { frames := 0, cells := 0, slots := 0, locals := 0 } (xP D vwCl (TY cJ cI cQ cR) [.ref z, .ref x] (fun H => hI H cI z 8 fz ∧ hI H cI x n fx)) (xQv (fun H0 H => XF (fun q => q = z) H0 H ∧ ∃ f : Nat → Int32, hI H cI z 8 f ∧ NI f 8 vx)) 0 0 (fun q => q = z) := by
  refine Met.ofW (cc := b_M_take) (maxL := 3) (ret := none) (by decide) rfl ?_
  intro p e s m args below meth c s₁ B hml hv
  obtain ⟨rfl, hK, ⟨hz, hX⟩⟩ := hv
  have hx := B.exec
  have hb := B.bytes
  have hr := B.returns
  have hts := atoms_spec (ws := w_M_take) B.pre
  have htw : ∀ w ∈ WT, w.before _ s = true := fun w h => hts w (List.mem_cons_of_mem _ h)
  have hown : s.vm.findClass "WideNumbersModel" = some m.cls := findClass_of_methodNamed B.named
  have hlocks := B.notSynchronized
  have hJ : ArrOfT s cJ .long := (hK.2 0 _ rfl).1
  have hI9 : ArrOfT s cI .int := (hK.2 1 _ rfl).1
  have hl := lv_entry ([.ref z, .ref x]) (n := 3) (Nat.le_of_ble_eq_true rfl)
  rw [lg_entry_eq]
  generalize (lg_sl ([.ref z, .ref x]) ++ List.replicate (3 - (lg_sl ([.ref z, .ref x])).length) Slot.unset).toArray = ls at hl ⊢
  have hl : lv_has ls 3 [(0, .ref z), (1, .ref x)] := hl
  refine lv_iconst (v := nI 0) hx hb d_M_take_0 (by decide) ?_
  refine lv_istore_n hx hb d_M_take_1 rfl hl (by decide) rfl (fun ls hl => ?_)
  have hl : lv_has ls 3 [(2, .int (nI 0)), (0, .ref z), (1, .ref x)] := hl
  have hl : lv_has ls 3 [(2, .int (nI 0)), (0, .ref z), (1, .ref x)] := lv_sub hl [0, 1, 2] rfl
  refine x_loop 2 (fun i H locs ls => ∃ f : Nat → Int32, lv_has ls 3 [(2, .int (nI i)), (0, .ref z), (1, .ref x)] ∧ (∀ q ∈ locs, q.base = z) ∧ XF (fun q => q = z) s.heap H ∧ hI H cI z 8 f ∧ NI f i vx) 8 ?_ ?_ 0 _ _ _ (by omega) ?_
  · intro i H locs ls hi ⟨f, hl, hlo, hF, hf, hN⟩ ih
    refine lv_iload_n hx hb d_M_take_2 rfl (lv_at hl 0 rfl) ?_
    refine lv_bipush (v := nI 8) hx hb d_M_take_3 (by decide) ?_
    refine lv_icmp_ge (tgt := 20) hx hb d_M_take_5 (by decide) (fun hc => absurd hc (nI_ge (by omega) (by omega))) (fun _ => ?_)
    refine lv_aload_n hx hb d_M_take_8 rfl (lv_at hl 1 rfl) ?_
    refine lv_iload_n hx hb d_M_take_9 rfl (lv_at hl 0 rfl) ?_
    refine lv_aload_n hx hb d_M_take_10 rfl (lv_at hl 2 rfl) ?_
    refine lv_iload_n hx hb d_M_take_11 rfl (lv_at hl 0 rfl) ?_
    refine x_iald hx hb hI9 (hI_f hX hF hxz) (i) (rfl) (by omega) (by omega) (v := nI (dg vx i)) (hNx i hi) d_M_take_12 ?_
    refine x_iast (A := fun q => q = z) hx hb hI9 hf hlo (rfl) (i) (rfl) (by omega) (by omega) d_M_take_13 (fun H1 locs1 h1 hF1 hlo1 => ?_)
    refine lv_iinc (v := nI (i + 1)) (k := 0) hx hb d_M_take_14 hl rfl (nI_1 i) (by decide) rfl (fun ls hl => ?_)
    have hl : lv_has ls 3 [(2, .int (nI (i + 1))), (0, .ref z), (1, .ref x)] := hl
    refine lv_goto (tgt := 2) hx hb d_M_take_17 (by decide) ?_
    have hl : lv_has ls 3 [(2, .int (nI (i + 1))), (0, .ref z), (1, .ref x)] := lv_sub hl [0, 1, 2] rfl
    exact ih H1 locs1 ls ⟨_, hl, hlo1, hF.tr hF1 (fun _ h => h), h1, NI_up hN⟩
  · intro H locs ls ⟨f, hl, hlo, hF, hf, hN⟩
    refine lv_iload_n hx hb d_M_take_2 rfl (lv_at hl 0 rfl) ?_
    refine lv_bipush (v := nI 8) hx hb d_M_take_3 (by decide) ?_
    refine lv_icmp_ge (tgt := 20) hx hb d_M_take_5 (by decide) (fun _ => ?_) (fun hc => absurd (nI_le (Nat.le_refl _) (by omega)) hc)
    exact W.vret hx hb hr (fun t ht hW => ⟨rfl, by rw [ht]; exact hF, f, by rw [ht]; exact hf, hN⟩) hlo d_M_take_20
  · exact ⟨fz, hl, (fun _ h => nomatch h), XF.rf, hz, NI_0⟩
set_option maxHeartbeats 4000000 in
set_option maxRecDepth 100000 in
theorem m_zero (l : Launch) (D : va_G) (cJ cI cQ cR : ClassId) (x vx : Nat) (fx : Nat → Int32) (hvx : vx < 2 ^ 256) (hNx : NI fx 8 vx) : Met l y_M_zero w_M_zero { frames := 0, cells := 0, slots := 0, locals := 0 } (xP D vwCl (TY cJ cI cQ cR) [.ref x] (fun H => hI H cI x 8 fx)) (xQi (fun r H0 H => H = H0 ∧ r = if vx = 0 then 1 else 0)) 0 0 (fun _ => False) := by
  refine Met.ofW (cc := b_M_zero) (maxL := 2) (ret := some .boolean) (by decide) rfl ?_
  intro p e s m args below meth c s₁ B hml hv
  obtain ⟨rfl, hK, hX⟩ := hv
  have hx := B.exec
  have hb := B.bytes
  have hr := B.returns
  have hts := atoms_spec (ws := w_M_zero) B.pre
  have htw : ∀ w ∈ WT, w.before _ s = true := fun w h => hts w (List.mem_cons_of_mem _ h)
  have hown : s.vm.findClass "WideNumbersModel" = some m.cls := findClass_of_methodNamed B.named
  have hlocks := B.notSynchronized
  have hJ : ArrOfT s cJ .long := (hK.2 0 _ rfl).1
  have hI9 : ArrOfT s cI .int := (hK.2 1 _ rfl).1
  have hl := lv_entry ([.ref x]) (n := 2) (Nat.le_of_ble_eq_true rfl)
  rw [lg_entry_eq]
  generalize (lg_sl ([.ref x]) ++ List.replicate (2 - (lg_sl ([.ref x])).length) Slot.unset).toArray = ls at hl ⊢
  have hl : lv_has ls 2 [(0, .ref x)] := hl
  refine lv_iconst (v := nI 0) hx hb d_M_zero_0 (by decide) ?_
  refine lv_istore_n hx hb d_M_zero_1 rfl hl (by decide) rfl (fun ls hl => ?_)
  have hl : lv_has ls 2 [(1, .int (nI 0)), (0, .ref x)] := hl
  refine x_loop 2 (fun i H locs ls => lv_has ls 2 [(1, .int (nI i)), (0, .ref x)] ∧ locs = [] ∧ H = s.heap ∧ ∀ j, j < i → dg vx j = 0) 8 ?_ ?_ 0 _ _ _ (by omega) ?_
  · intro i H locs ls hi ⟨hl, hlo, hH, hz9⟩ ih
    refine lv_iload_n hx hb d_M_zero_2 rfl (lv_at hl 0 rfl) ?_
    refine lv_bipush (v := nI 8) hx hb d_M_zero_3 (by decide) ?_
    refine lv_icmp_ge (tgt := 22) hx hb d_M_zero_5 (by decide) (fun hc => absurd hc (nI_ge (by omega) (by omega))) (fun _ => ?_)
    subst hlo
    subst hH
    have hd1 := dg_lt vx i
    refine lv_aload_n hx hb d_M_zero_8 rfl (lv_at hl 1 rfl) ?_
    refine lv_iload_n hx hb d_M_zero_9 rfl (lv_at hl 0 rfl) ?_
    refine x_iald hx hb hI9 hX (i) (rfl) (by omega) (by omega) (v := nI (dg vx i)) (hNx i hi) d_M_zero_10 ?_
    refine lv_if_eq (tgt := 16) hx hb d_M_zero_11 (by decide) (fun hc => ?_) (fun hc => ?_)
    · have hd : dg vx i = 0 := (iN_eq hd1 (by decide)).mp (hc.trans nI_0.symm)
      refine lv_iinc (v := nI (i + 1)) (k := 0) hx hb d_M_zero_16 hl rfl (nI_1 i) (by decide) rfl (fun ls hl => ?_)
      have hl : lv_has ls 2 [(1, .int (nI (i + 1))), (0, .ref x)] := hl
      refine lv_goto (tgt := 2) hx hb d_M_zero_19 (by decide) ?_
      exact ih _ _ ls ⟨hl, rfl, rfl, fun j hj => by
        by_cases e9 : j = i
        · rw [e9]; exact hd
        · exact hz9 j (by omega)⟩
    · have hv : vx ≠ 0 := fun h => hc (by rw [h, dg_0]; rfl)
      refine lv_iconst (v := nI 0) hx hb d_M_zero_14 (by decide) ?_
      exact W.zret hx hb hr rfl (fun t ht hW => ⟨_, rfl, ht, by rw [if_neg hv]; rfl⟩) (fun _ h => nomatch h) d_M_zero_15
  · intro H locs ls ⟨hl, hlo, hH, hz9⟩
    refine lv_iload_n hx hb d_M_zero_2 rfl (lv_at hl 0 rfl) ?_
    refine lv_bipush (v := nI 8) hx hb d_M_zero_3 (by decide) ?_
    refine lv_icmp_ge (tgt := 22) hx hb d_M_zero_5 (by decide) (fun _ => ?_) (fun hc => absurd (nI_le (Nat.le_refl _) (by omega)) hc)
    subst hlo
    subst hH
    have hv : vx = 0 := dg_all0 hvx hz9
    refine lv_iconst (v := nI 1) hx hb d_M_zero_22 (by decide) ?_
    exact W.zret hx hb hr rfl (fun t ht hW => ⟨_, rfl, ht, by rw [if_pos hv]; rfl⟩) (fun _ h => nomatch h) d_M_zero_23
  · exact ⟨hl, rfl, rfl, fun j hj => absurd hj (Nat.not_lt_zero j)⟩
set_option maxHeartbeats 4000000 in
set_option maxRecDepth 100000 in
theorem m_less (l : Launch) (D : va_G) (cJ cI cQ cR : ClassId) (x y vx vy : Nat) (fx fy : Nat → Int32) (hvx : vx < 2 ^ 256) (hvy : vy < 2 ^ 256) (hNx : NI fx 8 vx) (hNy : NI fy 8 vy) : Met l y_M_less w_M_less { frames := 0, cells := 0, slots := 0, locals := 0 } (xP D vwCl (TY cJ cI cQ cR) [.ref x, .ref y] (fun H => hI H cI x 8 fx ∧ hI H cI y 8 fy)) (xQi (fun r H0 H => H = H0 ∧ r = if vx < vy then 1 else 0)) 0 0 (fun _ => False) := by
  refine Met.ofW (cc := b_M_less) (maxL := 3) (ret := some .boolean) (by decide) rfl ?_
  intro p e s m args below meth c s₁ B hml hv
  obtain ⟨rfl, hK, ⟨hX, hY⟩⟩ := hv
  have hx := B.exec
  have hb := B.bytes
  have hr := B.returns
  have hts := atoms_spec (ws := w_M_less) B.pre
  have htw : ∀ w ∈ WT, w.before _ s = true := fun w h => hts w (List.mem_cons_of_mem _ h)
  have hown : s.vm.findClass "WideNumbersModel" = some m.cls := findClass_of_methodNamed B.named
  have hlocks := B.notSynchronized
  have hJ : ArrOfT s cJ .long := (hK.2 0 _ rfl).1
  have hI9 : ArrOfT s cI .int := (hK.2 1 _ rfl).1
  have hl := lv_entry ([.ref x, .ref y]) (n := 3) (Nat.le_of_ble_eq_true rfl)
  rw [lg_entry_eq]
  generalize (lg_sl ([.ref x, .ref y]) ++ List.replicate (3 - (lg_sl ([.ref x, .ref y])).length) Slot.unset).toArray = ls at hl ⊢
  have hl : lv_has ls 3 [(0, .ref x), (1, .ref y)] := hl
  refine lv_bipush (v := nI 8 - 1) hx hb d_M_less_0 (by decide) ?_
  refine lv_istore_n hx hb d_M_less_2 rfl hl (by decide) rfl (fun ls hl => ?_)
  have hl : lv_has ls 3 [(2, .int (nI 8 - 1)), (0, .ref x), (1, .ref y)] := hl
  have hl : lv_has ls 3 [(2, .int (nI 8 - 1)), (0, .ref x), (1, .ref y)] := lv_sub hl [0, 1, 2] rfl
  refine x_loopD 3 (fun i H locs ls => i ≤ 8 ∧ lv_has ls 3 [(2, .int (nI i - 1)), (0, .ref x), (1, .ref y)] ∧ locs = [] ∧ H = s.heap ∧ vx / 2 ^ (32 * i) = vy / 2 ^ (32 * i)) ?_ ?_ 8 _ _ _ ?_
  · intro i H locs ls ⟨hi, hl, hlo, hH, he⟩ ih
    subst hlo
    subst hH
    refine lv_iload_n hx hb d_M_less_3 rfl (lv_at hl 0 rfl) ?_
    refine x_topi (v := nI i) (nI_pred i) ?_
    refine lv_if_lt (tgt := 48) hx hb d_M_less_4 (by decide) (fun hc => absurd hc (nI_pos (by omega))) (fun _ => ?_)
    have hd1 := dg_lt vx i
    have hd2 := dg_lt vy i
    have e1 := dg_divs vx i
    have e2 := dg_divs vy i
    refine lv_aload_n hx hb d_M_less_7 rfl (lv_at hl 1 rfl) ?_
    refine lv_iload_n hx hb d_M_less_8 rfl (lv_at hl 0 rfl) ?_
    refine x_iald hx hb hI9 hX (i) (nI_pred i) (by omega) (by omega) (v := nI (dg vx i)) (hNx i (by omega)) d_M_less_9 ?_
    refine lv_aload_n hx hb d_M_less_10 rfl (lv_at hl 2 rfl) ?_
    refine lv_iload_n hx hb d_M_less_11 rfl (lv_at hl 0 rfl) ?_
    refine x_iald hx hb hI9 hY (i) (nI_pred i) (by omega) (by omega) (v := nI (dg vy i)) (hNy i (by omega)) d_M_less_12 ?_
    refine lv_icmp_eq (tgt := 42) hx hb d_M_less_13 (by decide) (fun hc => ?_) (fun hc => ?_)
    · have hd := (iN_eq hd1 hd2).mp hc
      refine lv_iinc (v := nI i - 1) (k := 0) hx hb d_M_less_42 hl rfl (i_dec i) (by decide) rfl (fun ls hl => ?_)
      have hl : lv_has ls 3 [(2, .int (nI i - 1)), (0, .ref x), (1, .ref y)] := hl
      refine lv_goto (tgt := 3) hx hb d_M_less_45 (by decide) ?_
      exact ih _ _ ls ⟨by omega, hl, rfl, rfl, by rw [e1, e2, he, hd]⟩
    · have hd : dg vx i ≠ dg vy i := fun h => hc (by rw [h])
      refine lv_aload_n hx hb d_M_less_16 rfl (lv_at hl 1 rfl) ?_
      refine lv_iload_n hx hb d_M_less_17 rfl (lv_at hl 0 rfl) ?_
      refine x_iald hx hb hI9 hX (i) (nI_pred i) (by omega) (by omega) (v := nI (dg vx i)) (hNx i (by omega)) d_M_less_18 ?_
      refine lv_i2l (v := (nI (dg vx i)).toInt64) hx hb d_M_less_19 (rfl) ?_
      refine lv_ldc2 (v := (4294967295 : Int64)) hx hb hown (htw _ kw_328) d_M_less_20 ?_
      refine lv_land hx hb d_M_less_23 ?_
      refine x_topl (v := lN (dg vx i)) (il_m (dg_lt _ _)) ?_
      refine lv_aload_n hx hb d_M_less_24 rfl (lv_at hl 2 rfl) ?_
      refine lv_iload_n hx hb d_M_less_25 rfl (lv_at hl 0 rfl) ?_
      refine x_iald hx hb hI9 hY (i) (nI_pred i) (by omega) (by omega) (v := nI (dg vy i)) (hNy i (by omega)) d_M_less_26 ?_
      refine lv_i2l (v := (nI (dg vy i)).toInt64) hx hb d_M_less_27 (rfl) ?_
      refine lv_ldc2 (v := (4294967295 : Int64)) hx hb hown (htw _ kw_328) d_M_less_28 ?_
      refine lv_land hx hb d_M_less_31 ?_
      refine x_topl (v := lN (dg vy i)) (il_m (dg_lt _ _)) ?_
      refine W.lcmp hx hb d_M_less_32 ?_
      refine lv_if_ge (tgt := 40) hx hb d_M_less_33 (by decide) (fun hc2 => ?_) (fun hc2 => ?_)
      · have hlt : dg vy i < dg vx i := Nat.lt_of_le_of_ne (Nat.not_lt.mp (fun h => absurd ((lg_cmp_ge _ _).mp hc2) (Int64.not_le.mpr ((jN_lt (by omega) (by omega)).mpr h)))) (fun h => hd h.symm)
        have hv : vy < vx := Nat.lt_of_not_le (fun h => by have := Nat.div_le_div_right (c := 2 ^ (32 * i)) h; omega)
        refine lv_iconst (v := nI 0) hx hb d_M_less_40 (by decide) ?_
        exact W.zret hx hb hr rfl (fun t ht hW => ⟨_, rfl, ht, by rw [if_neg (by omega)]; rfl⟩) (fun _ h => nomatch h) d_M_less_41
      · have hlt : dg vx i < dg vy i := (jN_lt (by omega) (by omega)).mp (Int64.not_le.mp (fun h => hc2 ((lg_cmp_ge _ _).mpr h)))
        have hv : vx < vy := Nat.lt_of_not_le (fun h => by have := Nat.div_le_div_right (c := 2 ^ (32 * i)) h; omega)
        refine lv_iconst (v := nI 1) hx hb d_M_less_36 (by decide) ?_
        refine lv_goto (tgt := 41) hx hb d_M_less_37 (by decide) ?_
        exact W.zret hx hb hr rfl (fun t ht hW => ⟨_, rfl, ht, by rw [if_pos hv]; rfl⟩) (fun _ h => nomatch h) d_M_less_41
  · intro H locs ls ⟨hi, hl, hlo, hH, he⟩
    subst hlo
    subst hH
    refine lv_iload_n hx hb d_M_less_3 rfl (lv_at hl 0 rfl) ?_
    refine lv_if_lt (tgt := 48) hx hb d_M_less_4 (by decide) (fun _ => ?_) (fun hc => absurd (by decide) hc)
    refine lv_iconst (v := nI 0) hx hb d_M_less_48 (by decide) ?_
    have hv : vx = vy := by simpa using he
    exact W.zret hx hb hr rfl (fun t ht hW => ⟨_, rfl, ht, by rw [if_neg (by omega)]; rfl⟩) (fun _ h => nomatch h) d_M_less_49
  · exact ⟨by decide, hl, rfl, rfl, by rw [Nat.div_eq_of_lt hvx, Nat.div_eq_of_lt hvy]⟩
set_option maxHeartbeats 4000000 in
set_option maxRecDepth 100000 in
theorem m_setv (l : Launch) (D : va_G) (cJ cI cQ cR : ClassId) (z u : Nat) (fz : Nat → Int32) (hu : u < 18446744073709551616) : Met l y_M_set_IJV w_M_set_IJV { frames := 1, cells := 0, slots := 0, locals := 21 } (xP D vwCl (TY cJ cI cQ cR) [.ref z, .long (lN u)] (fun H => hI H cI z 8 fz)) (xQv (fun H0 H => XF (fun q => q = z) H0 H ∧ ∃ f : Nat → Int32, hI H cI z 8 f ∧ NI f 8 u)) 0 0 (fun q => q = z) := by
  refine Met.ofW (cc := b_M_set_IJV) (maxL := 3) (ret := none) (by decide) rfl ?_
  intro p e s m args below meth c s₁ B hml hv
  obtain ⟨rfl, hK, hz⟩ := hv
  have hx := B.exec
  have hb := B.bytes
  have hr := B.returns
  have hts := atoms_spec (ws := w_M_set_IJV) B.pre
  have htw : ∀ w ∈ WT, w.before _ s = true := fun w h => hts w (List.mem_cons_of_mem _ h)
  have hown : s.vm.findClass "WideNumbersModel" = some m.cls := findClass_of_methodNamed B.named
  have hlocks := B.notSynchronized
  have hJ : ArrOfT s cJ .long := (hK.2 0 _ rfl).1
  have hI9 : ArrOfT s cI .int := (hK.2 1 _ rfl).1
  have hl := lv_entry ([.ref z, .long (lN u)]) (n := 3) (Nat.le_of_ble_eq_true rfl)
  rw [lg_entry_eq]
  generalize (lg_sl ([.ref z, .long (lN u)]) ++ List.replicate (3 - (lg_sl ([.ref z, .long (lN u)])).length) Slot.unset).toArray = ls at hl ⊢
  have hl : lv_has ls 3 [(0, .ref z), (1, .long (lN u))] := hl
  have hlo : ∀ q ∈ ([] : List Loc), (fun q => q = z) q.base := fun _ h => nomatch h
  refine lv_aload_n hx hb d_M_set_IJV_0 rfl (lv_at hl 0 rfl) ?_
  refine x_callv (A := fun q => q = z) (va_runS (As := [.ref z]) (rest := []) ⟨hx, hb, hml, hown, htw⟩ (m_clear l D cJ cI cQ cR z fz) (xcS 1 htw kw_342 kw_2 kw_340 kw_341 rfl rfl ⟨by decide, by decide, by decide +kernel⟩ ⟨Nat.le_of_ble_eq_true rfl, Nat.le_of_ble_eq_true rfl⟩) (xPre hK hz) rfl rfl hl.1 rfl (lv_room (Nat.le_of_ble_eq_true rfl)) d_M_set_IJV_1 ⟨Nat.le_of_ble_eq_true rfl, Nat.le_of_ble_eq_true rfl⟩) hlo (fun _ h => h) (fun H1 locs1 hB1 hlo => ?_)
  obtain ⟨hF1, f1, hf1, hN1⟩ := hB1
  refine lv_aload_n hx hb d_M_set_IJV_4 rfl (lv_at hl 0 rfl) ?_
  refine lv_iconst (v := nI 0) hx hb d_M_set_IJV_5 (by decide) ?_
  refine lv_lload_n hx hb d_M_set_IJV_6 rfl (lv_at hl 1 rfl) ?_
  refine lv_l2i (v := nI u) hx hb d_M_set_IJV_7 (lN_i _) ?_
  refine x_iast (A := fun q => q = z) hx hb hI9 hf1 hlo (rfl) (0) (rfl) (by omega) (by omega) d_M_set_IJV_8 (fun H2 locs2 h2 hF2 hlo => ?_)
  refine lv_aload_n hx hb d_M_set_IJV_9 rfl (lv_at hl 0 rfl) ?_
  refine lv_iconst (v := nI 1) hx hb d_M_set_IJV_10 (by decide) ?_
  refine lv_lload_n hx hb d_M_set_IJV_11 rfl (lv_at hl 1 rfl) ?_
  refine lv_bipush (v := nI 32) hx hb d_M_set_IJV_12 (by decide) ?_
  refine lv_lushr (v := lN (u / 4294967296)) hx hb d_M_set_IJV_14 (jN_shr (k := 32) (by omega) (by decide)) ?_
  refine lv_l2i (v := nI (u / 4294967296)) hx hb d_M_set_IJV_15 (lN_i _) ?_
  refine x_iast (A := fun q => q = z) hx hb hI9 h2 hlo (rfl) (1) (rfl) (by omega) (by omega) d_M_set_IJV_16 (fun H3 locs3 h3 hF3 hlo => ?_)
  exact W.vret hx hb hr (fun t ht hW => ⟨rfl, by rw [ht]; exact (hF1.tr hF2 (fun _ h => h)).tr hF3 (fun _ h => h), _, by rw [ht]; exact h3, NI_v64 hu hN1⟩) hlo d_M_set_IJV_17
set_option maxHeartbeats 4000000 in
set_option maxRecDepth 100000 in
theorem m_add (l : Launch) (D : va_G) (cJ cI cQ cR : ClassId) (z x y vx vy : Nat) (fz fx fy : Nat → Int32) (hxz : x ≠ z) (hyz : y ≠ z) (hvx : vx < 2 ^ 256) (hvy : vy < 2 ^ 256) (hNx : NI fx 8 vx) (hNy : NI fy 8 vy) : Met l y_M_add w_M_add { frames := 0, cells := 0, slots := 0, locals := 0 } (xP D vwCl (TY cJ cI cQ cR) [.ref z, .ref x, .ref y] (fun H => hI H cI z 8 fz ∧ hI H cI x 8 fx ∧ hI H cI y 8 fy)) (xQi (fun r H0 H => XF (fun q => q = z) H0 H ∧ ∃ (c v : Nat) (f : Nat → Int32), r = nI c ∧ hI H cI z 8 f ∧ NI f 8 v ∧ v < 2 ^ 256 ∧ v + 2 ^ 256 * c = vx + vy ∧ c ≤ 1)) 0 0 (fun q => q = z) := by
  refine Met.ofW (cc := b_M_add) (maxL := 6) (ret := some .int) (by decide) rfl ?_
  intro p e s m args below meth c s₁ B hml hv
  obtain ⟨rfl, hK, ⟨hz, hX, hY⟩⟩ := hv
  have hx := B.exec
  have hb := B.bytes
  have hr := B.returns
  have hts := atoms_spec (ws := w_M_add) B.pre
  have htw : ∀ w ∈ WT, w.before _ s = true := fun w h => hts w (List.mem_cons_of_mem _ h)
  have hown : s.vm.findClass "WideNumbersModel" = some m.cls := findClass_of_methodNamed B.named
  have hlocks := B.notSynchronized
  have hJ : ArrOfT s cJ .long := (hK.2 0 _ rfl).1
  have hI9 : ArrOfT s cI .int := (hK.2 1 _ rfl).1
  have hl := lv_entry ([.ref z, .ref x, .ref y]) (n := 6) (Nat.le_of_ble_eq_true rfl)
  rw [lg_entry_eq]
  generalize (lg_sl ([.ref z, .ref x, .ref y]) ++ List.replicate (6 - (lg_sl ([.ref z, .ref x, .ref y])).length) Slot.unset).toArray = ls at hl ⊢
  have hl : lv_has ls 6 [(0, .ref z), (1, .ref x), (2, .ref y)] := hl
  refine lv_lconst (v := lN 0) hx hb d_M_add_0 (by decide) ?_
  refine lv_lstore_n hx hb d_M_add_1 rfl hl (by decide) rfl (fun ls hl => ?_)
  have hl : lv_has ls 6 [(3, .long (lN 0)), (0, .ref z), (1, .ref x), (2, .ref y)] := hl
  refine lv_iconst (v := nI 0) hx hb d_M_add_2 (by decide) ?_
  refine lv_istore hx hb d_M_add_3 hl (by decide) rfl (fun ls hl => ?_)
  have hl : lv_has ls 6 [(5, .int (nI 0)), (3, .long (lN 0)), (0, .ref z), (1, .ref x), (2, .ref y)] := hl
  have hl : lv_has ls 6 [(5, .int (nI 0)), (3, .long (lN 0)), (0, .ref z), (1, .ref x), (2, .ref y)] := lv_sub hl [0, 1, 2, 3, 4] rfl
  refine x_loop 5 (fun i H locs ls => ∃ (c9 r : Nat) (f : Nat → Int32), lv_has ls 6 [(5, .int (nI i)), (3, .long (lN c9)), (0, .ref z), (1, .ref x), (2, .ref y)] ∧ (∀ q ∈ locs, q.base = z) ∧ XF (fun q => q = z) s.heap H ∧ hI H cI z 8 f ∧ NI f i r ∧ r < 2 ^ (32 * i) ∧ r + 2 ^ (32 * i) * c9 = vx % 2 ^ (32 * i) + vy % 2 ^ (32 * i) ∧ c9 ≤ 1) 8 ?_ ?_ 0 _ _ _ (by omega) ?_
  · intro i H locs ls hi ⟨c9, r, f, hl, hlo, hF, hf, hN, hr9, he, hc9⟩ ih
    refine lv_iload hx hb d_M_add_5 (lv_at hl 0 rfl) ?_
    refine lv_bipush (v := nI 8) hx hb d_M_add_7 (by decide) ?_
    refine lv_icmp_ge (tgt := 51) hx hb d_M_add_9 (by decide) (fun hc => absurd hc (nI_ge (by omega) (by omega))) (fun _ => ?_)
    have hd1 := dg_lt vx i
    have hd2 := dg_lt vy i
    refine lv_lload_n hx hb d_M_add_12 rfl (lv_at hl 1 rfl) ?_
    refine lv_aload_n hx hb d_M_add_13 rfl (lv_at hl 3 rfl) ?_
    refine lv_iload hx hb d_M_add_14 (lv_at hl 0 rfl) ?_
    refine x_iald hx hb hI9 (hI_f hX hF hxz) (i) (rfl) (by omega) (by omega) (v := nI (dg vx i)) (hNx i hi) d_M_add_16 ?_
    refine lv_i2l (v := (nI (dg vx i)).toInt64) hx hb d_M_add_17 (rfl) ?_
    refine lv_ldc2 (v := (4294967295 : Int64)) hx hb hown (htw _ kw_328) d_M_add_18 ?_
    refine lv_land hx hb d_M_add_21 ?_
    refine x_topl (v := lN (dg vx i)) (il_m (dg_lt _ _)) ?_
    refine lv_aload_n hx hb d_M_add_22 rfl (lv_at hl 4 rfl) ?_
    refine lv_iload hx hb d_M_add_23 (lv_at hl 0 rfl) ?_
    refine x_iald hx hb hI9 (hI_f hY hF hyz) (i) (rfl) (by omega) (by omega) (v := nI (dg vy i)) (hNy i hi) d_M_add_25 ?_
    refine lv_i2l (v := (nI (dg vy i)).toInt64) hx hb d_M_add_26 (rfl) ?_
    refine lv_ldc2 (v := (4294967295 : Int64)) hx hb hown (htw _ kw_328) d_M_add_27 ?_
    refine lv_land hx hb d_M_add_30 ?_
    refine x_topl (v := lN (dg vy i)) (il_m (dg_lt _ _)) ?_
    refine lv_ladd hx hb d_M_add_31 ?_
    refine lv_ladd hx hb d_M_add_32 ?_
    refine x_topl (v := lN (dg vx i + dg vy i + c9)) (by rw [lN_add, lN_add, Nat.add_comm c9]) ?_
    obtain ⟨S, hS⟩ : ∃ S, S = dg vx i + dg vy i + c9 := ⟨_, rfl⟩
    rw [← hS]
    refine lv_lstore_n hx hb d_M_add_33 rfl hl (by decide) rfl (fun ls hl => ?_)
    have hl : lv_has ls 6 [(3, .long (lN S)), (5, .int (nI i)), (0, .ref z), (1, .ref x), (2, .ref y)] := hl
    refine lv_aload_n hx hb d_M_add_34 rfl (lv_at hl 2 rfl) ?_
    refine lv_iload hx hb d_M_add_35 (lv_at hl 1 rfl) ?_
    refine lv_lload_n hx hb d_M_add_37 rfl (lv_at hl 0 rfl) ?_
    refine lv_l2i (v := nI S) hx hb d_M_add_38 (lN_i _) ?_
    refine x_topi (v := nI (S % 4294967296)) ((iN_mod S).symm) ?_
    refine x_iast (A := fun q => q = z) hx hb hI9 hf hlo (rfl) (i) (rfl) (by omega) (by omega) d_M_add_39 (fun H1 locs1 h1 hF1 hlo1 => ?_)
    refine lv_lload_n hx hb d_M_add_40 rfl (lv_at hl 0 rfl) ?_
    refine lv_bipush (v := nI 32) hx hb d_M_add_41 (by decide) ?_
    refine lv_lushr (v := lN (S / 4294967296)) hx hb d_M_add_43 (jN_shr (k := 32) (by omega) (by decide)) ?_
    refine lv_lstore_n hx hb d_M_add_44 rfl hl (by decide) rfl (fun ls hl => ?_)
    have hl : lv_has ls 6 [(3, .long (lN (S / 4294967296))), (5, .int (nI i)), (0, .ref z), (1, .ref x), (2, .ref y)] := hl
    refine lv_iinc (v := nI (i + 1)) (k := 1) hx hb d_M_add_45 hl rfl (nI_1 i) (by decide) rfl (fun ls hl => ?_)
    have hl : lv_has ls 6 [(5, .int (nI (i + 1))), (3, .long (lN (S / 4294967296))), (0, .ref z), (1, .ref x), (2, .ref y)] := hl
    refine lv_goto (tgt := 5) hx hb d_M_add_48 (by decide) ?_
    have hl : lv_has ls 6 [(5, .int (nI (i + 1))), (3, .long (lN (S / 4294967296))), (0, .ref z), (1, .ref x), (2, .ref y)] := lv_sub hl [0, 1, 2, 3, 4] rfl
    refine ih H1 locs1 ls ⟨S / 4294967296, r + 2 ^ (32 * i) * (S % 4294967296), _, hl, hlo1, hF.tr hF1 (fun _ h => h), h1, NI_put hN hr9 (Nat.mod_lt _ (by decide)), dg_alt hr9 (Nat.mod_lt _ (by decide)), ?_, by omega⟩
    rw [dg_mods, dg_mods, pw_s]
    exact st_add he (by rw [← hS]; exact Nat.mod_add_div S 4294967296)
  · intro H locs ls ⟨c9, r, f, hl, hlo, hF, hf, hN, hr9, he, hc9⟩
    refine lv_iload hx hb d_M_add_5 (lv_at hl 0 rfl) ?_
    refine lv_bipush (v := nI 8) hx hb d_M_add_7 (by decide) ?_
    refine lv_icmp_ge (tgt := 51) hx hb d_M_add_9 (by decide) (fun _ => ?_) (fun hc => absurd (nI_le (Nat.le_refl _) (by omega)) hc)
    refine lv_lload_n hx hb d_M_add_51 rfl (lv_at hl 1 rfl) ?_
    refine lv_l2i (v := nI c9) hx hb d_M_add_52 (lN_i _) ?_
    rw [Nat.mod_eq_of_lt hvx, Nat.mod_eq_of_lt hvy] at he
    exact W.iret hx hb hr (fun t ht hW => ⟨_, rfl, by rw [ht]; exact hF, c9, r, f, rfl, by rw [ht]; exact hf, hN, hr9, he, hc9⟩) hlo d_M_add_53
  · exact ⟨0, 0, fz, hl, (fun _ h => nomatch h), XF.rf, hz, NI_0, by decide, by simp [Nat.mod_one], by decide⟩
set_option maxHeartbeats 4000000 in
set_option maxRecDepth 100000 in
theorem m_subtract (l : Launch) (D : va_G) (cJ cI cQ cR : ClassId) (z x y vx vy : Nat) (fz fx fy : Nat → Int32) (hxz : x ≠ z) (hvx : vx < 2 ^ 256) (hvy : vy < 2 ^ 256) (hNx : NI fx 8 vx) (hNy : NI fy 8 vy) : Met l y_M_subtract w_M_subtract { frames := 0, cells := 0, slots := 0, locals := 0 } (xP D vwCl (TY cJ cI cQ cR) [.ref z, .ref x, .ref y] (fun H => hI H cI z 8 fz ∧ hI H cI x 8 fx ∧ hI H cI y 8 fy)) (xQv (fun H0 H => XF (fun q => q = z) H0 H ∧ ∃ (v b9 : Nat) (f : Nat → Int32), hI H cI z 8 f ∧ NI f 8 v ∧ v < 2 ^ 256 ∧ vx + 2 ^ 256 * b9 = v + vy ∧ b9 ≤ 1)) 0 0 (fun q => q = z) := by
  refine Met.ofW (cc := b_M_subtract) (maxL := 6) (ret := none) (by decide) rfl ?_
  intro p e s m args below meth c s₁ B hml hv
  obtain ⟨rfl, hK, ⟨hz, hX, hY⟩⟩ := hv
  have hx := B.exec
  have hb := B.bytes
  have hr := B.returns
  have hts := atoms_spec (ws := w_M_subtract) B.pre
  have htw : ∀ w ∈ WT, w.before _ s = true := fun w h => hts w (List.mem_cons_of_mem _ h)
  have hown : s.vm.findClass "WideNumbersModel" = some m.cls := findClass_of_methodNamed B.named
  have hlocks := B.notSynchronized
  have hJ : ArrOfT s cJ .long := (hK.2 0 _ rfl).1
  have hI9 : ArrOfT s cI .int := (hK.2 1 _ rfl).1
  have hl := lv_entry ([.ref z, .ref x, .ref y]) (n := 6) (Nat.le_of_ble_eq_true rfl)
  rw [lg_entry_eq]
  generalize (lg_sl ([.ref z, .ref x, .ref y]) ++ List.replicate (6 - (lg_sl ([.ref z, .ref x, .ref y])).length) Slot.unset).toArray = ls at hl ⊢
  have hl : lv_has ls 6 [(0, .ref z), (1, .ref x), (2, .ref y)] := hl
  refine lv_lconst (v := lN 0) hx hb d_M_subtract_0 (by decide) ?_
  refine x_topl (v := lN (18446744073709551615 * 0)) (rfl) ?_
  refine lv_lstore_n hx hb d_M_subtract_1 rfl hl (by decide) rfl (fun ls hl => ?_)
  have hl : lv_has ls 6 [(3, .long (lN (18446744073709551615 * 0))), (0, .ref z), (1, .ref x), (2, .ref y)] := hl
  refine lv_iconst (v := nI 0) hx hb d_M_subtract_2 (by decide) ?_
  refine lv_istore hx hb d_M_subtract_3 hl (by decide) rfl (fun ls hl => ?_)
  have hl : lv_has ls 6 [(5, .int (nI 0)), (3, .long (lN (18446744073709551615 * 0))), (0, .ref z), (1, .ref x), (2, .ref y)] := hl
  have hl : lv_has ls 6 [(5, .int (nI 0)), (3, .long (lN (18446744073709551615 * 0))), (0, .ref z), (1, .ref x), (2, .ref y)] := lv_sub hl [0, 1, 2, 3, 4] rfl
  refine x_loop 5 (fun i H locs ls => ∃ (b9 r : Nat) (f gy : Nat → Int32), lv_has ls 6 [(5, .int (nI i)), (3, .long (lN (18446744073709551615 * b9))), (0, .ref z), (1, .ref x), (2, .ref y)] ∧ (∀ q ∈ locs, q.base = z) ∧ XF (fun q => q = z) s.heap H ∧ hI H cI z 8 f ∧ hI H cI y 8 gy ∧ (∀ j, i ≤ j → j < 8 → gy j = nI (dg vy j)) ∧ NI f i r ∧ r < 2 ^ (32 * i) ∧ vx % 2 ^ (32 * i) + 2 ^ (32 * i) * b9 = r + vy % 2 ^ (32 * i) ∧ b9 ≤ 1) 8 ?_ ?_ 0 _ _ _ (by omega) ?_
  · intro i H locs ls hi ⟨b9, r, f, gy, hl, hlo, hF, hf, hgy, hgv, hN, hr9, he, hb9⟩ ih
    refine lv_iload hx hb d_M_subtract_5 (lv_at hl 0 rfl) ?_
    refine lv_bipush (v := nI 8) hx hb d_M_subtract_7 (by decide) ?_
    refine lv_icmp_ge (tgt := 51) hx hb d_M_subtract_9 (by decide) (fun hc => absurd hc (nI_ge (by omega) (by omega))) (fun _ => ?_)
    have hd1 := dg_lt vx i
    have hd2 := dg_lt vy i
    refine lv_lload_n hx hb d_M_subtract_12 rfl (lv_at hl 1 rfl) ?_
    refine lv_aload_n hx hb d_M_subtract_13 rfl (lv_at hl 3 rfl) ?_
    refine lv_iload hx hb d_M_subtract_14 (lv_at hl 0 rfl) ?_
    refine x_iald hx hb hI9 (hI_f hX hF hxz) (i) (rfl) (by omega) (by omega) (v := nI (dg vx i)) (hNx i hi) d_M_subtract_16 ?_
    refine lv_i2l (v := (nI (dg vx i)).toInt64) hx hb d_M_subtract_17 (rfl) ?_
    refine lv_ldc2 (v := (4294967295 : Int64)) hx hb hown (htw _ kw_328) d_M_subtract_18 ?_
    refine lv_land hx hb d_M_subtract_21 ?_
    refine x_topl (v := lN (dg vx i)) (il_m (dg_lt _ _)) ?_
    refine lv_aload_n hx hb d_M_subtract_22 rfl (lv_at hl 4 rfl) ?_
    refine lv_iload hx hb d_M_subtract_23 (lv_at hl 0 rfl) ?_
    refine x_iald hx hb hI9 hgy (i) (rfl) (by omega) (by omega) (v := nI (dg vy i)) (hgv i (Nat.le_refl i) hi) d_M_subtract_25 ?_
    refine lv_i2l (v := (nI (dg vy i)).toInt64) hx hb d_M_subtract_26 (rfl) ?_
    refine lv_ldc2 (v := (4294967295 : Int64)) hx hb hown (htw _ kw_328) d_M_subtract_27 ?_
    refine lv_land hx hb d_M_subtract_30 ?_
    refine x_topl (v := lN (dg vy i)) (il_m (dg_lt _ _)) ?_
    refine lv_lsub hx hb d_M_subtract_31 ?_
    refine lv_ladd hx hb d_M_subtract_32 ?_
    refine x_topl (v := lN ((18446744073709551615 * b9 + (dg vx i + 18446744073709551616 - dg vy i)) % 18446744073709551616)) (by rw [jN_sub (by omega), lN_add, jN_mod]) ?_
    obtain ⟨S, hS⟩ : ∃ S, S = (18446744073709551615 * b9 + (dg vx i + 18446744073709551616 - dg vy i)) % 18446744073709551616 := ⟨_, rfl⟩
    rw [← hS]
    have hSS := sb_S hd1 hd2 hb9 hS
    refine lv_lstore_n hx hb d_M_subtract_33 rfl hl (by decide) rfl (fun ls hl => ?_)
    have hl : lv_has ls 6 [(3, .long (lN S)), (5, .int (nI i)), (0, .ref z), (1, .ref x), (2, .ref y)] := hl
    refine lv_aload_n hx hb d_M_subtract_34 rfl (lv_at hl 2 rfl) ?_
    refine lv_iload hx hb d_M_subtract_35 (lv_at hl 1 rfl) ?_
    refine lv_lload_n hx hb d_M_subtract_37 rfl (lv_at hl 0 rfl) ?_
    refine lv_l2i (v := nI S) hx hb d_M_subtract_38 (lN_i _) ?_
    refine x_topi (v := nI (S % 4294967296)) ((iN_mod S).symm) ?_
    refine x_iast (A := fun q => q = z) hx hb hI9 hf hlo (rfl) (i) (rfl) (by omega) (by omega) d_M_subtract_39 (fun H1 locs1 h1 hF1 hlo1 => ?_)
    obtain ⟨gy1, hgy1, hgv1⟩ := hI_al hf h1 hF1 hgy
    refine lv_lload_n hx hb d_M_subtract_40 rfl (lv_at hl 0 rfl) ?_
    refine lv_bipush (v := nI 32) hx hb d_M_subtract_41 (by decide) ?_
    refine lv_lshr (v := lN (18446744073709551615 * (if S < 4294967296 then 0 else 1))) hx hb d_M_subtract_43 (jN_sar32 hSS.1) ?_
    obtain ⟨b8, hb8⟩ : ∃ b8, b8 = (if S < 4294967296 then 0 else 1) := ⟨_, rfl⟩
    rw [← hb8]
    have hb8c : S < 4294967296 ∧ b8 = 0 ∨ ¬ S < 4294967296 ∧ b8 = 1 := by
      by_cases h : S < 4294967296
      · exact Or.inl ⟨h, by rw [hb8, if_pos h]⟩
      · exact Or.inr ⟨h, by rw [hb8, if_neg h]⟩
    refine lv_lstore_n hx hb d_M_subtract_44 rfl hl (by decide) rfl (fun ls hl => ?_)
    have hl : lv_has ls 6 [(3, .long (lN (18446744073709551615 * b8))), (5, .int (nI i)), (0, .ref z), (1, .ref x), (2, .ref y)] := hl
    refine lv_iinc (v := nI (i + 1)) (k := 1) hx hb d_M_subtract_45 hl rfl (nI_1 i) (by decide) rfl (fun ls hl => ?_)
    have hl : lv_has ls 6 [(5, .int (nI (i + 1))), (3, .long (lN (18446744073709551615 * b8))), (0, .ref z), (1, .ref x), (2, .ref y)] := hl
    refine lv_goto (tgt := 5) hx hb d_M_subtract_48 (by decide) ?_
    have hl : lv_has ls 6 [(5, .int (nI (i + 1))), (3, .long (lN (18446744073709551615 * b8))), (0, .ref z), (1, .ref x), (2, .ref y)] := lv_sub hl [0, 1, 2, 3, 4] rfl
    refine ih H1 locs1 ls ⟨b8, r + 2 ^ (32 * i) * (S % 4294967296), _, gy1, hl, hlo1, hF.tr hF1 (fun _ h => h), h1, hgy1, fun j hj hj8 => by rw [hgv1 j hj8 (by omega)]; exact hgv j (by omega) hj8, NI_put hN hr9 (Nat.mod_lt _ (by decide)), dg_alt hr9 (Nat.mod_lt _ (by decide)), ?_, by omega⟩
    rw [dg_mods, dg_mods, pw_s]
    rcases hb8c with ⟨q1, q2⟩ | ⟨q1, q2⟩
    · rw [q2]; exact st_sub he (hSS.2.1 q1)
    · rw [q2]; exact st_sub he (hSS.2.2 q1)
  · intro H locs ls ⟨b9, r, f, gy, hl, hlo, hF, hf, hgy, hgv, hN, hr9, he, hb9⟩
    refine lv_iload hx hb d_M_subtract_5 (lv_at hl 0 rfl) ?_
    refine lv_bipush (v := nI 8) hx hb d_M_subtract_7 (by decide) ?_
    refine lv_icmp_ge (tgt := 51) hx hb d_M_subtract_9 (by decide) (fun _ => ?_) (fun hc => absurd (nI_le (Nat.le_refl _) (by omega)) hc)
    rw [Nat.mod_eq_of_lt hvx, Nat.mod_eq_of_lt hvy] at he
    exact W.vret hx hb hr (fun t ht hW => ⟨rfl, by rw [ht]; exact hF, r, b9, f, by rw [ht]; exact hf, hN, hr9, he, hb9⟩) hlo d_M_subtract_51
  · exact ⟨0, 0, fz, fy, hl, (fun _ h => nomatch h), XF.rf, hz, hY, (fun j _ h => hNy j h), NI_0, by decide, by simp [Nat.mod_one], by decide⟩
set_option maxHeartbeats 4000000 in
set_option maxRecDepth 100000 in
theorem m_bit (l : Launch) (D : va_G) (cJ cI cQ cR : ClassId) (x n k vx : Nat) (fx : Nat → Int32) (hn : n ≤ 17) (hk : k < 32 * n) (hNx : NI fx n vx) : Met l y_M_bit w_M_bit { frames := 0, cells := 0, slots := 0, locals := 0 } (xP D vwCl (TY cJ cI cQ cR) [.ref x, .int (nI k)] (fun H => hI H cI x n fx)) (xQi (fun r H0 H => H = H0 ∧ r = nI (vx / 2 ^ k % 2))) 0 0 (fun _ => False) := by
  refine Met.ofW (cc := b_M_bit) (maxL := 2) (ret := some .int) (by decide) rfl ?_
  intro p e s m args below meth c s₁ B hml hv
  obtain ⟨rfl, hK, hX⟩ := hv
  have hx := B.exec
  have hb := B.bytes
  have hr := B.returns
  have hts := atoms_spec (ws := w_M_bit) B.pre
  have htw : ∀ w ∈ WT, w.before _ s = true := fun w h => hts w (List.mem_cons_of_mem _ h)
  have hown : s.vm.findClass "WideNumbersModel" = some m.cls := findClass_of_methodNamed B.named
  have hlocks := B.notSynchronized
  have hJ : ArrOfT s cJ .long := (hK.2 0 _ rfl).1
  have hI9 : ArrOfT s cI .int := (hK.2 1 _ rfl).1
  have hl := lv_entry ([.ref x, .int (nI k)]) (n := 2) (Nat.le_of_ble_eq_true rfl)
  rw [lg_entry_eq]
  generalize (lg_sl ([.ref x, .int (nI k)]) ++ List.replicate (2 - (lg_sl ([.ref x, .int (nI k)])).length) Slot.unset).toArray = ls at hl ⊢
  have hl : lv_has ls 2 [(0, .ref x), (1, .int (nI k))] := hl
  refine lv_aload_n hx hb d_M_bit_0 rfl (lv_at hl 0 rfl) ?_
  refine lv_iload_n hx hb d_M_bit_1 rfl (lv_at hl 1 rfl) ?_
  refine lv_iconst (v := nI 5) hx hb d_M_bit_2 (by decide) ?_
  refine lv_ishr hx hb d_M_bit_3 ?_
  refine x_topi (v := nI (k / 32)) (iN_shr5 (by omega)) ?_
  refine x_iald hx hb hI9 hX (k / 32) (rfl) (by omega) (by omega) (v := nI (dg vx (k / 32))) (hNx _ (by omega)) d_M_bit_4 ?_
  have hd := dg_lt vx (k / 32)
  have hd2 : dg vx (k / 32) / 2 ^ (k % 32) < 4294967296 := Nat.lt_of_le_of_lt (Nat.div_le_self _ _) hd
  refine lv_iload_n hx hb d_M_bit_5 rfl (lv_at hl 1 rfl) ?_
  refine lv_bipush (v := nI 31) hx hb d_M_bit_6 (by decide) ?_
  refine lv_iand hx hb d_M_bit_8 ?_
  refine x_topi (v := nI (k % 32)) (iN_and31 (by omega)) ?_
  refine lv_iushr (v := nI (dg vx (k / 32) / 2 ^ (k % 32))) hx hb d_M_bit_9 (iN_ushr hd (by omega)) ?_
  refine lv_iconst (v := nI 1) hx hb d_M_bit_10 (by decide) ?_
  refine lv_iand hx hb d_M_bit_11 ?_
  refine x_topi (v := nI (vx / 2 ^ k % 2)) (by rw [iN_and1 hd2, dg_bit]) ?_
  exact W.iret hx hb hr (fun t ht hW => ⟨_, rfl, ht, rfl⟩) (fun _ h => nomatch h) d_M_bit_12
set_option maxHeartbeats 4000000 in
set_option maxRecDepth 100000 in
theorem m_part (l : Launch) (D : va_G) (cJ cI cQ cR : ClassId) (x k vx : Nat) (fx : Nat → Int32) (hk : k < 4) (hNx : NI fx 8 vx) : Met l y_M_part w_M_part { frames := 0, cells := 0, slots := 0, locals := 0 } (xP D vwCl (TY cJ cI cQ cR) [.ref x, .int (nI k)] (fun H => hI H cI x 8 fx)) (xQl (fun r H0 H => H = H0 ∧ r = lN (gp vx k))) 0 0 (fun _ => False) := by
  refine Met.ofW (cc := b_M_part) (maxL := 3) (ret := some .long) (by decide) rfl ?_
  intro p e s m args below meth c s₁ B hml hv
  obtain ⟨rfl, hK, hX⟩ := hv
  have hx := B.exec
  have hb := B.bytes
  have hr := B.returns
  have hts := atoms_spec (ws := w_M_part) B.pre
  have htw : ∀ w ∈ WT, w.before _ s = true := fun w h => hts w (List.mem_cons_of_mem _ h)
  have hown : s.vm.findClass "WideNumbersModel" = some m.cls := findClass_of_methodNamed B.named
  have hlocks := B.notSynchronized
  have hJ : ArrOfT s cJ .long := (hK.2 0 _ rfl).1
  have hI9 : ArrOfT s cI .int := (hK.2 1 _ rfl).1
  have hl := lv_entry ([.ref x, .int (nI k)]) (n := 3) (Nat.le_of_ble_eq_true rfl)
  rw [lg_entry_eq]
  generalize (lg_sl ([.ref x, .int (nI k)]) ++ List.replicate (3 - (lg_sl ([.ref x, .int (nI k)])).length) Slot.unset).toArray = ls at hl ⊢
  have hl : lv_has ls 3 [(0, .ref x), (1, .int (nI k))] := hl
  refine lv_iconst (v := nI 2) hx hb d_M_part_0 (by decide) ?_
  refine lv_iconst (v := nI 3) hx hb d_M_part_1 (by decide) ?_
  refine lv_iload_n hx hb d_M_part_2 rfl (lv_at hl 1 rfl) ?_
  refine lv_isub hx hb d_M_part_3 ?_
  refine x_topi (v := nI (3 - k)) (pk_sub (by omega)) ?_
  refine lv_imul hx hb d_M_part_4 ?_
  refine x_topi (v := nI (2 * (3 - k))) (pk_mul _ _) ?_
  refine lv_istore_n hx hb d_M_part_5 rfl hl (by decide) rfl (fun ls hl => ?_)
  have hl : lv_has ls 3 [(2, .int (nI (2 * (3 - k)))), (0, .ref x), (1, .int (nI k))] := hl
  refine lv_aload_n hx hb d_M_part_6 rfl (lv_at hl 1 rfl) ?_
  refine lv_iload_n hx hb d_M_part_7 rfl (lv_at hl 0 rfl) ?_
  refine lv_iconst (v := nI 1) hx hb d_M_part_8 (by decide) ?_
  refine lv_iadd hx hb d_M_part_9 ?_
  refine x_topi (v := nI (2 * (3 - k) + 1)) (nI_1 _) ?_
  refine x_iald hx hb hI9 hX (2 * (3 - k) + 1) (rfl) (by omega) (by omega) (v := nI (dg vx (2 * (3 - k) + 1))) (hNx _ (by omega)) d_M_part_10 ?_
  refine lv_i2l (v := (nI (dg vx (2 * (3 - k) + 1))).toInt64) hx hb d_M_part_11 (rfl) ?_
  refine lv_ldc2 (v := (4294967295 : Int64)) hx hb hown (htw _ kw_328) d_M_part_12 ?_
  refine lv_land hx hb d_M_part_15 ?_
  refine x_topl (v := lN (dg vx (2 * (3 - k) + 1))) (il_m (dg_lt _ _)) ?_
  refine lv_bipush (v := nI 32) hx hb d_M_part_16 (by decide) ?_
  refine lv_lshl (v := lN (dg vx (2 * (3 - k) + 1) * 4294967296)) hx hb d_M_part_18 (jN_shl (k := 32) _ (by decide)) ?_
  refine lv_aload_n hx hb d_M_part_19 rfl (lv_at hl 1 rfl) ?_
  refine lv_iload_n hx hb d_M_part_20 rfl (lv_at hl 0 rfl) ?_
  refine x_iald hx hb hI9 hX (2 * (3 - k)) (rfl) (by omega) (by omega) (v := nI (dg vx (2 * (3 - k)))) (hNx _ (by omega)) d_M_part_21 ?_
  refine lv_i2l (v := (nI (dg vx (2 * (3 - k)))).toInt64) hx hb d_M_part_22 (rfl) ?_
  refine lv_ldc2 (v := (4294967295 : Int64)) hx hb hown (htw _ kw_328) d_M_part_23 ?_
  refine lv_land hx hb d_M_part_26 ?_
  refine x_topl (v := lN (dg vx (2 * (3 - k)))) (il_m (dg_lt _ _)) ?_
  refine lv_lor hx hb d_M_part_27 ?_
  refine x_topl (v := lN (gp vx k)) (jN_or _ _) ?_
  exact W.lret hx hb hr (fun t ht hW => ⟨_, rfl, ht, rfl⟩) (fun _ h => nomatch h) d_M_part_28
set_option maxHeartbeats 4000000 in
set_option maxRecDepth 100000 in
theorem m_out (l : Launch) (D : va_G) (cJ cI cQ cR : ClassId) (o : Nat) (r : Int32) : Met l y_M_out w_M_out { frames := 0, cells := 0, slots := 0, locals := 0 } (xP D vwCl (TY cJ cI cQ cR) [.ref o, .int r] (fun H => True)) (xQi (fun x H0 H => H = H0 ∧ (x = 0 ∧ vd r 16 ∨ x = 1 ∧ ¬ vd r 16))) 0 0 (fun _ => False) := by
  refine Met.ofW (cc := b_M_out) (maxL := 2) (ret := some .boolean) (by decide) rfl ?_
  intro p e s m args below meth c s₁ B hml hv
  obtain ⟨rfl, hK, hB⟩ := hv
  have hx := B.exec
  have hb := B.bytes
  have hr := B.returns
  have hts := atoms_spec (ws := w_M_out) B.pre
  have htw : ∀ w ∈ WT, w.before _ s = true := fun w h => hts w (List.mem_cons_of_mem _ h)
  have hown : s.vm.findClass "WideNumbersModel" = some m.cls := findClass_of_methodNamed B.named
  have hlocks := B.notSynchronized
  have hJ : ArrOfT s cJ .long := (hK.2 0 _ rfl).1
  have hI9 : ArrOfT s cI .int := (hK.2 1 _ rfl).1
  have hl := lv_entry ([.ref o, .int r]) (n := 2) (Nat.le_of_ble_eq_true rfl)
  rw [lg_entry_eq]
  generalize (lg_sl ([.ref o, .int r]) ++ List.replicate (2 - (lg_sl ([.ref o, .int r])).length) Slot.unset).toArray = ls at hl ⊢
  have hl : lv_has ls 2 [(0, .ref o), (1, .int r)] := hl
  refine lv_iload_n hx hb d_M_out_0 rfl (lv_at hl 1 rfl) ?_
  refine lv_if_lt (tgt := 10) hx hb d_M_out_1 (by decide) (fun hc => ?_) (fun hc => ?_)
  · refine lv_iconst (v := nI 1) hx hb d_M_out_10 (by decide) ?_
    refine lv_goto (tgt := 15) hx hb d_M_out_11 (by decide) ?_
    exact W.zret hx hb hr rfl (fun t ht hW => ⟨_, rfl, ht, Or.inr ⟨rfl, fun h => by obtain ⟨k, hk, rfl⟩ := h; exact nI_pos (by omega) hc⟩⟩) (fun _ h => nomatch h) d_M_out_15
  · obtain ⟨k, hk, ek⟩ := nI_of hc
    refine lv_iload_n hx hb d_M_out_4 rfl (lv_at hl 1 rfl) ?_
    refine lv_bipush (v := nI 15) hx hb d_M_out_5 (by decide) ?_
    refine lv_icmp_le (tgt := 14) hx hb d_M_out_7 (by decide) (fun hc2 => ?_) (fun hc2 => ?_)
    · refine lv_iconst (v := nI 0) hx hb d_M_out_14 (by decide) ?_
      exact W.zret hx hb hr rfl (fun t ht hW => ⟨_, rfl, ht, Or.inl ⟨rfl, k, by subst ek; have := (nI_leI hk (by decide)).mp hc2; omega, ek⟩⟩) (fun _ h => nomatch h) d_M_out_15
    · refine lv_iconst (v := nI 1) hx hb d_M_out_10 (by decide) ?_
      refine lv_goto (tgt := 15) hx hb d_M_out_11 (by decide) ?_
      exact W.zret hx hb hr rfl (fun t ht hW => ⟨_, rfl, ht, Or.inr ⟨rfl, fun h => by obtain ⟨q, hq, rfl⟩ := h; exact hc2 (nI_le (by omega) (by decide))⟩⟩) (fun _ h => nomatch h) d_M_out_15
set_option maxHeartbeats 4000000 in
set_option maxRecDepth 100000 in
theorem m_below (l : Launch) (D : va_G) (cJ cI cQ cR : ClassId) (o x vx : Nat) (fx : Nat → Int32) (hvx : vx < 2 ^ 256) (hNx : NI fx 8 vx) : Met l y_M_below w_M_below { frames := 0, cells := 0, slots := 0, locals := 0 } (xP D vwCl (TY cJ cI cQ cR) [.ref o, .ref x] (fun H => hI H cI x 8 fx)) (xQi (fun r H0 H => H = H0 ∧ r = if 2 ^ 255 ≤ vx then 1 else 0)) 0 0 (fun _ => False) := by
  refine Met.ofW (cc := b_M_below) (maxL := 2) (ret := some .boolean) (by decide) rfl ?_
  intro p e s m args below meth c s₁ B hml hv
  obtain ⟨rfl, hK, hX⟩ := hv
  have hx := B.exec
  have hb := B.bytes
  have hr := B.returns
  have hts := atoms_spec (ws := w_M_below) B.pre
  have htw : ∀ w ∈ WT, w.before _ s = true := fun w h => hts w (List.mem_cons_of_mem _ h)
  have hown : s.vm.findClass "WideNumbersModel" = some m.cls := findClass_of_methodNamed B.named
  have hlocks := B.notSynchronized
  have hJ : ArrOfT s cJ .long := (hK.2 0 _ rfl).1
  have hI9 : ArrOfT s cI .int := (hK.2 1 _ rfl).1
  have hl := lv_entry ([.ref o, .ref x]) (n := 2) (Nat.le_of_ble_eq_true rfl)
  rw [lg_entry_eq]
  generalize (lg_sl ([.ref o, .ref x]) ++ List.replicate (2 - (lg_sl ([.ref o, .ref x])).length) Slot.unset).toArray = ls at hl ⊢
  have hl : lv_has ls 2 [(0, .ref o), (1, .ref x)] := hl
  have hd := dg_lt vx 7
  refine lv_aload_n hx hb d_M_below_0 rfl (lv_at hl 1 rfl) ?_
  refine lv_bipush (v := nI 7) hx hb d_M_below_1 (by decide) ?_
  refine x_iald hx hb hI9 hX (7) (rfl) (by omega) (by omega) (v := nI (dg vx 7)) (hNx 7 (by decide)) d_M_below_3 ?_
  refine lv_if_ge (tgt := 11) hx hb d_M_below_4 (by decide) (fun hc => ?_) (fun hc => ?_)
  · refine lv_iconst (v := nI 0) hx hb d_M_below_11 (by decide) ?_
    have hn := (dg7 hvx).mp ((iN_neg hd).mp hc)
    exact W.zret hx hb hr rfl (fun t ht hW => ⟨_, rfl, ht, by rw [if_neg hn]; rfl⟩) (fun _ h => nomatch h) d_M_below_12
  · refine lv_iconst (v := nI 1) hx hb d_M_below_7 (by decide) ?_
    refine lv_goto (tgt := 12) hx hb d_M_below_8 (by decide) ?_
    have hn : 2 ^ 255 ≤ vx := Decidable.byContradiction (fun h => hc ((iN_neg hd).mpr ((dg7 hvx).mpr h)))
    exact W.zret hx hb hr rfl (fun t ht hW => ⟨_, rfl, ht, by rw [if_pos hn]; rfl⟩) (fun _ h => nomatch h) d_M_below_12
set_option maxHeartbeats 4000000 in
set_option maxRecDepth 100000 in
theorem m_small (l : Launch) (D : va_G) (cJ cI cQ cR : ClassId) (x vx b : Nat) (fx : Nat → Int32) (hvx : vx < 2 ^ 256) (hb9 : b ≤ 256) (hNx : NI fx 8 vx) : Met l y_M_small w_M_small { frames := 0, cells := 0, slots := 0, locals := 0 } (xP D vwCl (TY cJ cI cQ cR) [.ref x, .long (lN b)] (fun H => hI H cI x 8 fx)) (xQl (fun r H0 H => H = H0 ∧ r = lN (if vx ≤ b then vx else b + 1))) 0 0 (fun _ => False) := by
  refine Met.ofW (cc := b_M_small) (maxL := 5) (ret := some .long) (by decide) rfl ?_
  intro p e s m args below meth c s₁ B hml hv
  obtain ⟨rfl, hK, hX⟩ := hv
  have hx := B.exec
  have hb := B.bytes
  have hr := B.returns
  have hts := atoms_spec (ws := w_M_small) B.pre
  have htw : ∀ w ∈ WT, w.before _ s = true := fun w h => hts w (List.mem_cons_of_mem _ h)
  have hown : s.vm.findClass "WideNumbersModel" = some m.cls := findClass_of_methodNamed B.named
  have hlocks := B.notSynchronized
  have hJ : ArrOfT s cJ .long := (hK.2 0 _ rfl).1
  have hI9 : ArrOfT s cI .int := (hK.2 1 _ rfl).1
  have hl := lv_entry ([.ref x, .long (lN b)]) (n := 5) (Nat.le_of_ble_eq_true rfl)
  rw [lg_entry_eq]
  generalize (lg_sl ([.ref x, .long (lN b)]) ++ List.replicate (5 - (lg_sl ([.ref x, .long (lN b)])).length) Slot.unset).toArray = ls at hl ⊢
  have hl : lv_has ls 5 [(0, .ref x), (1, .long (lN b))] := hl
  refine lv_iconst (v := nI 2) hx hb d_M_small_0 (by decide) ?_
  refine lv_istore_n hx hb d_M_small_1 rfl hl (by decide) rfl (fun ls hl => ?_)
  have hl : lv_has ls 5 [(3, .int (nI 2)), (0, .ref x), (1, .long (lN b))] := hl
  have hl : lv_has ls 5 [(3, .int (nI 2)), (0, .ref x), (1, .long (lN b))] := lv_sub hl [0, 1, 2] rfl
  refine x_loop 2 (fun i H locs ls => 2 ≤ i ∧ lv_has ls 5 [(3, .int (nI i)), (0, .ref x), (1, .long (lN b))] ∧ locs = [] ∧ H = s.heap ∧ ∀ j, 2 ≤ j → j < i → dg vx j = 0) 8 ?_ ?_ 2 _ _ _ (by omega) ?_
  · intro i H locs ls hi ⟨hi2, hl, hlo, hH, hz9⟩ ih
    refine lv_iload_n hx hb d_M_small_2 rfl (lv_at hl 0 rfl) ?_
    refine lv_bipush (v := nI 8) hx hb d_M_small_3 (by decide) ?_
    refine lv_icmp_ge (tgt := 24) hx hb d_M_small_5 (by decide) (fun hc => absurd hc (nI_ge (by omega) (by omega))) (fun _ => ?_)
    subst hlo
    subst hH
    have hd1 := dg_lt vx i
    refine lv_aload_n hx hb d_M_small_8 rfl (lv_at hl 1 rfl) ?_
    refine lv_iload_n hx hb d_M_small_9 rfl (lv_at hl 0 rfl) ?_
    refine x_iald hx hb hI9 hX (i) (rfl) (by omega) (by omega) (v := nI (dg vx i)) (hNx i hi) d_M_small_10 ?_
    refine lv_if_eq (tgt := 18) hx hb d_M_small_11 (by decide) (fun hc => ?_) (fun hc => ?_)
    · have hd : dg vx i = 0 := (iN_eq hd1 (by decide)).mp (hc.trans nI_0.symm)
      refine lv_iinc (v := nI (i + 1)) (k := 0) hx hb d_M_small_18 hl rfl (nI_1 i) (by decide) rfl (fun ls hl => ?_)
      have hl : lv_has ls 5 [(3, .int (nI (i + 1))), (0, .ref x), (1, .long (lN b))] := hl
      refine lv_goto (tgt := 2) hx hb d_M_small_21 (by decide) ?_
      have hl : lv_has ls 5 [(3, .int (nI (i + 1))), (0, .ref x), (1, .long (lN b))] := lv_sub hl [0, 1, 2] rfl
      exact ih _ _ ls ⟨by omega, hl, rfl, rfl, fun j hj hj2 => by
        by_cases e9 : j = i
        · rw [e9]; exact hd
        · exact hz9 j hj (by omega)⟩
    · have hne : dg vx i ≠ 0 := fun h => hc (by rw [h]; rfl)
      have hv : ¬ vx ≤ b := fun h => hne (dg_big (Nat.lt_of_le_of_lt h (Nat.lt_of_lt_of_le (show b < 2 ^ 64 by omega) (pw_le (by omega)))))
      refine lv_lload_n hx hb d_M_small_14 rfl (lv_at hl 2 rfl) ?_
      refine lv_lconst (v := lN 1) hx hb d_M_small_15 (by decide) ?_
      refine lv_ladd hx hb d_M_small_16 ?_
      refine x_topl (v := lN (b + 1)) (lN_add _ _) ?_
      exact W.lret hx hb hr (fun t ht hW => ⟨_, rfl, ht, by rw [if_neg hv]⟩) (fun _ h => nomatch h) d_M_small_17
  · intro H locs ls ⟨hi2, hl, hlo, hH, hz9⟩
    refine lv_iload_n hx hb d_M_small_2 rfl (lv_at hl 0 rfl) ?_
    refine lv_bipush (v := nI 8) hx hb d_M_small_3 (by decide) ?_
    refine lv_icmp_ge (tgt := 24) hx hb d_M_small_5 (by decide) (fun _ => ?_) (fun hc => absurd (nI_le (Nat.le_refl _) (by omega)) hc)
    subst hlo
    subst hH
    obtain ⟨h64, hve⟩ := v64 hvx hz9
    refine lv_aload_n hx hb d_M_small_24 rfl (lv_at hl 1 rfl) ?_
    refine lv_iconst (v := nI 1) hx hb d_M_small_25 (by decide) ?_
    refine x_iald hx hb hI9 hX (1) (rfl) (by omega) (by omega) (v := nI (dg vx 1)) (hNx 1 (by decide)) d_M_small_26 ?_
    refine lv_i2l (v := (nI (dg vx 1)).toInt64) hx hb d_M_small_27 (rfl) ?_
    refine lv_ldc2 (v := (4294967295 : Int64)) hx hb hown (htw _ kw_328) d_M_small_28 ?_
    refine lv_land hx hb d_M_small_31 ?_
    refine x_topl (v := lN (dg vx 1)) (il_m (dg_lt _ _)) ?_
    refine lv_bipush (v := nI 32) hx hb d_M_small_32 (by decide) ?_
    refine lv_lshl (v := lN (dg vx 1 * 4294967296)) hx hb d_M_small_34 (jN_shl (k := 32) _ (by decide)) ?_
    refine lv_aload_n hx hb d_M_small_35 rfl (lv_at hl 1 rfl) ?_
    refine lv_iconst (v := nI 0) hx hb d_M_small_36 (by decide) ?_
    refine x_iald hx hb hI9 hX (0) (rfl) (by omega) (by omega) (v := nI (dg vx 0)) (hNx 0 (by decide)) d_M_small_37 ?_
    refine lv_i2l (v := (nI (dg vx 0)).toInt64) hx hb d_M_small_38 (rfl) ?_
    refine lv_ldc2 (v := (4294967295 : Int64)) hx hb hown (htw _ kw_328) d_M_small_39 ?_
    refine lv_land hx hb d_M_small_42 ?_
    refine x_topl (v := lN (dg vx 0)) (il_m (dg_lt _ _)) ?_
    refine lv_lor hx hb d_M_small_43 ?_
    refine x_topl (v := lN vx) (by rw [jN_or, hve]) ?_
    refine lv_lstore_n hx hb d_M_small_44 rfl hl (by decide) rfl (fun ls hl => ?_)
    have hl : lv_has ls 5 [(3, .long (lN vx)), (0, .ref x), (1, .long (lN b))] := hl
    refine lv_lload_n hx hb d_M_small_45 rfl (lv_at hl 0 rfl) ?_
    refine lv_lconst (v := lN 0) hx hb d_M_small_46 (by decide) ?_
    refine W.lcmp hx hb d_M_small_47 ?_
    refine lv_if_lt (tgt := 57) hx hb d_M_small_48 (by decide) (fun hc => ?_) (fun hc => ?_)
    · have hb3 := (jN_neg h64).mp ((lg_cmp_lt _ _).mp hc)
      refine lv_lload_n hx hb d_M_small_57 rfl (lv_at hl 2 rfl) ?_
      refine lv_lconst (v := lN 1) hx hb d_M_small_58 (by decide) ?_
      refine lv_ladd hx hb d_M_small_59 ?_
      refine x_topl (v := lN (b + 1)) (lN_add _ _) ?_
      refine lv_goto (tgt := 64) hx hb d_M_small_60 (by decide) ?_
      exact W.lret hx hb hr (fun t ht hW => ⟨_, rfl, ht, by rw [if_neg (by omega)]⟩) (fun _ h => nomatch h) d_M_small_64
    · have hb3 : vx < 9223372036854775808 := Nat.lt_of_not_le (fun h => hc ((lg_cmp_lt _ _).mpr ((jN_neg h64).mpr h)))
      refine lv_lload_n hx hb d_M_small_51 rfl (lv_at hl 0 rfl) ?_
      refine lv_lload_n hx hb d_M_small_52 rfl (lv_at hl 2 rfl) ?_
      refine W.lcmp hx hb d_M_small_53 ?_
      refine lv_if_le (tgt := 63) hx hb d_M_small_54 (by decide) (fun hc2 => ?_) (fun hc2 => ?_)
      · have hle : vx ≤ b := Nat.le_of_not_lt (fun h => absurd ((lg_cmp_le _ _).mp hc2) (Int64.not_le.mpr ((jN_lt (by omega) (by omega)).mpr h)))
        refine lv_lload_n hx hb d_M_small_63 rfl (lv_at hl 0 rfl) ?_
        exact W.lret hx hb hr (fun t ht hW => ⟨_, rfl, ht, by rw [if_pos hle]⟩) (fun _ h => nomatch h) d_M_small_64
      · have hgt : ¬ vx ≤ b := fun h => hc2 ((lg_cmp_le _ _).mpr (Int64.not_lt.mp (fun z => absurd ((jN_lt (by omega) (by omega)).mp z) (by omega))))
        refine lv_lload_n hx hb d_M_small_57 rfl (lv_at hl 2 rfl) ?_
        refine lv_lconst (v := lN 1) hx hb d_M_small_58 (by decide) ?_
        refine lv_ladd hx hb d_M_small_59 ?_
        refine x_topl (v := lN (b + 1)) (lN_add _ _) ?_
        refine lv_goto (tgt := 64) hx hb d_M_small_60 (by decide) ?_
        exact W.lret hx hb hr (fun t ht hW => ⟨_, rfl, ht, by rw [if_neg hgt]⟩) (fun _ h => nomatch h) d_M_small_64
  · exact ⟨by decide, hl, rfl, rfl, fun j h1 h2 => absurd h2 (by omega)⟩
end
section
-- the reference's object at o: its array of rows at o + 1, the registers at o + 2 .. o + 17; x, y, z, none, wide, quotient, rest at o + 18 .. o + 24
def MF (o : Nat) (fl : Int32) : List Value := [.int fl, .ref (o + 1), .ref (o + 18), .ref (o + 19), .ref (o + 20), .ref (o + 21), .ref (o + 22), .ref (o + 23), .ref (o + 24)]
def MB (D : va_G) (cR : ClassId) (o : Nat) (fl : Int32) (H : Heap) : Prop := va_P D vwCl [(o, .inr (1, MF o fl))] H ∧ hQ H cR (o + 1) 16 (fun i => if i < 16 then some (o + 2 + i) else none)
theorem MB.f {D : va_G} {cR : ClassId} {o : Nat} {fl : Int32} {H H1 : Heap} {A : Nat → Prop} (h : MB D cR o fl H) (hF : XF A H H1) (h0 : ¬ A o) (h1 : ¬ A (o + 1)) : MB D cR o fl H1 := by
  refine ⟨h.1.kept (fun k q hq => ?_), hQ_f h.2 hF h1⟩
  have hl := (h.1 k q hq).lt
  match k, hq with
  | 0, hq => cases hq; exact hF.2 _ hl h0
  | k + 1, hq => cases hq
theorem MB.f1 {D : va_G} {cR : ClassId} {o z : Nat} {fl : Int32} {H H1 : Heap} (h : MB D cR o fl H) (hF : XF (fun q => q = z) H H1) (hz : o + 2 ≤ z) : MB D cR o fl H1 := h.f hF (fun e => by have e : o = z := e; omega) (fun e => by have e : o + 1 = z := e; omega)
/-- the scratch cells; those that divideWide writes -/
def MS (o : Nat) : Nat → Prop := fun q => o + 18 ≤ q ∧ q < o + 25
def WA (o : Nat) : Nat → Prop := fun q => q = o + 23 ∨ q = o + 24
theorem MB.fS {D : va_G} {cR : ClassId} {o : Nat} {fl : Int32} {H H1 : Heap} (h : MB D cR o fl H) (hF : XF (MS o) H H1) : MB D cR o fl H1 := h.f hF (fun e => by have e := e.1; omega) (fun e => by have e := e.1; omega)
theorem MB.fW {D : va_G} {cR : ClassId} {o : Nat} {fl : Int32} {H H1 : Heap} (h : MB D cR o fl H) (hF : XF (WA o) H H1) : MB D cR o fl H1 := h.f hF (fun e => by rcases e with e | e <;> omega) (fun e => by rcases e with e | e <;> omega)
theorem MB.rv {D : va_G} {cR : ClassId} {o : Nat} {fl : Int32} {H : Heap} {s : State} {tys : List (ClassId × FieldType)} (h : MB D cR o fl H) (hK : va_K D vwCl tys s) : ∃ cellB : Cell, H[o]? = some cellB ∧ cellB.vm.isStatics = false ∧ s.vm.findClass "WideNumbersModel" = some cellB.cls := va_recv (ci := 1) (q := ("WideNumbersModel", F_M, 9)) hK h.1 rfl (q0 := 0) rfl
theorem nWA {o a : Nat} (h : a < o + 23 ∨ o + 25 ≤ a) : ¬ WA o a := fun e => by rcases e with e | e <;> omega
theorem nMS {o a : Nat} (h : a < o + 18 ∨ o + 25 ≤ a) : ¬ MS o a := fun e => by have e1 := e.1; have e2 := e.2; omega
theorem MS1 {o z : Nat} {H0 H H1 : Heap} (h : XF (MS o) H0 H) (hF : XF (fun q => q = z) H H1) (hz : o + 18 ≤ z ∧ z < o + 25) : XF (MS o) H0 H1 := h.tr hF (fun q e => by have e : q = z := e; rw [e]; exact hz)
theorem MSW {o : Nat} {H0 H H1 : Heap} (h : XF (MS o) H0 H) (hF : XF (WA o) H H1) : XF (MS o) H0 H1 := h.tr hF (fun q e => by rcases e with e | e <;> (rw [e]; exact ⟨by omega, by omega⟩))
theorem MSS {o : Nat} {H0 H H1 : Heap} (h : XF (MS o) H0 H) (hF : XF (MS o) H H1) : XF (MS o) H0 H1 := h.tr hF (fun _ e => e)
theorem NI_m0 {f : Nat → Int32} {i : Nat} (h : NI f i 0) : NI (upd f i (nI 0)) (i + 1) 0 := by
  have e := NI_up h
  rwa [dg_0] at e
theorem div2_31 {d c : Nat} (h : d < 4294967296) (hc : c ≤ 1) : (2 * d + c) / 4294967296 = d / 2147483648 := by omega
theorem dg_le {v i : Nat} (h : v < 2 ^ (32 * i)) {k : Nat} (hk : i ≤ k) : dg v k = 0 := dg_big (Nat.lt_of_lt_of_le h (pw_le (by omega)))
theorem top8 {v : Nat} (h : v < 2 ^ 288) (h0 : dg v 8 = 0) : v < 2 ^ 256 := by
  unfold dg at h0
  omega
section XMF
variable {p : Program} {l : Launch} {e : Env} {R : Room} {s : State} {m : MethodId} {args : Array Value} {below : List Frame} {meth : Method} {c : Code} {H : Heap} {locs : List Loc} {cells slots : Nat} {Q : State → Prop}
variable {cc : ByteArray} {pc : Nat} {ls : Array Slot} {rest : List Value}
/-- the reference notes whether the call is refused -/
theorem x_fail (hexec : p.tables.exec = Jvm.exec) (hb : c.code = cc) (htw : ∀ w ∈ WT, w.before args s = true) (hown : s.vm.findClass "WideNumbersModel" = some m.cls) {D : va_G} {tys : List (ClassId × FieldType)} {cR : ClassId} {o : Nat} {fl v : Int32} (hK : va_K D vwCl tys s) (hO : MB D cR o fl H) (hlo : ∀ q ∈ locs, q.base = o) (hdg : decode cc pc = .ok (.putfield 36, 3))
    (kk : ∀ (H1 : Heap) (locs1 : List Loc), MB D cR o v H1 → XF (fun q => q = o) H H1 → (∀ q ∈ locs1, q.base = o) → W p l e R s m args below meth c H1 locs1 cells slots Q (F0 m (pc + 3) ls rest)) : W p l e R s m args below meth c H locs cells slots Q (F0 m pc ls (.int v :: .ref o :: rest)) := by
  have hD : va_D (fun q => q = o) [(o, .inr (1, MF o fl))] := by
    refine ⟨fun i j p q hp hq _ => ?_, fun k q hq => ?_⟩
    · match i, j, hp, hq with
      | 0, 0, _, _ => rfl
      | i + 1, _, hp, _ => cases hp
      | _, j + 1, _, hq => cases hq
    · match k, hq with
      | 0, hq => cases hq; rfl
      | k + 1, hq => cases hq
  have hS : va_S (fun q => q = o) H H locs := ⟨Nat.le_refl _, fun _ _ _ => rfl, hlo⟩
  refine va_put (D := D) (ci := 1) (v := .int v) (ty := .int) (C := "WideNumbersModel") (T := F_M) (N := 9) hexec hb htw inM t_M t_M_ok n_M hown hK hO.1 hD hS 0 rfl rfl 0 (by decide) (htw _ kw_276) (fun _ h9 => h9) rfl (by decide +kernel) rfl rfl (Nat.le_of_ble_eq_true rfl) hdg (fun H1 locs1 hP1 hD1 hS1 => ?_)
  have hF : XF (fun q => q = o) H H1 := ⟨hS1.1, fun q hl hq => hS1.2.1 q hl hq⟩
  exact kk H1 locs1 ⟨hP1, hQ_f hO.2 hF (show o + 1 ≠ o by omega)⟩ hF hS1.2.2
end XMF
end
section
-- contracts of the reference: negate, multiply
set_option maxHeartbeats 4000000 in
set_option maxRecDepth 100000 in
theorem m_negate (l : Launch) (D : va_G) (cJ cI cQ cR : ClassId) (o z vz : Nat) (fl : Int32) (fz fn : Nat → Int32) (hz21 : z ≠ o + 21) (hvz : vz < 2 ^ 256) (hNz : NI fz 8 vz) (hNn : NI fn 8 0) : Met l y_M_negate w_M_negate { frames := 1, cells := 0, slots := 0, locals := 25 } (xP D vwCl (TY cJ cI cQ cR) [.ref o, .ref z] (fun H => MB D cR o fl H ∧ hI H cI z 8 fz ∧ hI H cI (o + 21) 8 fn)) (xQv (fun H0 H => XF (fun q => q = z) H0 H ∧ ∃ f : Nat → Int32, hI H cI z 8 f ∧ NI f 8 ((2 ^ 256 - vz) % 2 ^ 256))) 0 0 (fun q => q = z) := by
  refine Met.ofW (cc := b_M_negate) (maxL := 2) (ret := none) (by decide) rfl ?_
  intro p e s m args below meth c s₁ B hml hv
  obtain ⟨rfl, hK, ⟨hO, hz, hn⟩⟩ := hv
  have hx := B.exec
  have hb := B.bytes
  have hr := B.returns
  have hts := atoms_spec (ws := w_M_negate) B.pre
  have htw : ∀ w ∈ WT, w.before _ s = true := fun w h => hts w (List.mem_cons_of_mem _ h)
  have hown : s.vm.findClass "WideNumbersModel" = some m.cls := findClass_of_methodNamed B.named
  have hlocks := B.notSynchronized
  have hJ : ArrOfT s cJ .long := (hK.2 0 _ rfl).1
  have hI9 : ArrOfT s cI .int := (hK.2 1 _ rfl).1
  have hl := lv_entry ([.ref o, .ref z]) (n := 2) (Nat.le_of_ble_eq_true rfl)
  rw [lg_entry_eq]
  generalize (lg_sl ([.ref o, .ref z]) ++ List.replicate (2 - (lg_sl ([.ref o, .ref z])).length) Slot.unset).toArray = ls at hl ⊢
  have hl : lv_has ls 2 [(0, .ref o), (1, .ref z)] := hl
  have hlo : ∀ q ∈ ([] : List Loc), (fun q => q = z) q.base := fun _ h => nomatch h
  refine lv_aload_n hx hb d_M_negate_0 rfl (lv_at hl 1 rfl) ?_
  refine lv_aload_n hx hb d_M_negate_1 rfl (lv_at hl 0 rfl) ?_
  refine va_get (D := D) (ci := 1) (v := .ref (o + 21)) (C := "WideNumbersModel") (T := F_M) (N := 9) hx hb htw inM hown hK hO.1 0 rfl rfl 5 (by decide) (htw _ kw_281) (fun _ h9 => h9) rfl d_M_negate_2 ?_
  refine lv_aload_n hx hb d_M_negate_5 rfl (lv_at hl 1 rfl) ?_
  refine x_callv (A := fun q => q = z) (va_runS (As := [.ref z, .ref (o + 21), .ref z]) (rest := []) ⟨hx, hb, hml, hown, htw⟩ (m_subtract l D cJ cI cQ cR z (o + 21) z 0 vz fz fn fz (fun e => hz21 e.symm) (pw_pos 256) hvz hNn hNz) (xcS 3 htw kw_348 kw_2 kw_346 kw_347 rfl rfl ⟨by decide, by decide, by decide +kernel⟩ ⟨Nat.le_of_ble_eq_true rfl, Nat.le_of_ble_eq_true rfl⟩) (xPre hK ⟨hz, hn, hz⟩) rfl rfl hl.1 rfl (lv_room (Nat.le_of_ble_eq_true rfl)) d_M_negate_6 ⟨Nat.le_of_ble_eq_true rfl, Nat.le_of_ble_eq_true rfl⟩) hlo (fun _ h => h) (fun H1 locs1 hB1 hlo => ?_)
  obtain ⟨hF1, v1, b1, f1, hf1, hN1, hv1, he1, hb1⟩ := hB1
  have hv : v1 = (2 ^ 256 - vz) % 2 ^ 256 := by omega
  rw [hv] at hN1
  exact W.vret hx hb hr (fun t ht hW => ⟨rfl, by rw [ht]; exact hF1, f1, by rw [ht]; exact hf1, hN1⟩) hlo d_M_negate_9
set_option maxHeartbeats 4000000 in
set_option maxRecDepth 100000 in
theorem m_multiply (l : Launch) (D : va_G) (cJ cI cQ cR : ClassId) (o x y vx vy : Nat) (fl : Int32) (fw fx fy : Nat → Int32) (hxz : x ≠ o + 22) (hyz : y ≠ o + 22) (hvx : vx < 2 ^ 256) (hvy : vy < 2 ^ 256) (hNx : NI fx 8 vx) (hNy : NI fy 8 vy) : Met l y_M_multiply w_M_multiply { frames := 0, cells := 0, slots := 0, locals := 0 } (xP D vwCl (TY cJ cI cQ cR) [.ref o, .ref x, .ref y] (fun H => MB D cR o fl H ∧ hI H cI (o + 22) 17 fw ∧ hI H cI x 8 fx ∧ hI H cI y 8 fy)) (xQv (fun H0 H => XF (fun q => q = o + 22) H0 H ∧ ∃ f : Nat → Int32, hI H cI (o + 22) 17 f ∧ NI f 17 (vx * vy))) 0 0 (fun q => q = o + 22) := by
  refine Met.ofW (cc := b_M_multiply) (maxL := 7) (ret := none) (by decide) rfl ?_
  intro p e s m args below meth c s₁ B hml hv
  obtain ⟨rfl, hK, ⟨hO, hz, hX, hY⟩⟩ := hv
  have hx := B.exec
  have hb := B.bytes
  have hr := B.returns
  have hts := atoms_spec (ws := w_M_multiply) B.pre
  have htw : ∀ w ∈ WT, w.before _ s = true := fun w h => hts w (List.mem_cons_of_mem _ h)
  have hown : s.vm.findClass "WideNumbersModel" = some m.cls := findClass_of_methodNamed B.named
  have hlocks := B.notSynchronized
  have hJ : ArrOfT s cJ .long := (hK.2 0 _ rfl).1
  have hI9 : ArrOfT s cI .int := (hK.2 1 _ rfl).1
  have hl := lv_entry ([.ref o, .ref x, .ref y]) (n := 7) (Nat.le_of_ble_eq_true rfl)
  rw [lg_entry_eq]
  generalize (lg_sl ([.ref o, .ref x, .ref y]) ++ List.replicate (7 - (lg_sl ([.ref o, .ref x, .ref y])).length) Slot.unset).toArray = ls at hl ⊢
  have hl : lv_has ls 7 [(0, .ref o), (1, .ref x), (2, .ref y)] := hl
  have hlo : ∀ q ∈ ([] : List Loc), (fun q => q = o + 22) q.base := fun _ h => nomatch h
  obtain ⟨G0, hG0⟩ : ∃ G0, G0 = s.heap := ⟨_, rfl⟩
  rw [← hG0] at hO hz hX hY ⊢
  refine lv_iconst (v := nI 0) hx hb d_M_multiply_0 (by decide) ?_
  refine lv_istore_n hx hb d_M_multiply_1 rfl hl (by decide) rfl (fun ls hl => ?_)
  have hl : lv_has ls 7 [(3, .int (nI 0)), (0, .ref o), (1, .ref x), (2, .ref y)] := hl
  have hl : lv_has ls 7 [(3, .int (nI 0)), (0, .ref o), (1, .ref x), (2, .ref y)] := lv_sub hl [0, 1, 2, 3] rfl
  refine x_loop 2 (fun i H locs ls => ∃ f : Nat → Int32, lv_has ls 7 [(3, .int (nI i)), (0, .ref o), (1, .ref x), (2, .ref y)] ∧ (∀ q ∈ locs, q.base = o + 22) ∧ XF (fun q => q = o + 22) G0 H ∧ hI H cI (o + 22) 17 f ∧ NI f i 0) 17 ?_ ?_ 0 _ _ _ (by omega) ?_
  · intro i H locs ls hi ⟨f, hl, hlo, hF, hf, hN⟩ ih
    refine lv_iload_n hx hb d_M_multiply_2 rfl (lv_at hl 0 rfl) ?_
    refine lv_bipush (v := nI 17) hx hb d_M_multiply_3 (by decide) ?_
    refine lv_icmp_ge (tgt := 21) hx hb d_M_multiply_5 (by decide) (fun hc => absurd hc (nI_ge (by omega) (by omega))) (fun _ => ?_)
    have hO := hO.f1 hF (by omega)
    refine lv_aload_n hx hb d_M_multiply_8 rfl (lv_at hl 1 rfl) ?_
    refine va_get (D := D) (ci := 1) (v := .ref (o + 22)) (C := "WideNumbersModel") (T := F_M) (N := 9) hx hb htw inM hown hK hO.1 0 rfl rfl 6 (by decide) (htw _ kw_282) (fun _ h9 => h9) rfl d_M_multiply_9 ?_
    refine lv_iload_n hx hb d_M_multiply_12 rfl (lv_at hl 0 rfl) ?_
    refine lv_iconst (v := nI 0) hx hb d_M_multiply_13 (by decide) ?_
    refine x_iast (A := fun q => q = o + 22) hx hb hI9 hf hlo (rfl) (i) (rfl) (by omega) (by omega) d_M_multiply_14 (fun H1 locs1 h1 hF1 hlo1 => ?_)
    refine lv_iinc (v := nI (i + 1)) (k := 0) hx hb d_M_multiply_15 hl rfl (nI_1 i) (by decide) rfl (fun ls hl => ?_)
    have hl : lv_has ls 7 [(3, .int (nI (i + 1))), (0, .ref o), (1, .ref x), (2, .ref y)] := hl
    refine lv_goto (tgt := 2) hx hb d_M_multiply_18 (by decide) ?_
    have hl : lv_has ls 7 [(3, .int (nI (i + 1))), (0, .ref o), (1, .ref x), (2, .ref y)] := lv_sub hl [0, 1, 2, 3] rfl
    exact ih H1 locs1 ls ⟨_, hl, hlo1, hF.tr hF1 (fun _ h => h), h1, NI_m0 hN⟩
  · intro H locs ls ⟨f, hl, hlo, hF, hf, hN⟩
    refine lv_iload_n hx hb d_M_multiply_2 rfl (lv_at hl 0 rfl) ?_
    refine lv_bipush (v := nI 17) hx hb d_M_multiply_3 (by decide) ?_
    refine lv_icmp_ge (tgt := 21) hx hb d_M_multiply_5 (by decide) (fun _ => ?_) (fun hc => absurd (nI_le (Nat.le_refl _) (by omega)) hc)
    have hO1 := hO.f1 hF (by omega)
    refine lv_iconst (v := nI 0) hx hb d_M_multiply_21 (by decide) ?_
    refine lv_istore_n hx hb d_M_multiply_22 rfl hl (by decide) rfl (fun ls hl => ?_)
    have hl : lv_has ls 7 [(3, .int (nI 0)), (0, .ref o), (1, .ref x), (2, .ref y)] := hl
    have hl : lv_has ls 7 [(3, .int (nI 0)), (0, .ref o), (1, .ref x), (2, .ref y)] := lv_sub hl [0, 1, 2, 3] rfl
    refine x_loop 23 (fun i H locs ls => ∃ f : Nat → Int32, lv_has ls 7 [(3, .int (nI i)), (0, .ref o), (1, .ref x), (2, .ref y)] ∧ (∀ q ∈ locs, q.base = o + 22) ∧ XF (fun q => q = o + 22) G0 H ∧ hI H cI (o + 22) 17 f ∧ NI f 17 (vx % 2 ^ (32 * i) * vy)) 8 ?_ ?_ 0 _ _ _ (by omega) ?_
    · intro i H locs ls hi ⟨f, hl, hlo, hF, hf, hN⟩ ih
      refine lv_iload_n hx hb d_M_multiply_23 rfl (lv_at hl 0 rfl) ?_
      refine lv_bipush (v := nI 8) hx hb d_M_multiply_24 (by decide) ?_
      refine lv_icmp_ge (tgt := 123) hx hb d_M_multiply_26 (by decide) (fun hc => absurd hc (nI_ge (by omega) (by omega))) (fun _ => ?_)
      refine lv_lconst (v := lN 0) hx hb d_M_multiply_29 (by decide) ?_
      refine lv_lstore hx hb d_M_multiply_30 hl (by decide) rfl (fun ls hl => ?_)
      have hl : lv_has ls 7 [(4, .long (lN 0)), (3, .int (nI i)), (0, .ref o), (1, .ref x), (2, .ref y)] := hl
      refine lv_iconst (v := nI 0) hx hb d_M_multiply_32 (by decide) ?_
      refine lv_istore hx hb d_M_multiply_33 hl (by decide) rfl (fun ls hl => ?_)
      have hl : lv_has ls 7 [(6, .int (nI 0)), (4, .long (lN 0)), (3, .int (nI i)), (0, .ref o), (1, .ref x), (2, .ref y)] := hl
      have hl : lv_has ls 7 [(6, .int (nI 0)), (4, .long (lN 0)), (3, .int (nI i)), (0, .ref o), (1, .ref x), (2, .ref y)] := lv_sub hl [0, 1, 2, 3, 4, 5] rfl
      have hd1 := dg_lt vx i
      have hVlt := mo_lt (vx := vx) (i := i) hvy
      have hVs := mo_s vx vy i
      obtain ⟨U, hU⟩ : ∃ U, U = vx % 2 ^ (32 * i) * vy := ⟨_, rfl⟩
      rw [← hU] at hN hVlt hVs
      refine x_loop 35 (fun j H locs ls => ∃ (c9 r : Nat) (f : Nat → Int32), lv_has ls 7 [(6, .int (nI j)), (4, .long (lN c9)), (3, .int (nI i)), (0, .ref o), (1, .ref x), (2, .ref y)] ∧ (∀ q ∈ locs, q.base = o + 22) ∧ XF (fun q => q = o + 22) G0 H ∧ hI H cI (o + 22) 17 f ∧ NI f (i + j) r ∧ (∀ k, i + j ≤ k → k < 17 → f k = nI (dg U k)) ∧ r < 2 ^ (32 * (i + j)) ∧ r + 2 ^ (32 * (i + j)) * c9 = U % 2 ^ (32 * (i + j)) + 2 ^ (32 * i) * (dg vx i * (vy % 2 ^ (32 * j))) ∧ c9 < 4294967296) 8 ?_ ?_ 0 _ _ _ (by omega) ?_
      · intro j H locs ls hj ⟨c9, r, f, hl, hlo, hF, hf, hN, hhi, hr9, he, hc9⟩ ih2
        have hO := hO.f1 hF (by omega)
        refine lv_iload hx hb d_M_multiply_35 (lv_at hl 0 rfl) ?_
        refine lv_bipush (v := nI 8) hx hb d_M_multiply_37 (by decide) ?_
        refine lv_icmp_ge (tgt := 105) hx hb d_M_multiply_39 (by decide) (fun hc => absurd hc (nI_ge (by omega) (by omega))) (fun _ => ?_)
        refine lv_lload hx hb d_M_multiply_42 (lv_at hl 1 rfl) ?_
        refine lv_aload_n hx hb d_M_multiply_44 rfl (lv_at hl 4 rfl) ?_
        refine lv_iload_n hx hb d_M_multiply_45 rfl (lv_at hl 2 rfl) ?_
        refine x_iald hx hb hI9 (hI_f hX hF hxz) (i) (rfl) (by omega) (by omega) (v := nI (dg vx i)) (hNx i hi) d_M_multiply_46 ?_
        refine lv_i2l (v := (nI (dg vx i)).toInt64) hx hb d_M_multiply_47 (rfl) ?_
        refine lv_ldc2 (v := (4294967295 : Int64)) hx hb hown (htw _ kw_328) d_M_multiply_48 ?_
        refine lv_land hx hb d_M_multiply_51 ?_
        refine x_topl (v := lN (dg vx i)) (il_m (dg_lt _ _)) ?_
        refine lv_aload_n hx hb d_M_multiply_52 rfl (lv_at hl 5 rfl) ?_
        refine lv_iload hx hb d_M_multiply_53 (lv_at hl 0 rfl) ?_
        refine x_iald hx hb hI9 (hI_f hY hF hyz) (j) (rfl) (by omega) (by omega) (v := nI (dg vy j)) (hNy j (by omega)) d_M_multiply_55 ?_
        refine lv_i2l (v := (nI (dg vy j)).toInt64) hx hb d_M_multiply_56 (rfl) ?_
        refine lv_ldc2 (v := (4294967295 : Int64)) hx hb hown (htw _ kw_328) d_M_multiply_57 ?_
        refine lv_land hx hb d_M_multiply_60 ?_
        refine x_topl (v := lN (dg vy j)) (il_m (dg_lt _ _)) ?_
        refine lv_lmul hx hb d_M_multiply_61 ?_
        refine x_topl (v := lN (dg vx i * dg vy j)) (lN_mul _ _) ?_
        refine lv_aload_n hx hb d_M_multiply_62 rfl (lv_at hl 3 rfl) ?_
        refine va_get (D := D) (ci := 1) (v := .ref (o + 22)) (C := "WideNumbersModel") (T := F_M) (N := 9) hx hb htw inM hown hK hO.1 0 rfl rfl 6 (by decide) (htw _ kw_282) (fun _ h9 => h9) rfl d_M_multiply_63 ?_
        refine lv_iload_n hx hb d_M_multiply_66 rfl (lv_at hl 2 rfl) ?_
        refine lv_iload hx hb d_M_multiply_67 (lv_at hl 0 rfl) ?_
        refine lv_iadd hx hb d_M_multiply_69 ?_
        refine x_topi (v := nI (i + j)) (nI_add _ _) ?_
        refine x_iald hx hb hI9 hf (i + j) (rfl) (by omega) (by omega) (v := nI (dg U (i + j))) (hhi _ (Nat.le_refl _) (by omega)) d_M_multiply_70 ?_
        refine lv_i2l (v := (nI (dg U (i + j))).toInt64) hx hb d_M_multiply_71 (rfl) ?_
        refine lv_ldc2 (v := (4294967295 : Int64)) hx hb hown (htw _ kw_328) d_M_multiply_72 ?_
        refine lv_land hx hb d_M_multiply_75 ?_
        refine x_topl (v := lN (dg U (i + j))) (il_m (dg_lt _ _)) ?_
        refine lv_ladd hx hb d_M_multiply_76 ?_
        refine lv_ladd hx hb d_M_multiply_77 ?_
        refine x_topl (v := lN (dg vx i * dg vy j + dg U (i + j) + c9)) (by rw [lN_add, lN_add, Nat.add_comm c9]) ?_
        have hd2 := dg_lt vy j
        have hd3 := dg_lt U (i + j)
        have hm : dg vx i * dg vy j ≤ 4294967295 * 4294967295 := Nat.mul_le_mul (by omega) (by omega)
        obtain ⟨S, hS⟩ : ∃ S, S = dg vx i * dg vy j + dg U (i + j) + c9 := ⟨_, rfl⟩
        rw [← hS]
        have hS64 : S < 18446744073709551616 := by omega
        refine lv_lstore hx hb d_M_multiply_78 hl (by decide) rfl (fun ls hl => ?_)
        have hl : lv_has ls 7 [(4, .long (lN S)), (6, .int (nI j)), (3, .int (nI i)), (0, .ref o), (1, .ref x), (2, .ref y)] := hl
        refine lv_aload_n hx hb d_M_multiply_80 rfl (lv_at hl 3 rfl) ?_
        refine va_get (D := D) (ci := 1) (v := .ref (o + 22)) (C := "WideNumbersModel") (T := F_M) (N := 9) hx hb htw inM hown hK hO.1 0 rfl rfl 6 (by decide) (htw _ kw_282) (fun _ h9 => h9) rfl d_M_multiply_81 ?_
        refine lv_iload_n hx hb d_M_multiply_84 rfl (lv_at hl 2 rfl) ?_
        refine lv_iload hx hb d_M_multiply_85 (lv_at hl 1 rfl) ?_
        refine lv_iadd hx hb d_M_multiply_87 ?_
        refine x_topi (v := nI (i + j)) (nI_add _ _) ?_
        refine lv_lload hx hb d_M_multiply_88 (lv_at hl 0 rfl) ?_
        refine lv_l2i (v := nI S) hx hb d_M_multiply_90 (lN_i _) ?_
        refine x_topi (v := nI (S % 4294967296)) ((iN_mod S).symm) ?_
        refine x_iast (A := fun q => q = o + 22) hx hb hI9 hf hlo (rfl) (i + j) (rfl) (by omega) (by omega) d_M_multiply_91 (fun H1 locs1 h1 hF1 hlo1 => ?_)
        refine lv_lload hx hb d_M_multiply_92 (lv_at hl 0 rfl) ?_
        refine lv_bipush (v := nI 32) hx hb d_M_multiply_94 (by decide) ?_
        refine lv_lushr (v := lN (S / 4294967296)) hx hb d_M_multiply_96 (jN_shr (k := 32) hS64 (by decide)) ?_
        refine lv_lstore hx hb d_M_multiply_97 hl (by decide) rfl (fun ls hl => ?_)
        have hl : lv_has ls 7 [(4, .long (lN (S / 4294967296))), (6, .int (nI j)), (3, .int (nI i)), (0, .ref o), (1, .ref x), (2, .ref y)] := hl
        refine lv_iinc (v := nI (j + 1)) (k := 1) hx hb d_M_multiply_99 hl rfl (nI_1 j) (by decide) rfl (fun ls hl => ?_)
        have hl : lv_has ls 7 [(6, .int (nI (j + 1))), (4, .long (lN (S / 4294967296))), (3, .int (nI i)), (0, .ref o), (1, .ref x), (2, .ref y)] := hl
        refine lv_goto (tgt := 35) hx hb d_M_multiply_102 (by decide) ?_
        have hl : lv_has ls 7 [(6, .int (nI (j + 1))), (4, .long (lN (S / 4294967296))), (3, .int (nI i)), (0, .ref o), (1, .ref x), (2, .ref y)] := lv_sub hl [0, 1, 2, 3, 4, 5] rfl
        refine ih2 H1 locs1 ls ⟨S / 4294967296, r + 2 ^ (32 * (i + j)) * (S % 4294967296), _, hl, hlo1, hF.tr hF1 (fun _ h => h), h1, NI_put hN hr9 (Nat.mod_lt _ (by decide)), fun k hk hkn => by rw [pk_un (by omega)]; exact hhi k (by omega) hkn, dg_alt hr9 (Nat.mod_lt _ (by decide)), ?_, by omega⟩
        rw [show i + (j + 1) = (i + j) + 1 from rfl, dg_mods, dg_mods vy j, pw_s]
        exact st_mul (show 2 ^ (32 * (i + j)) = 2 ^ (32 * i) * 2 ^ (32 * j) by rw [← Nat.pow_add]; congr 1; omega) he (by rw [← hS]; exact Nat.mod_add_div S 4294967296)
      · intro H locs ls ⟨c9, r, f, hl, hlo, hF, hf, hN, hhi, hr9, he, hc9⟩
        have hO := hO.f1 hF (by omega)
        refine lv_iload hx hb d_M_multiply_35 (lv_at hl 0 rfl) ?_
        refine lv_bipush (v := nI 8) hx hb d_M_multiply_37 (by decide) ?_
        refine lv_icmp_ge (tgt := 105) hx hb d_M_multiply_39 (by decide) (fun _ => ?_) (fun hc => absurd (nI_le (Nat.le_refl _) (by omega)) hc)
        have hrr := mo_16 hVlt hvy he
        rw [← hVs] at hrr
        refine lv_aload_n hx hb d_M_multiply_105 rfl (lv_at hl 3 rfl) ?_
        refine va_get (D := D) (ci := 1) (v := .ref (o + 22)) (C := "WideNumbersModel") (T := F_M) (N := 9) hx hb htw inM hown hK hO.1 0 rfl rfl 6 (by decide) (htw _ kw_282) (fun _ h9 => h9) rfl d_M_multiply_106 ?_
        refine lv_iload_n hx hb d_M_multiply_109 rfl (lv_at hl 2 rfl) ?_
        refine lv_bipush (v := nI 8) hx hb d_M_multiply_110 (by decide) ?_
        refine lv_iadd hx hb d_M_multiply_112 ?_
        refine x_topi (v := nI (i + 8)) (nI_add _ _) ?_
        refine lv_lload hx hb d_M_multiply_113 (lv_at hl 1 rfl) ?_
        refine lv_l2i (v := nI c9) hx hb d_M_multiply_115 (lN_i _) ?_
        refine x_iast (A := fun q => q = o + 22) hx hb hI9 hf hlo (rfl) (i + 8) (rfl) (by omega) (by omega) d_M_multiply_116 (fun H1 locs1 h1 hF1 hlo1 => ?_)
        refine lv_iinc (v := nI (i + 1)) (k := 2) hx hb d_M_multiply_117 hl rfl (nI_1 i) (by decide) rfl (fun ls hl => ?_)
        have hl : lv_has ls 7 [(3, .int (nI (i + 1))), (6, .int (nI 8)), (4, .long (lN c9)), (0, .ref o), (1, .ref x), (2, .ref y)] := hl
        refine lv_goto (tgt := 23) hx hb d_M_multiply_120 (by decide) ?_
        have hl : lv_has ls 7 [(3, .int (nI (i + 1))), (0, .ref o), (1, .ref x), (2, .ref y)] := lv_sub hl [0, 3, 4, 5] rfl
        have hN1 := NI_put hN hr9 hc9
        rw [hrr] at hN1
        refine ih _ _ ls ⟨_, hl, hlo1, hF.tr hF1 (fun _ h => h), h1, fun q hq => ?_⟩
        by_cases hq8 : q < i + 8 + 1
        · exact hN1 q hq8
        · rw [pk_un (by omega), hhi q (by omega) hq, dg_big (Nat.lt_of_lt_of_le hVlt (pw_le (by omega))), dg_big (Nat.lt_of_lt_of_le (mo_lt hvy) (pw_le (by omega)))]
      · exact ⟨0, U % 2 ^ (32 * i), f, hl, hlo, hF, hf, NI_cut hN (by omega), fun k hk hkn => hN k hkn, Nat.mod_lt _ (pw_pos _), by simp [Nat.mod_one], by decide⟩
    · intro H locs ls ⟨f, hl, hlo, hF, hf, hN⟩
      refine lv_iload_n hx hb d_M_multiply_23 rfl (lv_at hl 0 rfl) ?_
      refine lv_bipush (v := nI 8) hx hb d_M_multiply_24 (by decide) ?_
      refine lv_icmp_ge (tgt := 123) hx hb d_M_multiply_26 (by decide) (fun _ => ?_) (fun hc => absurd (nI_le (Nat.le_refl _) (by omega)) hc)
      rw [Nat.mod_eq_of_lt (show vx < 2 ^ (32 * 8) from hvx)] at hN
      exact W.vret hx hb hr (fun t ht hW => ⟨rfl, by rw [ht, ← hG0]; exact hF, f, by rw [ht]; exact hf, hN⟩) hlo d_M_multiply_123
    · exact ⟨f, hl, hlo, hF, hf, fun j hj => by rw [hN j hj, show 2 ^ (32 * 0) = 1 from rfl, Nat.mod_one, Nat.zero_mul]⟩
  · exact ⟨fw, hl, hlo, XF.rf, hz, NI_0⟩
end
section
-- contracts of the reference: divideWide, divide
set_option maxHeartbeats 4000000 in
set_option maxRecDepth 100000 in
theorem m_divideWide (l : Launch) (D : va_G) (cJ cI cQ cR : ClassId) (o y u vy nb : Nat) (fl : Int32) (fw fq fr fy : Nat → Int32) (hnb : nb ≤ 512) (hyn : ¬ WA o y) (hu : u < 2 ^ nb) (hvy : vy < 2 ^ 256) (hvp : 0 < vy) (hNw : NI fw 17 u) (hNy : NI fy 8 vy) : Met l y_M_divideWide w_M_divideWide { frames := 0, cells := 0, slots := 0, locals := 0 } (xP D vwCl (TY cJ cI cQ cR) [.ref o, .ref y, .int (nI nb)] (fun H => MB D cR o fl H ∧ hI H cI (o + 22) 17 fw ∧ hI H cI (o + 23) 16 fq ∧ hI H cI (o + 24) 9 fr ∧ hI H cI y 8 fy)) (xQv (fun H0 H => XF (WA o) H0 H ∧ ∃ (f g : Nat → Int32), hI H cI (o + 23) 16 f ∧ NI f 16 (u / vy) ∧ hI H cI (o + 24) 9 g ∧ NI g 9 (u % vy))) 0 0 (WA o) := by
  refine Met.ofW (cc := b_M_divideWide) (maxL := 9) (ret := none) (by decide) rfl ?_
  intro p e s m args below meth c s₁ B hml hv
  obtain ⟨rfl, hK, ⟨hO0, hw0, hq0, hr0, hY0⟩⟩ := hv
  have hx := B.exec
  have hb := B.bytes
  have hr := B.returns
  have hts := atoms_spec (ws := w_M_divideWide) B.pre
  have htw : ∀ w ∈ WT, w.before _ s = true := fun w h => hts w (List.mem_cons_of_mem _ h)
  have hown : s.vm.findClass "WideNumbersModel" = some m.cls := findClass_of_methodNamed B.named
  have hlocks := B.notSynchronized
  have hJ : ArrOfT s cJ .long := (hK.2 0 _ rfl).1
  have hI9 : ArrOfT s cI .int := (hK.2 1 _ rfl).1
  have hl := lv_entry ([.ref o, .ref y, .int (nI nb)]) (n := 9) (Nat.le_of_ble_eq_true rfl)
  rw [lg_entry_eq]
  generalize (lg_sl ([.ref o, .ref y, .int (nI nb)]) ++ List.replicate (9 - (lg_sl ([.ref o, .ref y, .int (nI nb)])).length) Slot.unset).toArray = ls at hl ⊢
  have hl : lv_has ls 9 [(0, .ref o), (1, .ref y), (2, .int (nI nb))] := hl
  have hlo : ∀ q ∈ ([] : List Loc), WA o q.base := fun _ h => nomatch h
  obtain ⟨G0, hG0⟩ : ∃ G0, G0 = s.heap := ⟨_, rfl⟩
  have hO := hO0
  rw [← hG0] at hO ⊢
  have hz := hq0
  rw [← hG0] at hz
  refine lv_iconst (v := nI 0) hx hb d_M_divideWide_0 (by decide) ?_
  refine lv_istore_n hx hb d_M_divideWide_1 rfl hl (by decide) rfl (fun ls hl => ?_)
  have hl : lv_has ls 9 [(3, .int (nI 0)), (0, .ref o), (1, .ref y), (2, .int (nI nb))] := hl
  have hl : lv_has ls 9 [(3, .int (nI 0)), (0, .ref o), (1, .ref y), (2, .int (nI nb))] := lv_sub hl [0, 1, 2, 3] rfl
  refine x_loop 2 (fun i H locs ls => ∃ f : Nat → Int32, lv_has ls 9 [(3, .int (nI i)), (0, .ref o), (1, .ref y), (2, .int (nI nb))] ∧ (∀ q ∈ locs, WA o q.base) ∧ XF (fun q => q = o + 23) G0 H ∧ hI H cI (o + 23) 16 f ∧ NI f i 0) 16 ?_ ?_ 0 _ _ _ (by omega) ?_
  · intro i H locs ls hi ⟨f, hl, hlo, hF, hf, hN⟩ ih
    refine lv_iload_n hx hb d_M_divideWide_2 rfl (lv_at hl 0 rfl) ?_
    refine lv_bipush (v := nI 16) hx hb d_M_divideWide_3 (by decide) ?_
    refine lv_icmp_ge (tgt := 21) hx hb d_M_divideWide_5 (by decide) (fun hc => absurd hc (nI_ge (by omega) (by omega))) (fun _ => ?_)
    have hO := hO.f1 hF (by omega)
    refine lv_aload_n hx hb d_M_divideWide_8 rfl (lv_at hl 1 rfl) ?_
    refine va_get (D := D) (ci := 1) (v := .ref (o + 23)) (C := "WideNumbersModel") (T := F_M) (N := 9) hx hb htw inM hown hK hO.1 0 rfl rfl 7 (by decide) (htw _ kw_283) (fun _ h9 => h9) rfl d_M_divideWide_9 ?_
    refine lv_iload_n hx hb d_M_divideWide_12 rfl (lv_at hl 0 rfl) ?_
    refine lv_iconst (v := nI 0) hx hb d_M_divideWide_13 (by decide) ?_
    refine x_iast (A := WA o) hx hb hI9 hf hlo (Or.inl rfl) (i) (rfl) (by omega) (by omega) d_M_divideWide_14 (fun H1 locs1 h1 hF1 hlo1 => ?_)
    refine lv_iinc (v := nI (i + 1)) (k := 0) hx hb d_M_divideWide_15 hl rfl (nI_1 i) (by decide) rfl (fun ls hl => ?_)
    have hl : lv_has ls 9 [(3, .int (nI (i + 1))), (0, .ref o), (1, .ref y), (2, .int (nI nb))] := hl
    refine lv_goto (tgt := 2) hx hb d_M_divideWide_18 (by decide) ?_
    have hl : lv_has ls 9 [(3, .int (nI (i + 1))), (0, .ref o), (1, .ref y), (2, .int (nI nb))] := lv_sub hl [0, 1, 2, 3] rfl
    exact ih H1 locs1 ls ⟨_, hl, hlo1, hF.tr hF1 (fun _ h => h), h1, NI_m0 hN⟩
  · intro G1 locs ls ⟨f1, hl, hlo, hF1, hf1, hN1⟩
    refine lv_iload_n hx hb d_M_divideWide_2 rfl (lv_at hl 0 rfl) ?_
    refine lv_bipush (v := nI 16) hx hb d_M_divideWide_3 (by decide) ?_
    refine lv_icmp_ge (tgt := 21) hx hb d_M_divideWide_5 (by decide) (fun _ => ?_) (fun hc => absurd (nI_le (Nat.le_refl _) (by omega)) hc)
    have hO1 := hO.f1 hF1 (by omega)
    have hr1 := hI_f (hG0 ▸ hr0 : hI G0 cI (o + 24) 9 fr) hF1 (show o + 24 ≠ o + 23 by omega)
    refine lv_iconst (v := nI 0) hx hb d_M_divideWide_21 (by decide) ?_
    refine lv_istore_n hx hb d_M_divideWide_22 rfl hl (by decide) rfl (fun ls hl => ?_)
    have hl : lv_has ls 9 [(3, .int (nI 0)), (0, .ref o), (1, .ref y), (2, .int (nI nb))] := hl
    have hl : lv_has ls 9 [(3, .int (nI 0)), (0, .ref o), (1, .ref y), (2, .int (nI nb))] := lv_sub hl [0, 1, 2, 3] rfl
    refine x_loop 23 (fun i H locs ls => ∃ f : Nat → Int32, lv_has ls 9 [(3, .int (nI i)), (0, .ref o), (1, .ref y), (2, .int (nI nb))] ∧ (∀ q ∈ locs, WA o q.base) ∧ XF (fun q => q = o + 24) G1 H ∧ hI H cI (o + 24) 9 f ∧ NI f i 0) 9 ?_ ?_ 0 _ _ _ (by omega) ?_
    · intro i H locs ls hi ⟨f, hl, hlo, hF, hf, hN⟩ ih
      refine lv_iload_n hx hb d_M_divideWide_23 rfl (lv_at hl 0 rfl) ?_
      refine lv_bipush (v := nI 9) hx hb d_M_divideWide_24 (by decide) ?_
      refine lv_icmp_ge (tgt := 42) hx hb d_M_divideWide_26 (by decide) (fun hc => absurd hc (nI_ge (by omega) (by omega))) (fun _ => ?_)
      have hO := hO1.f1 hF (by omega)
      refine lv_aload_n hx hb d_M_divideWide_29 rfl (lv_at hl 1 rfl) ?_
      refine va_get (D := D) (ci := 1) (v := .ref (o + 24)) (C := "WideNumbersModel") (T := F_M) (N := 9) hx hb htw inM hown hK hO.1 0 rfl rfl 8 (by decide) (htw _ kw_284) (fun _ h9 => h9) rfl d_M_divideWide_30 ?_
      refine lv_iload_n hx hb d_M_divideWide_33 rfl (lv_at hl 0 rfl) ?_
      refine lv_iconst (v := nI 0) hx hb d_M_divideWide_34 (by decide) ?_
      refine x_iast (A := WA o) hx hb hI9 hf hlo (Or.inr rfl) (i) (rfl) (by omega) (by omega) d_M_divideWide_35 (fun H1 locs1 h1 hF1 hlo1 => ?_)
      refine lv_iinc (v := nI (i + 1)) (k := 0) hx hb d_M_divideWide_36 hl rfl (nI_1 i) (by decide) rfl (fun ls hl => ?_)
      have hl : lv_has ls 9 [(3, .int (nI (i + 1))), (0, .ref o), (1, .ref y), (2, .int (nI nb))] := hl
      refine lv_goto (tgt := 23) hx hb d_M_divideWide_39 (by decide) ?_
      have hl : lv_has ls 9 [(3, .int (nI (i + 1))), (0, .ref o), (1, .ref y), (2, .int (nI nb))] := lv_sub hl [0, 1, 2, 3] rfl
      exact ih H1 locs1 ls ⟨_, hl, hlo1, hF.tr hF1 (fun _ h => h), h1, NI_m0 hN⟩
    · intro G2 locs ls ⟨f2, hl, hlo, hF2, hf2, hN2⟩
      refine lv_iload_n hx hb d_M_divideWide_23 rfl (lv_at hl 0 rfl) ?_
      refine lv_bipush (v := nI 9) hx hb d_M_divideWide_24 (by decide) ?_
      refine lv_icmp_ge (tgt := 42) hx hb d_M_divideWide_26 (by decide) (fun _ => ?_) (fun hc => absurd (nI_le (Nat.le_refl _) (by omega)) hc)
      have hO2 := hO1.f1 hF2 (by omega)
      have hq2 := hI_f hf1 hF2 (show o + 23 ≠ o + 24 by omega)
      have hFF : XF (WA o) s.heap G2 := by
        rw [← hG0]
        exact (hF1.wk (B := WA o) (fun _ h => Or.inl h)).tr (hF2.wk (B := WA o) (fun _ h => Or.inr h)) (fun _ h => h)
      refine lv_iload_n hx hb d_M_divideWide_42 rfl (lv_at hl 3 rfl) ?_
      refine lv_iconst (v := nI 1) hx hb d_M_divideWide_43 (by decide) ?_
      refine lv_isub hx hb d_M_divideWide_44 ?_
      refine x_topi (v := nI nb - 1) (rfl) ?_
      refine lv_istore_n hx hb d_M_divideWide_45 rfl hl (by decide) rfl (fun ls hl => ?_)
      have hl : lv_has ls 9 [(3, .int (nI nb - 1)), (0, .ref o), (1, .ref y), (2, .int (nI nb))] := hl
      have hl : lv_has ls 9 [(3, .int (nI nb - 1)), (0, .ref o), (1, .ref y)] := lv_sub hl [0, 1, 2] rfl
      refine x_loopD 46 (fun i H locs ls => i ≤ nb ∧ ∃ (fq fr : Nat → Int32), lv_has ls 9 [(3, .int (nI i - 1)), (0, .ref o), (1, .ref y)] ∧ (∀ q ∈ locs, WA o q.base) ∧ XF (WA o) s.heap H ∧ hI H cI (o + 23) 16 fq ∧ NI fq 16 (u / 2 ^ i / vy * 2 ^ i) ∧ hI H cI (o + 24) 9 fr ∧ NI fr 9 (u / 2 ^ i % vy)) ?_ ?_ nb _ _ _ ?_
      · intro i H locs ls ⟨hi, fq, fr, hl, hlo, hF, hq, hNq, hrm, hNr⟩ ih
        have hO := hO0.fW hF
        have hw := hI_f hw0 hF (nWA (by omega))
        have hY := hI_f hY0 hF hyn
        have hbit : u / 2 ^ i % 2 ≤ 1 := by omega
        have hT := dv_b u i
        have hRlt := Nat.mod_lt (u / 2 ^ (i + 1)) hvp
        have hdw := dg_lt u (i / 32)
        have hdw2 : dg u (i / 32) / 2 ^ (i % 32) < 4294967296 := Nat.lt_of_le_of_lt (Nat.div_le_self _ _) hdw
        refine lv_iload_n hx hb d_M_divideWide_46 rfl (lv_at hl 0 rfl) ?_
        refine x_topi (v := nI i) (nI_pred i) ?_
        refine lv_if_lt (tgt := 315) hx hb d_M_divideWide_47 (by decide) (fun hc => absurd hc (nI_pos (by omega))) (fun _ => ?_)
        rw [nI_pred] at hl
        have hl : lv_has ls 9 [(3, .int (nI i)), (0, .ref o), (1, .ref y)] := hl
        refine lv_aload_n hx hb d_M_divideWide_50 rfl (lv_at hl 1 rfl) ?_
        refine va_get (D := D) (ci := 1) (v := .ref (o + 22)) (C := "WideNumbersModel") (T := F_M) (N := 9) hx hb htw inM hown hK hO.1 0 rfl rfl 6 (by decide) (htw _ kw_282) (fun _ h9 => h9) rfl d_M_divideWide_51 ?_
        refine lv_iload_n hx hb d_M_divideWide_54 rfl (lv_at hl 0 rfl) ?_
        refine lv_iconst (v := nI 5) hx hb d_M_divideWide_55 (by decide) ?_
        refine lv_ishr hx hb d_M_divideWide_56 ?_
        refine x_topi (v := nI (i / 32)) (iN_shr5 (by omega)) ?_
        refine x_iald hx hb hI9 hw (i / 32) (rfl) (by omega) (by omega) (v := nI (dg u (i / 32))) (hNw _ (by omega)) d_M_divideWide_57 ?_
        refine lv_iload_n hx hb d_M_divideWide_58 rfl (lv_at hl 0 rfl) ?_
        refine lv_bipush (v := nI 31) hx hb d_M_divideWide_59 (by decide) ?_
        refine lv_iand hx hb d_M_divideWide_61 ?_
        refine x_topi (v := nI (i % 32)) (iN_and31 (by omega)) ?_
        refine lv_iushr (v := nI (dg u (i / 32) / 2 ^ (i % 32))) hx hb d_M_divideWide_62 (iN_ushr hdw (by omega)) ?_
        refine lv_iconst (v := nI 1) hx hb d_M_divideWide_63 (by decide) ?_
        refine lv_iand hx hb d_M_divideWide_64 ?_
        refine x_topi (v := nI (u / 2 ^ i % 2)) (by rw [iN_and1 hdw2, dg_bit]) ?_
        generalize hbb : u / 2 ^ i % 2 = b0 at hbit hT ⊢
        obtain ⟨R0, hR0⟩ : ∃ R0, R0 = u / 2 ^ (i + 1) % vy := ⟨_, rfl⟩
        rw [← hR0] at hNr hRlt
        refine lv_istore hx hb d_M_divideWide_65 hl (by decide) rfl (fun ls hl => ?_)
        have hl : lv_has ls 9 [(4, .int (nI b0)), (3, .int (nI i)), (0, .ref o), (1, .ref y)] := hl
        refine lv_iconst (v := nI 0) hx hb d_M_divideWide_67 (by decide) ?_
        refine lv_istore hx hb d_M_divideWide_68 hl (by decide) rfl (fun ls hl => ?_)
        have hl : lv_has ls 9 [(5, .int (nI 0)), (4, .int (nI b0)), (3, .int (nI i)), (0, .ref o), (1, .ref y)] := hl
        have hl : lv_has ls 9 [(5, .int (nI 0)), (4, .int (nI b0)), (3, .int (nI i)), (0, .ref o), (1, .ref y)] := lv_sub hl [0, 1, 2, 3, 4] rfl
        refine x_loop 70 (fun j H1 locs ls => ∃ (c9 r : Nat) (f : Nat → Int32), lv_has ls 9 [(5, .int (nI j)), (4, .int (nI c9)), (3, .int (nI i)), (0, .ref o), (1, .ref y)] ∧ (∀ q ∈ locs, WA o q.base) ∧ XF (fun q => q = o + 24) H H1 ∧ hI H1 cI (o + 24) 9 f ∧ (∀ k, j ≤ k → k < 9 → f k = nI (dg R0 k)) ∧ NI f j r ∧ r < 2 ^ (32 * j) ∧ r + 2 ^ (32 * j) * c9 = 2 * (R0 % 2 ^ (32 * j)) + b0 ∧ c9 ≤ 1) 9 ?_ ?_ 0 _ _ _ (by omega) ?_
        · intro j H1 locs ls hj ⟨c9, r, f, hl, hlo, hF1, hf, hhi, hN, hr9, he, hc9⟩ ih2
          have hO := hO.f1 hF1 (by omega)
          have hd := dg_lt R0 j
          refine lv_iload hx hb d_M_divideWide_70 (lv_at hl 0 rfl) ?_
          refine lv_bipush (v := nI 9) hx hb d_M_divideWide_72 (by decide) ?_
          refine lv_icmp_ge (tgt := 118) hx hb d_M_divideWide_74 (by decide) (fun hc => absurd hc (nI_ge (by omega) (by omega))) (fun _ => ?_)
          refine lv_aload_n hx hb d_M_divideWide_77 rfl (lv_at hl 3 rfl) ?_
          refine va_get (D := D) (ci := 1) (v := .ref (o + 24)) (C := "WideNumbersModel") (T := F_M) (N := 9) hx hb htw inM hown hK hO.1 0 rfl rfl 8 (by decide) (htw _ kw_284) (fun _ h9 => h9) rfl d_M_divideWide_78 ?_
          refine lv_iload hx hb d_M_divideWide_81 (lv_at hl 0 rfl) ?_
          refine x_iald hx hb hI9 hf (j) (rfl) (by omega) (by omega) (v := nI (dg R0 j)) (hhi j (Nat.le_refl j) hj) d_M_divideWide_83 ?_
          refine lv_bipush (v := nI 31) hx hb d_M_divideWide_84 (by decide) ?_
          refine lv_iushr (v := nI (dg R0 j / 2 ^ 31)) hx hb d_M_divideWide_86 (iN_ushr hd (by decide)) ?_
          refine lv_istore hx hb d_M_divideWide_87 hl (by decide) rfl (fun ls hl => ?_)
          have hl : lv_has ls 9 [(6, .int (nI (dg R0 j / 2 ^ 31))), (5, .int (nI j)), (4, .int (nI c9)), (3, .int (nI i)), (0, .ref o), (1, .ref y)] := hl
          refine lv_aload_n hx hb d_M_divideWide_89 rfl (lv_at hl 4 rfl) ?_
          refine va_get (D := D) (ci := 1) (v := .ref (o + 24)) (C := "WideNumbersModel") (T := F_M) (N := 9) hx hb htw inM hown hK hO.1 0 rfl rfl 8 (by decide) (htw _ kw_284) (fun _ h9 => h9) rfl d_M_divideWide_90 ?_
          refine lv_iload hx hb d_M_divideWide_93 (lv_at hl 1 rfl) ?_
          refine lv_aload_n hx hb d_M_divideWide_95 rfl (lv_at hl 4 rfl) ?_
          refine va_get (D := D) (ci := 1) (v := .ref (o + 24)) (C := "WideNumbersModel") (T := F_M) (N := 9) hx hb htw inM hown hK hO.1 0 rfl rfl 8 (by decide) (htw _ kw_284) (fun _ h9 => h9) rfl d_M_divideWide_96 ?_
          refine lv_iload hx hb d_M_divideWide_99 (lv_at hl 1 rfl) ?_
          refine x_iald hx hb hI9 hf (j) (rfl) (by omega) (by omega) (v := nI (dg R0 j)) (hhi j (Nat.le_refl j) hj) d_M_divideWide_101 ?_
          refine lv_iconst (v := nI 1) hx hb d_M_divideWide_102 (by decide) ?_
          refine lv_ishl hx hb d_M_divideWide_103 ?_
          refine x_topi (v := nI (dg R0 j * 2 ^ 1)) (iN_shl _ (by decide)) ?_
          refine lv_iload hx hb d_M_divideWide_104 (lv_at hl 2 rfl) ?_
          refine lv_ior hx hb d_M_divideWide_106 ?_
          refine x_topi (v := nI ((2 * dg R0 j + c9) % 4294967296)) (by rw [iN_or, or_add (show c9 < 2 ^ 1 by omega), iN_mod]; exact congrArg nI (by omega)) ?_
          refine x_iast (A := WA o) hx hb hI9 hf hlo (Or.inr rfl) (j) (rfl) (by omega) (by omega) d_M_divideWide_107 (fun H2 locs2 h2 hF2 hlo2 => ?_)
          refine lv_iload hx hb d_M_divideWide_108 (lv_at hl 0 rfl) ?_
          refine lv_istore hx hb d_M_divideWide_110 hl (by decide) rfl (fun ls hl => ?_)
          have hl : lv_has ls 9 [(4, .int (nI (dg R0 j / 2 ^ 31))), (6, .int (nI (dg R0 j / 2 ^ 31))), (5, .int (nI j)), (3, .int (nI i)), (0, .ref o), (1, .ref y)] := hl
          refine lv_iinc (v := nI (j + 1)) (k := 2) hx hb d_M_divideWide_112 hl rfl (nI_1 j) (by decide) rfl (fun ls hl => ?_)
          have hl : lv_has ls 9 [(5, .int (nI (j + 1))), (4, .int (nI (dg R0 j / 2 ^ 31))), (6, .int (nI (dg R0 j / 2 ^ 31))), (3, .int (nI i)), (0, .ref o), (1, .ref y)] := hl
          refine lv_goto (tgt := 70) hx hb d_M_divideWide_115 (by decide) ?_
          have hl : lv_has ls 9 [(5, .int (nI (j + 1))), (4, .int (nI (dg R0 j / 2 ^ 31))), (3, .int (nI i)), (0, .ref o), (1, .ref y)] := lv_sub hl [0, 1, 3, 4, 5] rfl
          have hdd := div2_31 hd hc9
          refine ih2 H2 locs2 ls ⟨dg R0 j / 2 ^ 31, r + 2 ^ (32 * j) * ((2 * dg R0 j + c9) % 4294967296), _, hl, hlo2, hF1.tr hF2 (fun _ h => h), h2, fun k hk hkn => by rw [pk_un (by omega)]; exact hhi k (by omega) hkn, NI_put hN hr9 (Nat.mod_lt _ (by decide)), dg_alt hr9 (Nat.mod_lt _ (by decide)), ?_, by omega⟩
          rw [dg_mods, pw_s]
          refine st_dbl he ?_
          rw [show dg R0 j / 2 ^ 31 = dg R0 j / 2147483648 from rfl, ← hdd]
          exact Nat.mod_add_div _ _
        · intro H1 locs ls ⟨c9, S, f, hl, hlo, hF1, hf, _, hN, hS9, he, hc9⟩
          have hO1 := hO.f1 hF1 (by omega)
          have hY1 := hI_f hY hF1 (show y ≠ o + 24 from fun e => hyn (Or.inr e))
          have hq1 := hI_f hq hF1 (show o + 23 ≠ o + 24 by omega)
          have hFF1 := hF.tr (hF1.wk (B := WA o) (fun _ h => Or.inr h)) (fun _ h => h)
          rw [Nat.mod_eq_of_lt (show R0 < 2 ^ (32 * 9) from Nat.lt_of_lt_of_le (show R0 < 2 ^ 256 by omega) (pw_le (by decide)))] at he
          have hSe : S = 2 * R0 + b0 := by omega
          have hS257 : S < 2 ^ 257 := by omega
          have hSv : S < 2 * vy := by omega
          refine lv_iload hx hb d_M_divideWide_70 (lv_at hl 0 rfl) ?_
          refine lv_bipush (v := nI 9) hx hb d_M_divideWide_72 (by decide) ?_
          refine lv_icmp_ge (tgt := 118) hx hb d_M_divideWide_74 (by decide) (fun _ => ?_) (fun hc => absurd (nI_le (Nat.le_refl _) (by omega)) hc)
          have hl : lv_has ls 9 [(3, .int (nI i)), (0, .ref o), (1, .ref y)] := lv_sub hl [2, 3, 4] rfl
          refine x_cut 210 (fun H2 locs2 ls2 => H2 = H1 ∧ locs2 = locs ∧ ∃ fb : Int32, lv_has ls2 9 [(5, .int fb), (3, .int (nI i)), (0, .ref o), (1, .ref y)] ∧ (fb = nI 1 ∧ vy ≤ S ∨ fb = nI 0 ∧ S < vy)) ?_ (fun J => ?_)
          · rintro H2 locs2 ls ⟨rfl, rfl, fb, hl, hfb⟩
            refine lv_iload hx hb d_M_divideWide_210 (lv_at hl 0 rfl) ?_
            refine lv_if_ne (tgt := 218) hx hb d_M_divideWide_212 (by decide) (fun hc => ?_) (fun hc => ?_)
            · have hge : vy ≤ S := by
                rcases hfb with ⟨-, h2⟩ | ⟨h1, -⟩
                · exact h2
                · rw [h1] at hc
                  exact absurd (by decide) hc
              have hdv := dv_ge hbit (show vy ≤ 2 * (u / 2 ^ (i + 1) % vy) + b0 by rw [← hR0]; omega) hvp
              rw [← hT, ← hR0] at hdv
              rw [q_tw] at hNq
              refine lv_lconst (v := lN 0) hx hb d_M_divideWide_218 (by decide) ?_
              refine x_topl (v := lN (18446744073709551615 * 0)) (rfl) ?_
              refine lv_lstore hx hb d_M_divideWide_219 hl (by decide) rfl (fun ls hl => ?_)
              have hl : lv_has ls 9 [(6, .long (lN (18446744073709551615 * 0))), (5, .int fb), (3, .int (nI i)), (0, .ref o), (1, .ref y)] := hl
              refine lv_iconst (v := nI 0) hx hb d_M_divideWide_221 (by decide) ?_
              refine lv_istore hx hb d_M_divideWide_222 hl (by decide) rfl (fun ls hl => ?_)
              have hl : lv_has ls 9 [(8, .int (nI 0)), (6, .long (lN (18446744073709551615 * 0))), (5, .int fb), (3, .int (nI i)), (0, .ref o), (1, .ref y)] := hl
              have hl : lv_has ls 9 [(8, .int (nI 0)), (6, .long (lN (18446744073709551615 * 0))), (3, .int (nI i)), (0, .ref o), (1, .ref y)] := lv_sub hl [0, 1, 3, 4, 5] rfl
              refine x_loop 224 (fun j H3 locs ls => ∃ (b9 r : Nat) (f3 : Nat → Int32), lv_has ls 9 [(8, .int (nI j)), (6, .long (lN (18446744073709551615 * b9))), (3, .int (nI i)), (0, .ref o), (1, .ref y)] ∧ (∀ q ∈ locs, WA o q.base) ∧ XF (fun q => q = o + 24) H2 H3 ∧ hI H3 cI (o + 24) 9 f3 ∧ (∀ k, j ≤ k → k < 9 → f3 k = nI (dg S k)) ∧ NI f3 j r ∧ r < 2 ^ (32 * j) ∧ S % 2 ^ (32 * j) + 2 ^ (32 * j) * b9 = r + vy % 2 ^ (32 * j) ∧ b9 ≤ 1) 9 ?_ ?_ 0 _ _ _ (by omega) ?_
              · intro j H3 locs ls hj ⟨b9, r, f3, hl, hlo, hF3, hf3, hhi, hN3, hr9, he3, hb9⟩ ih2
                have hO := hO1.f1 hF3 (by omega)
                have hY3 := hI_f hY1 hF3 (show y ≠ o + 24 from fun e => hyn (Or.inr e))
                have hd1 := dg_lt S j
                have hd2 := dg_lt vy j
                refine lv_iload hx hb d_M_divideWide_224 (lv_at hl 0 rfl) ?_
                refine lv_bipush (v := nI 9) hx hb d_M_divideWide_226 (by decide) ?_
                refine lv_icmp_ge (tgt := 292) hx hb d_M_divideWide_228 (by decide) (fun hc => absurd hc (nI_ge (by omega) (by omega))) (fun _ => ?_)
                refine lv_lload hx hb d_M_divideWide_231 (lv_at hl 1 rfl) ?_
                refine lv_aload_n hx hb d_M_divideWide_233 rfl (lv_at hl 3 rfl) ?_
                refine va_get (D := D) (ci := 1) (v := .ref (o + 24)) (C := "WideNumbersModel") (T := F_M) (N := 9) hx hb htw inM hown hK hO.1 0 rfl rfl 8 (by decide) (htw _ kw_284) (fun _ h9 => h9) rfl d_M_divideWide_234 ?_
                refine lv_iload hx hb d_M_divideWide_237 (lv_at hl 0 rfl) ?_
                refine x_iald hx hb hI9 hf3 (j) (rfl) (by omega) (by omega) (v := nI (dg S j)) (hhi j (Nat.le_refl j) hj) d_M_divideWide_239 ?_
                refine lv_i2l (v := (nI (dg S j)).toInt64) hx hb d_M_divideWide_240 (rfl) ?_
                refine lv_ldc2 (v := (4294967295 : Int64)) hx hb hown (htw _ kw_328) d_M_divideWide_241 ?_
                refine lv_land hx hb d_M_divideWide_244 ?_
                refine x_topl (v := lN (dg S j)) (il_m (dg_lt _ _)) ?_
                refine lv_iload hx hb d_M_divideWide_245 (lv_at hl 0 rfl) ?_
                refine lv_bipush (v := nI 8) hx hb d_M_divideWide_247 (by decide) ?_
                refine lv_icmp_ge (tgt := 264) hx hb d_M_divideWide_249 (by decide) (fun hc8 => ?_) (fun hc8 => ?_)
                · have hj8 : j = 8 := by
                    by_cases h : j < 8
                    · exact absurd hc8 (nI_ge h (by omega))
                    · omega
                  refine lv_lconst (v := lN 0) hx hb d_M_divideWide_264 (by decide) ?_
                  refine x_topl (v := lN (dg vy j)) (by rw [hj8, dg_big (show vy < 2 ^ (32 * 8) from hvy)]) ?_
                  refine lv_lsub hx hb d_M_divideWide_265 ?_
                  refine lv_ladd hx hb d_M_divideWide_266 ?_
                  refine x_topl (v := lN ((18446744073709551615 * b9 + (dg S j + 18446744073709551616 - dg vy j)) % 18446744073709551616)) (by rw [jN_sub (by omega), lN_add, jN_mod]) ?_
                  obtain ⟨S3, hS3⟩ : ∃ S3, S3 = (18446744073709551615 * b9 + (dg S j + 18446744073709551616 - dg vy j)) % 18446744073709551616 := ⟨_, rfl⟩
                  rw [← hS3]
                  have hSS := sb_S hd1 hd2 hb9 hS3
                  refine lv_lstore hx hb d_M_divideWide_267 hl (by decide) rfl (fun ls hl => ?_)
                  have hl : lv_has ls 9 [(6, .long (lN S3)), (8, .int (nI j)), (3, .int (nI i)), (0, .ref o), (1, .ref y)] := hl
                  refine lv_aload_n hx hb d_M_divideWide_269 rfl (lv_at hl 3 rfl) ?_
                  refine va_get (D := D) (ci := 1) (v := .ref (o + 24)) (C := "WideNumbersModel") (T := F_M) (N := 9) hx hb htw inM hown hK hO.1 0 rfl rfl 8 (by decide) (htw _ kw_284) (fun _ h9 => h9) rfl d_M_divideWide_270 ?_
                  refine lv_iload hx hb d_M_divideWide_273 (lv_at hl 1 rfl) ?_
                  refine lv_lload hx hb d_M_divideWide_275 (lv_at hl 0 rfl) ?_
                  refine lv_l2i (v := nI S3) hx hb d_M_divideWide_277 (lN_i _) ?_
                  refine x_topi (v := nI (S3 % 4294967296)) ((iN_mod S3).symm) ?_
                  refine x_iast (A := WA o) hx hb hI9 hf3 hlo (Or.inr rfl) (j) (rfl) (by omega) (by omega) d_M_divideWide_278 (fun H4 locs4 h4 hF4 hlo4 => ?_)
                  refine lv_lload hx hb d_M_divideWide_279 (lv_at hl 0 rfl) ?_
                  refine lv_bipush (v := nI 32) hx hb d_M_divideWide_281 (by decide) ?_
                  refine lv_lshr (v := lN (18446744073709551615 * (if S3 < 4294967296 then 0 else 1))) hx hb d_M_divideWide_283 (jN_sar32 hSS.1) ?_
                  obtain ⟨b8, hb8⟩ : ∃ b8, b8 = (if S3 < 4294967296 then 0 else 1) := ⟨_, rfl⟩
                  rw [← hb8]
                  have hb8c : S3 < 4294967296 ∧ b8 = 0 ∨ ¬ S3 < 4294967296 ∧ b8 = 1 := by
                    by_cases h : S3 < 4294967296
                    · exact Or.inl ⟨h, by rw [hb8, if_pos h]⟩
                    · exact Or.inr ⟨h, by rw [hb8, if_neg h]⟩
                  refine lv_lstore hx hb d_M_divideWide_284 hl (by decide) rfl (fun ls hl => ?_)
                  have hl : lv_has ls 9 [(6, .long (lN (18446744073709551615 * b8))), (8, .int (nI j)), (3, .int (nI i)), (0, .ref o), (1, .ref y)] := hl
                  refine lv_iinc (v := nI (j + 1)) (k := 1) hx hb d_M_divideWide_286 hl rfl (nI_1 j) (by decide) rfl (fun ls hl => ?_)
                  have hl : lv_has ls 9 [(8, .int (nI (j + 1))), (6, .long (lN (18446744073709551615 * b8))), (3, .int (nI i)), (0, .ref o), (1, .ref y)] := hl
                  refine lv_goto (tgt := 224) hx hb d_M_divideWide_289 (by decide) ?_
                  have hl : lv_has ls 9 [(8, .int (nI (j + 1))), (6, .long (lN (18446744073709551615 * b8))), (3, .int (nI i)), (0, .ref o), (1, .ref y)] := lv_sub hl [0, 1, 2, 3, 4] rfl
                  refine ih2 H4 locs4 ls ⟨b8, r + 2 ^ (32 * j) * (S3 % 4294967296), _, hl, hlo4, hF3.tr hF4 (fun _ h => h), h4, fun k hk hkn => by rw [pk_un (by omega)]; exact hhi k (by omega) hkn, NI_put hN3 hr9 (Nat.mod_lt _ (by decide)), dg_alt hr9 (Nat.mod_lt _ (by decide)), ?_, by omega⟩
                  rw [dg_mods, dg_mods, pw_s]
                  rcases hb8c with ⟨q1, q2⟩ | ⟨q1, q2⟩
                  · rw [q2]; exact st_sub he3 (hSS.2.1 q1)
                  · rw [q2]; exact st_sub he3 (hSS.2.2 q1)
                · have hj8 : j < 8 := Nat.lt_of_not_le (fun h => hc8 (nI_le h (by omega)))
                  refine lv_aload_n hx hb d_M_divideWide_252 rfl (lv_at hl 4 rfl) ?_
                  refine lv_iload hx hb d_M_divideWide_253 (lv_at hl 0 rfl) ?_
                  refine x_iald hx hb hI9 hY3 (j) (rfl) (by omega) (by omega) (v := nI (dg vy j)) (hNy j hj8) d_M_divideWide_255 ?_
                  refine lv_i2l (v := (nI (dg vy j)).toInt64) hx hb d_M_divideWide_256 (rfl) ?_
                  refine lv_ldc2 (v := (4294967295 : Int64)) hx hb hown (htw _ kw_328) d_M_divideWide_257 ?_
                  refine lv_land hx hb d_M_divideWide_260 ?_
                  refine x_topl (v := lN (dg vy j)) (il_m (dg_lt _ _)) ?_
                  refine lv_goto (tgt := 265) hx hb d_M_divideWide_261 (by decide) ?_
                  refine lv_lsub hx hb d_M_divideWide_265 ?_
                  refine lv_ladd hx hb d_M_divideWide_266 ?_
                  refine x_topl (v := lN ((18446744073709551615 * b9 + (dg S j + 18446744073709551616 - dg vy j)) % 18446744073709551616)) (by rw [jN_sub (by omega), lN_add, jN_mod]) ?_
                  obtain ⟨S3, hS3⟩ : ∃ S3, S3 = (18446744073709551615 * b9 + (dg S j + 18446744073709551616 - dg vy j)) % 18446744073709551616 := ⟨_, rfl⟩
                  rw [← hS3]
                  have hSS := sb_S hd1 hd2 hb9 hS3
                  refine lv_lstore hx hb d_M_divideWide_267 hl (by decide) rfl (fun ls hl => ?_)
                  have hl : lv_has ls 9 [(6, .long (lN S3)), (8, .int (nI j)), (3, .int (nI i)), (0, .ref o), (1, .ref y)] := hl
                  refine lv_aload_n hx hb d_M_divideWide_269 rfl (lv_at hl 3 rfl) ?_
                  refine va_get (D := D) (ci := 1) (v := .ref (o + 24)) (C := "WideNumbersModel") (T := F_M) (N := 9) hx hb htw inM hown hK hO.1 0 rfl rfl 8 (by decide) (htw _ kw_284) (fun _ h9 => h9) rfl d_M_divideWide_270 ?_
                  refine lv_iload hx hb d_M_divideWide_273 (lv_at hl 1 rfl) ?_
                  refine lv_lload hx hb d_M_divideWide_275 (lv_at hl 0 rfl) ?_
                  refine lv_l2i (v := nI S3) hx hb d_M_divideWide_277 (lN_i _) ?_
                  refine x_topi (v := nI (S3 % 4294967296)) ((iN_mod S3).symm) ?_
                  refine x_iast (A := WA o) hx hb hI9 hf3 hlo (Or.inr rfl) (j) (rfl) (by omega) (by omega) d_M_divideWide_278 (fun H4 locs4 h4 hF4 hlo4 => ?_)
                  refine lv_lload hx hb d_M_divideWide_279 (lv_at hl 0 rfl) ?_
                  refine lv_bipush (v := nI 32) hx hb d_M_divideWide_281 (by decide) ?_
                  refine lv_lshr (v := lN (18446744073709551615 * (if S3 < 4294967296 then 0 else 1))) hx hb d_M_divideWide_283 (jN_sar32 hSS.1) ?_
                  obtain ⟨b8, hb8⟩ : ∃ b8, b8 = (if S3 < 4294967296 then 0 else 1) := ⟨_, rfl⟩
                  rw [← hb8]
                  have hb8c : S3 < 4294967296 ∧ b8 = 0 ∨ ¬ S3 < 4294967296 ∧ b8 = 1 := by
                    by_cases h : S3 < 4294967296
                    · exact Or.inl ⟨h, by rw [hb8, if_pos h]⟩
                    · exact Or.inr ⟨h, by rw [hb8, if_neg h]⟩
                  refine lv_lstore hx hb d_M_divideWide_284 hl (by decide) rfl (fun ls hl => ?_)
                  have hl : lv_has ls 9 [(6, .long (lN (18446744073709551615 * b8))), (8, .int (nI j)), (3, .int (nI i)), (0, .ref o), (1, .ref y)] := hl
                  refine lv_iinc (v := nI (j + 1)) (k := 1) hx hb d_M_divideWide_286 hl rfl (nI_1 j) (by decide) rfl (fun ls hl => ?_)
                  have hl : lv_has ls 9 [(8, .int (nI (j + 1))), (6, .long (lN (18446744073709551615 * b8))), (3, .int (nI i)), (0, .ref o), (1, .ref y)] := hl
                  refine lv_goto (tgt := 224) hx hb d_M_divideWide_289 (by decide) ?_
                  have hl : lv_has ls 9 [(8, .int (nI (j + 1))), (6, .long (lN (18446744073709551615 * b8))), (3, .int (nI i)), (0, .ref o), (1, .ref y)] := lv_sub hl [0, 1, 2, 3, 4] rfl
                  refine ih2 H4 locs4 ls ⟨b8, r + 2 ^ (32 * j) * (S3 % 4294967296), _, hl, hlo4, hF3.tr hF4 (fun _ h => h), h4, fun k hk hkn => by rw [pk_un (by omega)]; exact hhi k (by omega) hkn, NI_put hN3 hr9 (Nat.mod_lt _ (by decide)), dg_alt hr9 (Nat.mod_lt _ (by decide)), ?_, by omega⟩
                  rw [dg_mods, dg_mods, pw_s]
                  rcases hb8c with ⟨q1, q2⟩ | ⟨q1, q2⟩
                  · rw [q2]; exact st_sub he3 (hSS.2.1 q1)
                  · rw [q2]; exact st_sub he3 (hSS.2.2 q1)
              · intro H3 locs ls ⟨b9, r, f3, hl, hlo, hF3, hf3, _, hN3, hr9, he3, hb9⟩
                have hO3 := hO1.f1 hF3 (by omega)
                have hq3 := hI_f hq1 hF3 (show o + 23 ≠ o + 24 by omega)
                have hFF3 := hFF1.tr (hF3.wk (B := WA o) (fun _ h => Or.inr h)) (fun _ h => h)
                rw [Nat.mod_eq_of_lt (show S < 2 ^ (32 * 9) from Nat.lt_of_lt_of_le hS257 (pw_le (by decide))), Nat.mod_eq_of_lt (show vy < 2 ^ (32 * 9) from Nat.lt_of_lt_of_le hvy (pw_le (by decide)))] at he3
                have hre : r = u / 2 ^ i % vy := by
                  rw [hdv.2, ← hSe]
                  omega
                refine lv_iload hx hb d_M_divideWide_224 (lv_at hl 0 rfl) ?_
                refine lv_bipush (v := nI 9) hx hb d_M_divideWide_226 (by decide) ?_
                refine lv_icmp_ge (tgt := 292) hx hb d_M_divideWide_228 (by decide) (fun _ => ?_) (fun hc => absurd (nI_le (Nat.le_refl _) (by omega)) hc)
                refine lv_aload_n hx hb d_M_divideWide_292 rfl (lv_at hl 3 rfl) ?_
                refine va_get (D := D) (ci := 1) (v := .ref (o + 23)) (C := "WideNumbersModel") (T := F_M) (N := 9) hx hb htw inM hown hK hO3.1 0 rfl rfl 7 (by decide) (htw _ kw_283) (fun _ h9 => h9) rfl d_M_divideWide_293 ?_
                refine lv_iload_n hx hb d_M_divideWide_296 rfl (lv_at hl 2 rfl) ?_
                refine lv_iconst (v := nI 5) hx hb d_M_divideWide_297 (by decide) ?_
                refine lv_ishr hx hb d_M_divideWide_298 ?_
                refine x_topi (v := nI (i / 32)) (iN_shr5 (by omega)) ?_
                refine lv_dup2_11 hx hb d_M_divideWide_299 rfl rfl ?_
                refine x_iald hx hb hI9 hq3 (i / 32) (rfl) (by omega) (by omega) (v := nI (dg (2 * (u / 2 ^ (i + 1) / vy) * 2 ^ i) (i / 32))) (hNq _ (by omega)) d_M_divideWide_300 ?_
                refine lv_iconst (v := nI 1) hx hb d_M_divideWide_301 (by decide) ?_
                refine lv_iload_n hx hb d_M_divideWide_302 rfl (lv_at hl 2 rfl) ?_
                refine lv_bipush (v := nI 31) hx hb d_M_divideWide_303 (by decide) ?_
                refine lv_iand hx hb d_M_divideWide_305 ?_
                refine x_topi (v := nI (i % 32)) (iN_and31 (by omega)) ?_
                refine lv_ishl hx hb d_M_divideWide_306 ?_
                refine x_topi (v := nI (2 ^ (i % 32))) (by rw [iN_shl 1 (by omega), Nat.one_mul]) ?_
                refine lv_ior hx hb d_M_divideWide_307 ?_
                refine x_topi (v := nI (dg (2 * (u / 2 ^ (i + 1) / vy) * 2 ^ i) (i / 32) ||| 2 ^ (i % 32))) (iN_or _ _) ?_
                refine x_iast (A := WA o) hx hb hI9 hq3 hlo (Or.inl rfl) (i / 32) (rfl) (by omega) (by omega) d_M_divideWide_308 (fun H8 locs8 h8 hF8 hlo => ?_)
                refine lv_iinc (v := nI i - 1) (k := 2) hx hb d_M_divideWide_309 hl rfl (by rw [Int32.sub_eq_add_neg]; rfl) (by decide) rfl (fun ls hl => ?_)
                have hl : lv_has ls 9 [(3, .int (nI i - 1)), (8, .int (nI 9)), (6, .long (lN (18446744073709551615 * b9))), (0, .ref o), (1, .ref y)] := hl
                refine lv_goto (tgt := 46) hx hb d_M_divideWide_312 (by decide) ?_
                have hl : lv_has ls 9 [(3, .int (nI i - 1)), (0, .ref o), (1, .ref y)] := lv_sub hl [0, 3, 4] rfl
                refine ih _ _ ls ⟨by omega, _, f3, hl, hlo, hFF3.tr (hF8.wk (B := WA o) (fun _ h => Or.inl h)) (fun _ h => h), h8, fun j hj => ?_, hI_f hf3 hF8 (show o + 24 ≠ o + 23 by omega), by rw [← hre]; exact hN3⟩
                rw [hdv.1, q_bit]
                by_cases hj2 : j = i / 32
                · rw [if_pos hj2, hj2, pk_us]
                · rw [if_neg hj2, pk_un hj2]; exact hNq j hj
              · exact ⟨0, 0, f, hl, hlo, XF.rf, hf, fun k _ hk => hN k hk, NI_0, by decide, by simp [Nat.mod_one], by decide⟩
            · have hlt : S < vy := by
                rcases hfb with ⟨h1, -⟩ | ⟨-, h2⟩
                · rw [h1] at hc
                  exact absurd hc (by decide)
                · exact h2
              have hdv := dv_lt (T := u / 2 ^ (i + 1)) (b := b0) (d := vy) (by rw [← hR0]; omega)
              rw [← hT, ← hR0] at hdv
              rw [q_tw] at hNq
              refine lv_goto (tgt := 309) hx hb d_M_divideWide_215 (by decide) ?_
              refine lv_iinc (v := nI i - 1) (k := 1) hx hb d_M_divideWide_309 hl rfl (by rw [Int32.sub_eq_add_neg]; rfl) (by decide) rfl (fun ls hl => ?_)
              have hl : lv_has ls 9 [(3, .int (nI i - 1)), (5, .int fb), (0, .ref o), (1, .ref y)] := hl
              refine lv_goto (tgt := 46) hx hb d_M_divideWide_312 (by decide) ?_
              have hl : lv_has ls 9 [(3, .int (nI i - 1)), (0, .ref o), (1, .ref y)] := lv_sub hl [0, 2, 3] rfl
              exact ih _ _ ls ⟨by omega, fq, f, hl, hlo, hFF1, hq1, by rw [hdv.1]; exact hNq, hf, by rw [hdv.2, ← hSe]; exact hN⟩
          · have hd8 := dg_lt S 8
            refine lv_aload_n hx hb d_M_divideWide_118 rfl (lv_at hl 1 rfl) ?_
            refine va_get (D := D) (ci := 1) (v := .ref (o + 24)) (C := "WideNumbersModel") (T := F_M) (N := 9) hx hb htw inM hown hK hO1.1 0 rfl rfl 8 (by decide) (htw _ kw_284) (fun _ h9 => h9) rfl d_M_divideWide_119 ?_
            refine lv_bipush (v := nI 8) hx hb d_M_divideWide_122 (by decide) ?_
            refine x_iald hx hb hI9 hf (8) (rfl) (by omega) (by omega) (v := nI (dg S 8)) (hN 8 (by decide)) d_M_divideWide_124 ?_
            refine lv_if_eq (tgt := 132) hx hb d_M_divideWide_125 (by decide) (fun hc => ?_) (fun hc => ?_)
            · have hS256 : S < 2 ^ 256 := top8 hS9 ((iN_eq hd8 (by decide)).mp (hc.trans nI_0.symm))
              refine lv_iconst (v := nI 0) hx hb d_M_divideWide_132 (by decide) ?_
              refine lv_istore hx hb d_M_divideWide_133 hl (by decide) rfl (fun ls hl => ?_)
              have hl : lv_has ls 9 [(5, .int (nI 0)), (3, .int (nI i)), (0, .ref o), (1, .ref y)] := hl
              refine lv_iload hx hb d_M_divideWide_135 (lv_at hl 0 rfl) ?_
              refine lv_if_ne (tgt := 210) hx hb d_M_divideWide_137 (by decide) (fun h => absurd rfl h) (fun _ => ?_)
              refine lv_iconst (v := nI 1) hx hb d_M_divideWide_140 (by decide) ?_
              refine lv_istore hx hb d_M_divideWide_141 hl (by decide) rfl (fun ls hl => ?_)
              have hl : lv_has ls 9 [(5, .int (nI 1)), (3, .int (nI i)), (0, .ref o), (1, .ref y)] := hl
              refine lv_bipush (v := nI 8 - 1) hx hb d_M_divideWide_143 (by decide) ?_
              refine lv_istore hx hb d_M_divideWide_145 hl (by decide) rfl (fun ls hl => ?_)
              have hl : lv_has ls 9 [(6, .int (nI 8 - 1)), (5, .int (nI 1)), (3, .int (nI i)), (0, .ref o), (1, .ref y)] := hl
              have hl : lv_has ls 9 [(6, .int (nI 8 - 1)), (5, .int (nI 1)), (3, .int (nI i)), (0, .ref o), (1, .ref y)] := lv_sub hl [0, 1, 2, 3, 4] rfl
              refine x_loopD 147 (fun j H2 locs2 ls => j ≤ 8 ∧ H2 = H1 ∧ locs2 = locs ∧ lv_has ls 9 [(6, .int (nI j - 1)), (5, .int (nI 1)), (3, .int (nI i)), (0, .ref o), (1, .ref y)] ∧ S / 2 ^ (32 * j) = vy / 2 ^ (32 * j)) ?_ ?_ 8 _ _ _ ?_
              · rintro j H2 locs2 ls ⟨hj, rfl, rfl, hl, hdj⟩ ih2
                rw [nI_pred] at hl
                have hd1 := dg_lt S j
                have hd2 := dg_lt vy j
                have e1 := dg_divs S j
                have e2 := dg_divs vy j
                have hl : lv_has ls 9 [(6, .int (nI j)), (5, .int (nI 1)), (3, .int (nI i)), (0, .ref o), (1, .ref y)] := hl
                refine lv_iload hx hb d_M_divideWide_147 (lv_at hl 0 rfl) ?_
                refine lv_if_lt (tgt := 210) hx hb d_M_divideWide_149 (by decide) (fun hc => absurd hc (nI_pos (by omega))) (fun _ => ?_)
                refine lv_aload_n hx hb d_M_divideWide_152 rfl (lv_at hl 3 rfl) ?_
                refine va_get (D := D) (ci := 1) (v := .ref (o + 24)) (C := "WideNumbersModel") (T := F_M) (N := 9) hx hb htw inM hown hK hO1.1 0 rfl rfl 8 (by decide) (htw _ kw_284) (fun _ h9 => h9) rfl d_M_divideWide_153 ?_
                refine lv_iload hx hb d_M_divideWide_156 (lv_at hl 0 rfl) ?_
                refine x_iald hx hb hI9 hf (j) (rfl) (by omega) (by omega) (v := nI (dg S j)) (hN j (by omega)) d_M_divideWide_158 ?_
                refine lv_aload_n hx hb d_M_divideWide_159 rfl (lv_at hl 4 rfl) ?_
                refine lv_iload hx hb d_M_divideWide_160 (lv_at hl 0 rfl) ?_
                refine x_iald hx hb hI9 hY1 (j) (rfl) (by omega) (by omega) (v := nI (dg vy j)) (hNy j (by omega)) d_M_divideWide_162 ?_
                refine lv_icmp_ne (tgt := 169) hx hb d_M_divideWide_163 (by decide) (fun hc2 => ?_) (fun hc2 => ?_)
                · have hd : dg S j ≠ dg vy j := fun h => hc2 (by rw [h])
                  refine lv_aload_n hx hb d_M_divideWide_169 rfl (lv_at hl 3 rfl) ?_
                  refine va_get (D := D) (ci := 1) (v := .ref (o + 24)) (C := "WideNumbersModel") (T := F_M) (N := 9) hx hb htw inM hown hK hO1.1 0 rfl rfl 8 (by decide) (htw _ kw_284) (fun _ h9 => h9) rfl d_M_divideWide_170 ?_
                  refine lv_iload hx hb d_M_divideWide_173 (lv_at hl 0 rfl) ?_
                  refine x_iald hx hb hI9 hf (j) (rfl) (by omega) (by omega) (v := nI (dg S j)) (hN j (by omega)) d_M_divideWide_175 ?_
                  refine lv_i2l (v := (nI (dg S j)).toInt64) hx hb d_M_divideWide_176 (rfl) ?_
                  refine lv_ldc2 (v := (4294967295 : Int64)) hx hb hown (htw _ kw_328) d_M_divideWide_177 ?_
                  refine lv_land hx hb d_M_divideWide_180 ?_
                  refine x_topl (v := lN (dg S j)) (il_m (dg_lt _ _)) ?_
                  refine lv_aload_n hx hb d_M_divideWide_181 rfl (lv_at hl 4 rfl) ?_
                  refine lv_iload hx hb d_M_divideWide_182 (lv_at hl 0 rfl) ?_
                  refine x_iald hx hb hI9 hY1 (j) (rfl) (by omega) (by omega) (v := nI (dg vy j)) (hNy j (by omega)) d_M_divideWide_184 ?_
                  refine lv_i2l (v := (nI (dg vy j)).toInt64) hx hb d_M_divideWide_185 (rfl) ?_
                  refine lv_ldc2 (v := (4294967295 : Int64)) hx hb hown (htw _ kw_328) d_M_divideWide_186 ?_
                  refine lv_land hx hb d_M_divideWide_189 ?_
                  refine x_topl (v := lN (dg vy j)) (il_m (dg_lt _ _)) ?_
                  refine W.lcmp hx hb d_M_divideWide_190 ?_
                  refine lv_if_le (tgt := 198) hx hb d_M_divideWide_191 (by decide) (fun hc3 => ?_) (fun hc3 => ?_)
                  · have hlt : dg S j < dg vy j := Nat.lt_of_le_of_ne (Nat.le_of_not_lt (fun h => absurd ((lg_cmp_le _ _).mp hc3) (Int64.not_le.mpr ((jN_lt (by omega) (by omega)).mpr h)))) hd
                    have hv : S < vy := Nat.lt_of_not_le (fun h => by have := Nat.div_le_div_right (c := 2 ^ (32 * j)) h; omega)
                    refine lv_iconst (v := nI 0) hx hb d_M_divideWide_198 (by decide) ?_
                    refine lv_istore hx hb d_M_divideWide_199 hl (by decide) rfl (fun ls hl => ?_)
                    have hl : lv_has ls 9 [(5, .int (nI 0)), (6, .int (nI j)), (3, .int (nI i)), (0, .ref o), (1, .ref y)] := hl
                    refine lv_goto (tgt := 210) hx hb d_M_divideWide_201 (by decide) ?_
                    have hl : lv_has ls 9 [(5, .int (nI 0)), (3, .int (nI i)), (0, .ref o), (1, .ref y)] := lv_sub hl [0, 2, 3, 4] rfl
                    exact J _ _ ls ⟨rfl, rfl, _, hl, Or.inr ⟨rfl, hv⟩⟩
                  · have hlt : dg vy j < dg S j := Nat.lt_of_not_le (fun h => hc3 ((lg_cmp_le _ _).mpr (Int64.not_lt.mp (fun z => absurd ((jN_lt (by omega) (by omega)).mp z) (by omega)))))
                    have hv : vy < S := Nat.lt_of_not_le (fun h => by have := Nat.div_le_div_right (c := 2 ^ (32 * j)) h; omega)
                    refine lv_iconst (v := nI 1) hx hb d_M_divideWide_194 (by decide) ?_
                    refine lv_goto (tgt := 199) hx hb d_M_divideWide_195 (by decide) ?_
                    refine lv_istore hx hb d_M_divideWide_199 hl (by decide) rfl (fun ls hl => ?_)
                    have hl : lv_has ls 9 [(5, .int (nI 1)), (6, .int (nI j)), (3, .int (nI i)), (0, .ref o), (1, .ref y)] := hl
                    refine lv_goto (tgt := 210) hx hb d_M_divideWide_201 (by decide) ?_
                    have hl : lv_has ls 9 [(5, .int (nI 1)), (3, .int (nI i)), (0, .ref o), (1, .ref y)] := lv_sub hl [0, 2, 3, 4] rfl
                    exact J _ _ ls ⟨rfl, rfl, _, hl, Or.inl ⟨rfl, by omega⟩⟩
                · have hd := (iN_eq hd1 hd2).mp hc2
                  refine lv_goto (tgt := 204) hx hb d_M_divideWide_166 (by decide) ?_
                  refine lv_iinc (v := nI j - 1) (k := 0) hx hb d_M_divideWide_204 hl rfl (by rw [Int32.sub_eq_add_neg]; rfl) (by decide) rfl (fun ls hl => ?_)
                  have hl : lv_has ls 9 [(6, .int (nI j - 1)), (5, .int (nI 1)), (3, .int (nI i)), (0, .ref o), (1, .ref y)] := hl
                  refine lv_goto (tgt := 147) hx hb d_M_divideWide_207 (by decide) ?_
                  have hl : lv_has ls 9 [(6, .int (nI j - 1)), (5, .int (nI 1)), (3, .int (nI i)), (0, .ref o), (1, .ref y)] := lv_sub hl [0, 1, 2, 3, 4] rfl
                  exact ih2 _ _ ls ⟨by omega, rfl, rfl, hl, by rw [e1, e2, hdj, hd]⟩
              · rintro H2 locs2 ls ⟨hj, rfl, rfl, hl, hdj⟩
                have hv : S = vy := by simpa using hdj
                refine lv_iload hx hb d_M_divideWide_147 (lv_at hl 0 rfl) ?_
                refine lv_if_lt (tgt := 210) hx hb d_M_divideWide_149 (by decide) (fun _ => ?_) (fun hc => absurd (by decide) hc)
                have hl : lv_has ls 9 [(5, .int (nI 1)), (3, .int (nI i)), (0, .ref o), (1, .ref y)] := lv_sub hl [1, 2, 3, 4] rfl
                exact J _ _ ls ⟨rfl, rfl, _, hl, Or.inl ⟨rfl, by omega⟩⟩
              · exact ⟨by decide, rfl, rfl, hl, by rw [Nat.div_eq_of_lt hS256, Nat.div_eq_of_lt (show vy < 2 ^ (32 * 8) from hvy)]⟩
            · have hbig : dg S 8 ≠ 0 := fun h => hc (by rw [h]; rfl)
              have hge : vy ≤ S := Nat.le_of_not_lt (fun h => hbig (dg_big (Nat.lt_trans h hvy)))
              refine lv_iconst (v := nI 1) hx hb d_M_divideWide_128 (by decide) ?_
              refine lv_goto (tgt := 133) hx hb d_M_divideWide_129 (by decide) ?_
              refine lv_istore hx hb d_M_divideWide_133 hl (by decide) rfl (fun ls hl => ?_)
              have hl : lv_has ls 9 [(5, .int (nI 1)), (3, .int (nI i)), (0, .ref o), (1, .ref y)] := hl
              refine lv_iload hx hb d_M_divideWide_135 (lv_at hl 0 rfl) ?_
              refine lv_if_ne (tgt := 210) hx hb d_M_divideWide_137 (by decide) (fun _ => ?_) (fun h => absurd h (by decide))
              have hl : lv_has ls 9 [(5, .int (nI 1)), (3, .int (nI i)), (0, .ref o), (1, .ref y)] := lv_sub hl [0, 1, 2, 3] rfl
              exact J _ _ ls ⟨rfl, rfl, _, hl, Or.inl ⟨rfl, hge⟩⟩
        · exact ⟨b0, 0, fr, hl, hlo, XF.rf, hrm, fun k _ hk => hNr k hk, NI_0, by decide, by simp [Nat.mod_one], hbit⟩
      · intro H locs ls ⟨hi, fq, fr, hl, hlo, hF, hq, hNq, hrm, hNr⟩
        refine lv_iload_n hx hb d_M_divideWide_46 rfl (lv_at hl 0 rfl) ?_
        refine lv_if_lt (tgt := 315) hx hb d_M_divideWide_47 (by decide) (fun _ => ?_) (fun hc => absurd (by decide) hc)
        rw [Nat.pow_zero, Nat.div_one, Nat.mul_one] at hNq
        rw [Nat.pow_zero, Nat.div_one] at hNr
        exact W.vret hx hb hr (fun t ht hW => ⟨rfl, by rw [ht]; exact hF, fq, fr, by rw [ht]; exact hq, hNq, by rw [ht]; exact hrm, hNr⟩) hlo d_M_divideWide_315
      · exact ⟨Nat.le_refl _, f1, f2, hl, hlo, hFF, hq2, by rw [Nat.div_eq_of_lt hu, Nat.zero_div, Nat.zero_mul]; exact hN1, hf2, by rw [Nat.div_eq_of_lt hu, Nat.zero_mod]; exact hN2⟩
    · exact ⟨fr, hl, hlo, XF.rf, hr1, NI_0⟩
  · exact ⟨fq, hl, hlo, XF.rf, hz, NI_0⟩
set_option maxHeartbeats 4000000 in
set_option maxRecDepth 100000 in
theorem m_divide (l : Launch) (D : va_G) (cJ cI cQ cR : ClassId) (o x y vx vy : Nat) (fl : Int32) (fw fq fr fx fy : Nat → Int32) (hxn : x < o + 22 ∨ o + 25 ≤ x) (hyn : y < o + 22 ∨ o + 25 ≤ y) (hvx : vx < 2 ^ 256) (hvy : vy < 2 ^ 256) (hvp : 0 < vy) (hNx : NI fx 8 vx) (hNy : NI fy 8 vy) : Met l y_M_divide w_M_divide { frames := 1, cells := 0, slots := 0, locals := 28 } (xP D vwCl (TY cJ cI cQ cR) [.ref o, .ref x, .ref y] (fun H => MB D cR o fl H ∧ hI H cI (o + 22) 17 fw ∧ hI H cI (o + 23) 16 fq ∧ hI H cI (o + 24) 9 fr ∧ hI H cI x 8 fx ∧ hI H cI y 8 fy)) (xQv (fun H0 H => XF (fun q => q = o + 22 ∨ WA o q) H0 H ∧ (∃ f : Nat → Int32, hI H cI (o + 22) 17 f) ∧ ∃ (f g : Nat → Int32), hI H cI (o + 23) 16 f ∧ NI f 16 (vx / vy) ∧ hI H cI (o + 24) 9 g ∧ NI g 9 (vx % vy))) 0 0 (fun q => q = o + 22 ∨ WA o q) := by
  refine Met.ofW (cc := b_M_divide) (maxL := 4) (ret := none) (by decide) rfl ?_
  intro p e s m args below meth c s₁ B hml hv
  obtain ⟨rfl, hK, ⟨hO, hw, hq, hrm, hX, hY⟩⟩ := hv
  have hx := B.exec
  have hb := B.bytes
  have hr := B.returns
  have hts := atoms_spec (ws := w_M_divide) B.pre
  have htw : ∀ w ∈ WT, w.before _ s = true := fun w h => hts w (List.mem_cons_of_mem _ h)
  have hown : s.vm.findClass "WideNumbersModel" = some m.cls := findClass_of_methodNamed B.named
  have hlocks := B.notSynchronized
  have hJ : ArrOfT s cJ .long := (hK.2 0 _ rfl).1
  have hI9 : ArrOfT s cI .int := (hK.2 1 _ rfl).1
  have hl := lv_entry ([.ref o, .ref x, .ref y]) (n := 4) (Nat.le_of_ble_eq_true rfl)
  rw [lg_entry_eq]
  generalize (lg_sl ([.ref o, .ref x, .ref y]) ++ List.replicate (4 - (lg_sl ([.ref o, .ref x, .ref y])).length) Slot.unset).toArray = ls at hl ⊢
  have hl : lv_has ls 4 [(0, .ref o), (1, .ref x), (2, .ref y)] := hl
  have hlo : ∀ q ∈ ([] : List Loc), (fun q => q = o + 22 ∨ WA o q) q.base := fun _ h => nomatch h
  refine lv_iconst (v := nI 0) hx hb d_M_divide_0 (by decide) ?_
  refine lv_istore_n hx hb d_M_divide_1 rfl hl (by decide) rfl (fun ls hl => ?_)
  have hl : lv_has ls 4 [(3, .int (nI 0)), (0, .ref o), (1, .ref x), (2, .ref y)] := hl
  have hl : lv_has ls 4 [(3, .int (nI 0)), (0, .ref o), (1, .ref x), (2, .ref y)] := lv_sub hl [0, 1, 2, 3] rfl
  refine x_loop 2 (fun i H locs ls => ∃ f : Nat → Int32, lv_has ls 4 [(3, .int (nI i)), (0, .ref o), (1, .ref x), (2, .ref y)] ∧ (∀ q ∈ locs, q.base = o + 22 ∨ WA o q.base) ∧ XF (fun q => q = o + 22) s.heap H ∧ hI H cI (o + 22) 17 f ∧ NI f i vx) 17 ?_ ?_ 0 _ _ _ (by omega) ?_
  · intro i H locs ls hi ⟨f, hl, hlo, hF, hf, hN⟩ ih
    refine lv_iload_n hx hb d_M_divide_2 rfl (lv_at hl 0 rfl) ?_
    refine lv_bipush (v := nI 17) hx hb d_M_divide_3 (by decide) ?_
    refine lv_icmp_ge (tgt := 33) hx hb d_M_divide_5 (by decide) (fun hc => absurd hc (nI_ge (by omega) (by omega))) (fun _ => ?_)
    have hO := hO.f1 hF (by omega)
    refine lv_aload_n hx hb d_M_divide_8 rfl (lv_at hl 1 rfl) ?_
    refine va_get (D := D) (ci := 1) (v := .ref (o + 22)) (C := "WideNumbersModel") (T := F_M) (N := 9) hx hb htw inM hown hK hO.1 0 rfl rfl 6 (by decide) (htw _ kw_282) (fun _ h9 => h9) rfl d_M_divide_9 ?_
    refine lv_iload_n hx hb d_M_divide_12 rfl (lv_at hl 0 rfl) ?_
    refine lv_iload_n hx hb d_M_divide_13 rfl (lv_at hl 0 rfl) ?_
    refine lv_bipush (v := nI 8) hx hb d_M_divide_14 (by decide) ?_
    refine lv_icmp_ge (tgt := 25) hx hb d_M_divide_16 (by decide) (fun hc => ?_) (fun hc => ?_)
    · have hi8 : 8 ≤ i := Nat.le_of_not_lt (fun h => absurd hc (nI_ge h (by omega)))
      refine lv_iconst (v := nI 0) hx hb d_M_divide_25 (by decide) ?_
      refine x_topi (v := nI (dg vx i)) (by rw [dg_le (show vx < 2 ^ (32 * 8) from hvx) hi8]) ?_
      refine x_iast (A := fun q => q = o + 22 ∨ WA o q) hx hb hI9 hf hlo (Or.inl rfl) (i) (rfl) (by omega) (by omega) d_M_divide_26 (fun H1 locs1 h1 hF1 hlo1 => ?_)
      refine lv_iinc (v := nI (i + 1)) (k := 0) hx hb d_M_divide_27 hl rfl (nI_1 i) (by decide) rfl (fun ls hl => ?_)
      have hl : lv_has ls 4 [(3, .int (nI (i + 1))), (0, .ref o), (1, .ref x), (2, .ref y)] := hl
      refine lv_goto (tgt := 2) hx hb d_M_divide_30 (by decide) ?_
      have hl : lv_has ls 4 [(3, .int (nI (i + 1))), (0, .ref o), (1, .ref x), (2, .ref y)] := lv_sub hl [0, 1, 2, 3] rfl
      exact ih H1 locs1 ls ⟨_, hl, hlo1, hF.tr hF1 (fun _ h => h), h1, NI_up hN⟩
    · have hi8 : i < 8 := Nat.lt_of_not_le (fun h => hc (nI_le h (by omega)))
      refine lv_aload_n hx hb d_M_divide_19 rfl (lv_at hl 2 rfl) ?_
      refine lv_iload_n hx hb d_M_divide_20 rfl (lv_at hl 0 rfl) ?_
      refine x_iald hx hb hI9 (hI_f hX hF (show x ≠ o + 22 by omega)) (i) (rfl) (by omega) (by omega) (v := nI (dg vx i)) (hNx i hi8) d_M_divide_21 ?_
      refine lv_goto (tgt := 26) hx hb d_M_divide_22 (by decide) ?_
      refine x_iast (A := fun q => q = o + 22 ∨ WA o q) hx hb hI9 hf hlo (Or.inl rfl) (i) (rfl) (by omega) (by omega) d_M_divide_26 (fun H1 locs1 h1 hF1 hlo1 => ?_)
      refine lv_iinc (v := nI (i + 1)) (k := 0) hx hb d_M_divide_27 hl rfl (nI_1 i) (by decide) rfl (fun ls hl => ?_)
      have hl : lv_has ls 4 [(3, .int (nI (i + 1))), (0, .ref o), (1, .ref x), (2, .ref y)] := hl
      refine lv_goto (tgt := 2) hx hb d_M_divide_30 (by decide) ?_
      have hl : lv_has ls 4 [(3, .int (nI (i + 1))), (0, .ref o), (1, .ref x), (2, .ref y)] := lv_sub hl [0, 1, 2, 3] rfl
      exact ih H1 locs1 ls ⟨_, hl, hlo1, hF.tr hF1 (fun _ h => h), h1, NI_up hN⟩
  · intro H locs ls ⟨f, hl, hlo, hF, hf, hN⟩
    refine lv_iload_n hx hb d_M_divide_2 rfl (lv_at hl 0 rfl) ?_
    refine lv_bipush (v := nI 17) hx hb d_M_divide_3 (by decide) ?_
    refine lv_icmp_ge (tgt := 33) hx hb d_M_divide_5 (by decide) (fun _ => ?_) (fun hc => absurd (nI_le (Nat.le_refl _) (by omega)) hc)
    have hO := hO.f1 hF (by omega)
    have hq := hI_f hq hF (show o + 23 ≠ o + 22 by omega)
    have hrm := hI_f hrm hF (show o + 24 ≠ o + 22 by omega)
    have hY := hI_f hY hF (show y ≠ o + 22 by omega)
    refine lv_aload_n hx hb d_M_divide_33 rfl (lv_at hl 1 rfl) ?_
    refine lv_aload_n hx hb d_M_divide_34 rfl (lv_at hl 3 rfl) ?_
    refine lv_sipush (v := nI 256) hx hb d_M_divide_35 (by decide) ?_
    refine x_callv (A := fun q => q = o + 22 ∨ WA o q) (va_runV (As := [.ref y, .int (nI 256)]) (rest := []) ⟨hx, hb, hml, hown, htw⟩ (m_divideWide l D cJ cI cQ cR o y vx vy 256 fl f fq fr fy (by decide) (nWA (by omega)) hvx hvy hvp hN hNy) (xcV 2 htw kw_363 kw_2 kw_360 kw_362 ks_M_divideWide rfl rfl ⟨by decide, by decide, by decide +kernel⟩ ⟨Nat.le_of_ble_eq_true rfl, Nat.le_of_ble_eq_true rfl⟩) (xPreV hK (hO.rv hK) ⟨hO, hf, hq, hrm, hY⟩) rfl rfl hl.1 rfl (lv_room (Nat.le_of_ble_eq_true rfl)) d_M_divide_38 ⟨Nat.le_of_ble_eq_true rfl, Nat.le_of_ble_eq_true rfl⟩) hlo (fun _ h => Or.inr h) (fun H2 locs2 hB2 hlo => ?_)
    obtain ⟨hF2, f2, g2, hf2, hN2, hg2, hM2⟩ := hB2
    exact W.vret hx hb hr (fun t ht hW => ⟨rfl, by rw [ht]; exact (hF.wk (fun _ h => Or.inl h)).tr hF2 (fun _ h => Or.inr h), ⟨f, by rw [ht]; exact hI_f hf hF2 (nWA (by omega))⟩, f2, g2, by rw [ht]; exact hf2, hN2, by rw [ht]; exact hg2, hM2⟩) hlo d_M_divide_41
  · exact ⟨fw, hl, hlo, XF.rf, hw, NI_0⟩
end
