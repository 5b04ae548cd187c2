abbrev b_Main_init : ByteArray := prog_1_method_1_code
def y_Main_init : MethodName := ⟨"BitArithmetic", "<init>", "()V"⟩
theorem d_Main_init_0 : decode b_Main_init 0 = .ok (.aload_n 0, 1) := by decide +kernel
theorem d_Main_init_1 : decode b_Main_init 1 = .ok (.invokespecial 1, 3) := by decide +kernel
theorem d_Main_init_4 : decode b_Main_init 4 = .ok (.aload_n 0, 1) := by decide +kernel
theorem d_Main_init_5 : decode b_Main_init 5 = .ok (.lconst 0, 1) := by decide +kernel
theorem d_Main_init_6 : decode b_Main_init 6 = .ok (.putfield 7, 3) := by decide +kernel
theorem d_Main_init_9 : decode b_Main_init 9 = .ok (.return_, 1) := by decide +kernel
abbrev b_Object_init : ByteArray := object_method_1_code
def y_Object_init : MethodName := ⟨"java/lang/Object", "<init>", "()V"⟩
theorem d_Object_init_0 : decode b_Object_init 0 = .ok (.return_, 1) := by decide +kernel
abbrev b_Main_latest : ByteArray := prog_1_method_5_code
def y_Main_latest : MethodName := ⟨"BitArithmetic", "latest", "()J"⟩
theorem d_Main_latest_0 : decode b_Main_latest 0 = .ok (.aload_n 0, 1) := by decide +kernel
theorem d_Main_latest_1 : decode b_Main_latest 1 = .ok (.getfield 7, 3) := by decide +kernel
theorem d_Main_latest_4 : decode b_Main_latest 4 = .ok (.lreturn, 1) := by decide +kernel
abbrev b_Main_kind : ByteArray := prog_1_method_6_code
def y_Main_kind : MethodName := ⟨"BitArithmetic", "kind", "(II)I"⟩
theorem d_Main_kind_0 : decode b_Main_kind 0 = .ok (.iload_n 1, 1) := by decide +kernel
theorem d_Main_kind_1 : decode b_Main_kind 1 = .ok (.invokestatic 19, 3) := by decide +kernel
theorem d_Main_kind_4 : decode b_Main_kind 4 = .ok (.ifCond .ne 5, 3) := by decide +kernel
theorem d_Main_kind_7 : decode b_Main_kind 7 = .ok (.iconst (-1), 1) := by decide +kernel
theorem d_Main_kind_8 : decode b_Main_kind 8 = .ok (.ireturn, 1) := by decide +kernel
theorem d_Main_kind_9 : decode b_Main_kind 9 = .ok (.iload_n 2, 1) := by decide +kernel
theorem d_Main_kind_10 : decode b_Main_kind 10 = .ok (.tableswitch 41 0 2 #[26, 31, 36], 26) := by decide +kernel
theorem d_Main_kind_36 : decode b_Main_kind 36 = .ok (.iload_n 1, 1) := by decide +kernel
theorem d_Main_kind_37 : decode b_Main_kind 37 = .ok (.invokestatic 23, 3) := by decide +kernel
theorem d_Main_kind_40 : decode b_Main_kind 40 = .ok (.ireturn, 1) := by decide +kernel
theorem d_Main_kind_41 : decode b_Main_kind 41 = .ok (.iload_n 1, 1) := by decide +kernel
theorem d_Main_kind_42 : decode b_Main_kind 42 = .ok (.invokestatic 29, 3) := by decide +kernel
theorem d_Main_kind_45 : decode b_Main_kind 45 = .ok (.ireturn, 1) := by decide +kernel
theorem d_Main_kind_46 : decode b_Main_kind 46 = .ok (.iload_n 1, 1) := by decide +kernel
theorem d_Main_kind_47 : decode b_Main_kind 47 = .ok (.invokestatic 32, 3) := by decide +kernel
theorem d_Main_kind_50 : decode b_Main_kind 50 = .ok (.ireturn, 1) := by decide +kernel
theorem d_Main_kind_51 : decode b_Main_kind 51 = .ok (.iconst (-1), 1) := by decide +kernel
theorem d_Main_kind_52 : decode b_Main_kind 52 = .ok (.ireturn, 1) := by decide +kernel
abbrev b_Operations_exists : ByteArray := prog_7_method_2_code
def y_Operations_exists : MethodName := ⟨"BitArithmetic$Operations", "exists", "(I)Z"⟩
theorem d_Operations_exists_0 : decode b_Operations_exists 0 = .ok (.iload_n 0, 1) := by decide +kernel
theorem d_Operations_exists_1 : decode b_Operations_exists 1 = .ok (.bipush 69, 2) := by decide +kernel
theorem d_Operations_exists_3 : decode b_Operations_exists 3 = .ok (.if_icmp .lt 14, 3) := by decide +kernel
theorem d_Operations_exists_6 : decode b_Operations_exists 6 = .ok (.iload_n 0, 1) := by decide +kernel
theorem d_Operations_exists_7 : decode b_Operations_exists 7 = .ok (.sipush 191, 3) := by decide +kernel
theorem d_Operations_exists_10 : decode b_Operations_exists 10 = .ok (.if_icmp .gt 7, 3) := by decide +kernel
theorem d_Operations_exists_13 : decode b_Operations_exists 13 = .ok (.iconst 1, 1) := by decide +kernel
theorem d_Operations_exists_14 : decode b_Operations_exists 14 = .ok (.goto 4, 3) := by decide +kernel
theorem d_Operations_exists_17 : decode b_Operations_exists 17 = .ok (.iconst 0, 1) := by decide +kernel
theorem d_Operations_exists_18 : decode b_Operations_exists 18 = .ok (.ireturn, 1) := by decide +kernel
abbrev b_Kinds_ofAnswer : ByteArray := prog_6_method_2_code
def y_Kinds_ofAnswer : MethodName := ⟨"BitArithmetic$Kinds", "ofAnswer", "(I)I"⟩
theorem d_Kinds_ofAnswer_0 : decode b_Kinds_ofAnswer 0 = .ok (.iload_n 0, 1) := by decide +kernel
theorem d_Kinds_ofAnswer_1 : decode b_Kinds_ofAnswer 1 = .ok (.sipush 167, 3) := by decide +kernel
theorem d_Kinds_ofAnswer_4 : decode b_Kinds_ofAnswer 4 = .ok (.if_icmp .lt 15, 3) := by decide +kernel
theorem d_Kinds_ofAnswer_7 : decode b_Kinds_ofAnswer 7 = .ok (.getstatic 11, 3) := by decide +kernel
theorem d_Kinds_ofAnswer_10 : decode b_Kinds_ofAnswer 10 = .ok (.iload_n 0, 1) := by decide +kernel
theorem d_Kinds_ofAnswer_11 : decode b_Kinds_ofAnswer 11 = .ok (.sipush 167, 3) := by decide +kernel
theorem d_Kinds_ofAnswer_14 : decode b_Kinds_ofAnswer 14 = .ok (.isub, 1) := by decide +kernel
theorem d_Kinds_ofAnswer_15 : decode b_Kinds_ofAnswer 15 = .ok (.invokestatic 15, 3) := by decide +kernel
theorem d_Kinds_ofAnswer_18 : decode b_Kinds_ofAnswer 18 = .ok (.ireturn, 1) := by decide +kernel
theorem d_Kinds_ofAnswer_19 : decode b_Kinds_ofAnswer 19 = .ok (.iload_n 0, 1) := by decide +kernel
theorem d_Kinds_ofAnswer_20 : decode b_Kinds_ofAnswer 20 = .ok (.bipush 102, 2) := by decide +kernel
theorem d_Kinds_ofAnswer_22 : decode b_Kinds_ofAnswer 22 = .ok (.if_icmp .gt 7, 3) := by decide +kernel
theorem d_Kinds_ofAnswer_25 : decode b_Kinds_ofAnswer 25 = .ok (.iconst 0, 1) := by decide +kernel
theorem d_Kinds_ofAnswer_26 : decode b_Kinds_ofAnswer 26 = .ok (.goto 7, 3) := by decide +kernel
theorem d_Kinds_ofAnswer_29 : decode b_Kinds_ofAnswer 29 = .ok (.iload_n 0, 1) := by decide +kernel
theorem d_Kinds_ofAnswer_30 : decode b_Kinds_ofAnswer 30 = .ok (.invokestatic 19, 3) := by decide +kernel
theorem d_Kinds_ofAnswer_33 : decode b_Kinds_ofAnswer 33 = .ok (.ireturn, 1) := by decide +kernel
abbrev b_Kinds_entry : ByteArray := prog_6_method_6_code
def y_Kinds_entry : MethodName := ⟨"BitArithmetic$Kinds", "entry", "([II)I"⟩
theorem d_Kinds_entry_0 : decode b_Kinds_entry 0 = .ok (.iload_n 1, 1) := by decide +kernel
theorem d_Kinds_entry_1 : decode b_Kinds_entry 1 = .ok (.ifCond .lt 15, 3) := by decide +kernel
theorem d_Kinds_entry_4 : decode b_Kinds_entry 4 = .ok (.iload_n 1, 1) := by decide +kernel
theorem d_Kinds_entry_5 : decode b_Kinds_entry 5 = .ok (.aload_n 0, 1) := by decide +kernel
theorem d_Kinds_entry_6 : decode b_Kinds_entry 6 = .ok (.arraylength, 1) := by decide +kernel
theorem d_Kinds_entry_7 : decode b_Kinds_entry 7 = .ok (.if_icmp .ge 9, 3) := by decide +kernel
theorem d_Kinds_entry_10 : decode b_Kinds_entry 10 = .ok (.aload_n 0, 1) := by decide +kernel
theorem d_Kinds_entry_11 : decode b_Kinds_entry 11 = .ok (.iload_n 1, 1) := by decide +kernel
theorem d_Kinds_entry_12 : decode b_Kinds_entry 12 = .ok (.iaload, 1) := by decide +kernel
theorem d_Kinds_entry_13 : decode b_Kinds_entry 13 = .ok (.goto 4, 3) := by decide +kernel
theorem d_Kinds_entry_16 : decode b_Kinds_entry 16 = .ok (.iconst (-1), 1) := by decide +kernel
theorem d_Kinds_entry_17 : decode b_Kinds_entry 17 = .ok (.ireturn, 1) := by decide +kernel
abbrev b_Kinds_ofFirst : ByteArray := prog_6_method_3_code
def y_Kinds_ofFirst : MethodName := ⟨"BitArithmetic$Kinds", "ofFirst", "(I)I"⟩
theorem d_Kinds_ofFirst_0 : decode b_Kinds_ofFirst 0 = .ok (.iload_n 0, 1) := by decide +kernel
theorem d_Kinds_ofFirst_1 : decode b_Kinds_ofFirst 1 = .ok (.sipush 167, 3) := by decide +kernel
theorem d_Kinds_ofFirst_4 : decode b_Kinds_ofFirst 4 = .ok (.if_icmp .lt 15, 3) := by decide +kernel
theorem d_Kinds_ofFirst_7 : decode b_Kinds_ofFirst 7 = .ok (.getstatic 23, 3) := by decide +kernel
theorem d_Kinds_ofFirst_10 : decode b_Kinds_ofFirst 10 = .ok (.iload_n 0, 1) := by decide +kernel
theorem d_Kinds_ofFirst_11 : decode b_Kinds_ofFirst 11 = .ok (.sipush 167, 3) := by decide +kernel
theorem d_Kinds_ofFirst_14 : decode b_Kinds_ofFirst 14 = .ok (.isub, 1) := by decide +kernel
theorem d_Kinds_ofFirst_15 : decode b_Kinds_ofFirst 15 = .ok (.invokestatic 15, 3) := by decide +kernel
theorem d_Kinds_ofFirst_18 : decode b_Kinds_ofFirst 18 = .ok (.ireturn, 1) := by decide +kernel
theorem d_Kinds_ofFirst_19 : decode b_Kinds_ofFirst 19 = .ok (.iload_n 0, 1) := by decide +kernel
theorem d_Kinds_ofFirst_20 : decode b_Kinds_ofFirst 20 = .ok (.invokestatic 26, 3) := by decide +kernel
theorem d_Kinds_ofFirst_23 : decode b_Kinds_ofFirst 23 = .ok (.istore_n 1, 1) := by decide +kernel
theorem d_Kinds_ofFirst_24 : decode b_Kinds_ofFirst 24 = .ok (.iload_n 0, 1) := by decide +kernel
theorem d_Kinds_ofFirst_25 : decode b_Kinds_ofFirst 25 = .ok (.invokestatic 31, 3) := by decide +kernel
theorem d_Kinds_ofFirst_28 : decode b_Kinds_ofFirst 28 = .ok (.istore_n 2, 1) := by decide +kernel
theorem d_Kinds_ofFirst_29 : decode b_Kinds_ofFirst 29 = .ok (.iload_n 1, 1) := by decide +kernel
theorem d_Kinds_ofFirst_30 : decode b_Kinds_ofFirst 30 = .ok (.bipush 79, 2) := by decide +kernel
theorem d_Kinds_ofFirst_32 : decode b_Kinds_ofFirst 32 = .ok (.if_icmp .le 15, 3) := by decide +kernel
theorem d_Kinds_ofFirst_35 : decode b_Kinds_ofFirst 35 = .ok (.iload_n 1, 1) := by decide +kernel
theorem d_Kinds_ofFirst_36 : decode b_Kinds_ofFirst 36 = .ok (.bipush 103, 2) := by decide +kernel
theorem d_Kinds_ofFirst_38 : decode b_Kinds_ofFirst 38 = .ok (.if_icmp .lt 19, 3) := by decide +kernel
theorem d_Kinds_ofFirst_41 : decode b_Kinds_ofFirst 41 = .ok (.iload_n 1, 1) := by decide +kernel
theorem d_Kinds_ofFirst_42 : decode b_Kinds_ofFirst 42 = .ok (.bipush 120, 2) := by decide +kernel
theorem d_Kinds_ofFirst_44 : decode b_Kinds_ofFirst 44 = .ok (.if_icmp .gt 13, 3) := by decide +kernel
theorem d_Kinds_ofFirst_47 : decode b_Kinds_ofFirst 47 = .ok (.iload_n 2, 1) := by decide +kernel
theorem d_Kinds_ofFirst_48 : decode b_Kinds_ofFirst 48 = .ok (.ifCond .eq 7, 3) := by decide +kernel
theorem d_Kinds_ofFirst_51 : decode b_Kinds_ofFirst 51 = .ok (.iconst 1, 1) := by decide +kernel
theorem d_Kinds_ofFirst_52 : decode b_Kinds_ofFirst 52 = .ok (.goto 4, 3) := by decide +kernel
theorem d_Kinds_ofFirst_55 : decode b_Kinds_ofFirst 55 = .ok (.iconst 0, 1) := by decide +kernel
theorem d_Kinds_ofFirst_56 : decode b_Kinds_ofFirst 56 = .ok (.ireturn, 1) := by decide +kernel
theorem d_Kinds_ofFirst_57 : decode b_Kinds_ofFirst 57 = .ok (.iload_n 2, 1) := by decide +kernel
theorem d_Kinds_ofFirst_58 : decode b_Kinds_ofFirst 58 = .ok (.ifCond .eq 7, 3) := by decide +kernel
theorem d_Kinds_ofFirst_61 : decode b_Kinds_ofFirst 61 = .ok (.iconst 3, 1) := by decide +kernel
theorem d_Kinds_ofFirst_62 : decode b_Kinds_ofFirst 62 = .ok (.goto 4, 3) := by decide +kernel
theorem d_Kinds_ofFirst_65 : decode b_Kinds_ofFirst 65 = .ok (.iconst 2, 1) := by decide +kernel
theorem d_Kinds_ofFirst_66 : decode b_Kinds_ofFirst 66 = .ok (.ireturn, 1) := by decide +kernel
abbrev b_Operations_of32 : ByteArray := prog_7_method_4_code
def y_Operations_of32 : MethodName := ⟨"BitArithmetic$Operations", "of32", "(I)I"⟩
theorem d_Operations_of32_0 : decode b_Operations_of32 0 = .ok (.iload_n 0, 1) := by decide +kernel
theorem d_Operations_of32_1 : decode b_Operations_of32 1 = .ok (.invokestatic 7, 3) := by decide +kernel
theorem d_Operations_of32_4 : decode b_Operations_of32 4 = .ok (.ifCond .ne 5, 3) := by decide +kernel
theorem d_Operations_of32_7 : decode b_Operations_of32 7 = .ok (.iload_n 0, 1) := by decide +kernel
theorem d_Operations_of32_8 : decode b_Operations_of32 8 = .ok (.ireturn, 1) := by decide +kernel
theorem d_Operations_of32_9 : decode b_Operations_of32 9 = .ok (.iload_n 0, 1) := by decide +kernel
theorem d_Operations_of32_10 : decode b_Operations_of32 10 = .ok (.bipush 90, 2) := by decide +kernel
theorem d_Operations_of32_12 : decode b_Operations_of32 12 = .ok (.if_icmp .gt 8, 3) := by decide +kernel
theorem d_Operations_of32_15 : decode b_Operations_of32 15 = .ok (.iload_n 0, 1) := by decide +kernel
theorem d_Operations_of32_16 : decode b_Operations_of32 16 = .ok (.bipush 11, 2) := by decide +kernel
theorem d_Operations_of32_18 : decode b_Operations_of32 18 = .ok (.isub, 1) := by decide +kernel
theorem d_Operations_of32_19 : decode b_Operations_of32 19 = .ok (.ireturn, 1) := by decide +kernel
theorem d_Operations_of32_20 : decode b_Operations_of32 20 = .ok (.iload_n 0, 1) := by decide +kernel
theorem d_Operations_of32_21 : decode b_Operations_of32 21 = .ok (.bipush 102, 2) := by decide +kernel
theorem d_Operations_of32_23 : decode b_Operations_of32 23 = .ok (.if_icmp .gt 8, 3) := by decide +kernel
theorem d_Operations_of32_26 : decode b_Operations_of32 26 = .ok (.iload_n 0, 1) := by decide +kernel
theorem d_Operations_of32_27 : decode b_Operations_of32 27 = .ok (.bipush 6, 2) := by decide +kernel
theorem d_Operations_of32_29 : decode b_Operations_of32 29 = .ok (.isub, 1) := by decide +kernel
theorem d_Operations_of32_30 : decode b_Operations_of32 30 = .ok (.ireturn, 1) := by decide +kernel
theorem d_Operations_of32_31 : decode b_Operations_of32 31 = .ok (.iload_n 0, 1) := by decide +kernel
theorem d_Operations_of32_32 : decode b_Operations_of32 32 = .ok (.sipush 138, 3) := by decide +kernel
theorem d_Operations_of32_35 : decode b_Operations_of32 35 = .ok (.if_icmp .gt 8, 3) := by decide +kernel
theorem d_Operations_of32_38 : decode b_Operations_of32 38 = .ok (.iload_n 0, 1) := by decide +kernel
theorem d_Operations_of32_39 : decode b_Operations_of32 39 = .ok (.bipush 18, 2) := by decide +kernel
theorem d_Operations_of32_41 : decode b_Operations_of32 41 = .ok (.isub, 1) := by decide +kernel
theorem d_Operations_of32_42 : decode b_Operations_of32 42 = .ok (.ireturn, 1) := by decide +kernel
theorem d_Operations_of32_43 : decode b_Operations_of32 43 = .ok (.iload_n 0, 1) := by decide +kernel
theorem d_Operations_of32_44 : decode b_Operations_of32 44 = .ok (.bipush 14, 2) := by decide +kernel
theorem d_Operations_of32_46 : decode b_Operations_of32 46 = .ok (.isub, 1) := by decide +kernel
theorem d_Operations_of32_47 : decode b_Operations_of32 47 = .ok (.ireturn, 1) := by decide +kernel
abbrev b_Operations_isTwin : ByteArray := prog_7_method_3_code
def y_Operations_isTwin : MethodName := ⟨"BitArithmetic$Operations", "isTwin", "(I)Z"⟩
theorem d_Operations_isTwin_0 : decode b_Operations_isTwin 0 = .ok (.iload_n 0, 1) := by decide +kernel
theorem d_Operations_isTwin_1 : decode b_Operations_isTwin 1 = .ok (.bipush 80, 2) := by decide +kernel
theorem d_Operations_isTwin_3 : decode b_Operations_isTwin 3 = .ok (.if_icmp .lt 9, 3) := by decide +kernel
theorem d_Operations_isTwin_6 : decode b_Operations_isTwin 6 = .ok (.iload_n 0, 1) := by decide +kernel
theorem d_Operations_isTwin_7 : decode b_Operations_isTwin 7 = .ok (.bipush 90, 2) := by decide +kernel
theorem d_Operations_isTwin_9 : decode b_Operations_isTwin 9 = .ok (.if_icmp .le 42, 3) := by decide +kernel
theorem d_Operations_isTwin_12 : decode b_Operations_isTwin 12 = .ok (.iload_n 0, 1) := by decide +kernel
theorem d_Operations_isTwin_13 : decode b_Operations_isTwin 13 = .ok (.bipush 97, 2) := by decide +kernel
theorem d_Operations_isTwin_15 : decode b_Operations_isTwin 15 = .ok (.if_icmp .lt 9, 3) := by decide +kernel
theorem d_Operations_isTwin_18 : decode b_Operations_isTwin 18 = .ok (.iload_n 0, 1) := by decide +kernel
theorem d_Operations_isTwin_19 : decode b_Operations_isTwin 19 = .ok (.bipush 102, 2) := by decide +kernel
theorem d_Operations_isTwin_21 : decode b_Operations_isTwin 21 = .ok (.if_icmp .le 30, 3) := by decide +kernel
theorem d_Operations_isTwin_24 : decode b_Operations_isTwin 24 = .ok (.iload_n 0, 1) := by decide +kernel
theorem d_Operations_isTwin_25 : decode b_Operations_isTwin 25 = .ok (.bipush 121, 2) := by decide +kernel
theorem d_Operations_isTwin_27 : decode b_Operations_isTwin 27 = .ok (.if_icmp .lt 10, 3) := by decide +kernel
theorem d_Operations_isTwin_30 : decode b_Operations_isTwin 30 = .ok (.iload_n 0, 1) := by decide +kernel
theorem d_Operations_isTwin_31 : decode b_Operations_isTwin 31 = .ok (.sipush 138, 3) := by decide +kernel
theorem d_Operations_isTwin_34 : decode b_Operations_isTwin 34 = .ok (.if_icmp .le 17, 3) := by decide +kernel
theorem d_Operations_isTwin_37 : decode b_Operations_isTwin 37 = .ok (.iload_n 0, 1) := by decide +kernel
theorem d_Operations_isTwin_38 : decode b_Operations_isTwin 38 = .ok (.sipush 153, 3) := by decide +kernel
theorem d_Operations_isTwin_41 : decode b_Operations_isTwin 41 = .ok (.if_icmp .lt 14, 3) := by decide +kernel
theorem d_Operations_isTwin_44 : decode b_Operations_isTwin 44 = .ok (.iload_n 0, 1) := by decide +kernel
theorem d_Operations_isTwin_45 : decode b_Operations_isTwin 45 = .ok (.sipush 166, 3) := by decide +kernel
theorem d_Operations_isTwin_48 : decode b_Operations_isTwin 48 = .ok (.if_icmp .gt 7, 3) := by decide +kernel
theorem d_Operations_isTwin_51 : decode b_Operations_isTwin 51 = .ok (.iconst 1, 1) := by decide +kernel
theorem d_Operations_isTwin_52 : decode b_Operations_isTwin 52 = .ok (.goto 4, 3) := by decide +kernel
theorem d_Operations_isTwin_55 : decode b_Operations_isTwin 55 = .ok (.iconst 0, 1) := by decide +kernel
theorem d_Operations_isTwin_56 : decode b_Operations_isTwin 56 = .ok (.ireturn, 1) := by decide +kernel
abbrev b_Kinds_ofSecond : ByteArray := prog_6_method_4_code
def y_Kinds_ofSecond : MethodName := ⟨"BitArithmetic$Kinds", "ofSecond", "(I)I"⟩
theorem d_Kinds_ofSecond_0 : decode b_Kinds_ofSecond 0 = .ok (.iload_n 0, 1) := by decide +kernel
theorem d_Kinds_ofSecond_1 : decode b_Kinds_ofSecond 1 = .ok (.invokestatic 35, 3) := by decide +kernel
theorem d_Kinds_ofSecond_4 : decode b_Kinds_ofSecond 4 = .ok (.ifCond .eq 7, 3) := by decide +kernel
theorem d_Kinds_ofSecond_7 : decode b_Kinds_ofSecond 7 = .ok (.iconst (-1), 1) := by decide +kernel
theorem d_Kinds_ofSecond_8 : decode b_Kinds_ofSecond 8 = .ok (.goto 7, 3) := by decide +kernel
theorem d_Kinds_ofSecond_11 : decode b_Kinds_ofSecond 11 = .ok (.iload_n 0, 1) := by decide +kernel
theorem d_Kinds_ofSecond_12 : decode b_Kinds_ofSecond 12 = .ok (.invokestatic 19, 3) := by decide +kernel
theorem d_Kinds_ofSecond_15 : decode b_Kinds_ofSecond 15 = .ok (.ireturn, 1) := by decide +kernel
abbrev b_Kinds_hasOneValue : ByteArray := prog_6_method_5_code
def y_Kinds_hasOneValue : MethodName := ⟨"BitArithmetic$Kinds", "hasOneValue", "(I)Z"⟩
theorem d_Kinds_hasOneValue_0 : decode b_Kinds_hasOneValue 0 = .ok (.iload_n 0, 1) := by decide +kernel
theorem d_Kinds_hasOneValue_1 : decode b_Kinds_hasOneValue 1 = .ok (.invokestatic 26, 3) := by decide +kernel
theorem d_Kinds_hasOneValue_4 : decode b_Kinds_hasOneValue 4 = .ok (.istore_n 1, 1) := by decide +kernel
theorem d_Kinds_hasOneValue_5 : decode b_Kinds_hasOneValue 5 = .ok (.iload_n 1, 1) := by decide +kernel
theorem d_Kinds_hasOneValue_6 : decode b_Kinds_hasOneValue 6 = .ok (.bipush 69, 2) := by decide +kernel
theorem d_Kinds_hasOneValue_8 : decode b_Kinds_hasOneValue 8 = .ok (.if_icmp .eq 36, 3) := by decide +kernel
theorem d_Kinds_hasOneValue_11 : decode b_Kinds_hasOneValue 11 = .ok (.iload_n 1, 1) := by decide +kernel
theorem d_Kinds_hasOneValue_12 : decode b_Kinds_hasOneValue 12 = .ok (.bipush 103, 2) := by decide +kernel
theorem d_Kinds_hasOneValue_14 : decode b_Kinds_hasOneValue 14 = .ok (.if_icmp .lt 9, 3) := by decide +kernel
theorem d_Kinds_hasOneValue_17 : decode b_Kinds_hasOneValue 17 = .ok (.iload_n 1, 1) := by decide +kernel
theorem d_Kinds_hasOneValue_18 : decode b_Kinds_hasOneValue 18 = .ok (.bipush 105, 2) := by decide +kernel
theorem d_Kinds_hasOneValue_20 : decode b_Kinds_hasOneValue 20 = .ok (.if_icmp .le 24, 3) := by decide +kernel
theorem d_Kinds_hasOneValue_23 : decode b_Kinds_hasOneValue 23 = .ok (.iload_n 1, 1) := by decide +kernel
theorem d_Kinds_hasOneValue_24 : decode b_Kinds_hasOneValue 24 = .ok (.sipush 139, 3) := by decide +kernel
theorem d_Kinds_hasOneValue_27 : decode b_Kinds_hasOneValue 27 = .ok (.if_icmp .lt 10, 3) := by decide +kernel
theorem d_Kinds_hasOneValue_30 : decode b_Kinds_hasOneValue 30 = .ok (.iload_n 1, 1) := by decide +kernel
theorem d_Kinds_hasOneValue_31 : decode b_Kinds_hasOneValue 31 = .ok (.sipush 145, 3) := by decide +kernel
theorem d_Kinds_hasOneValue_34 : decode b_Kinds_hasOneValue 34 = .ok (.if_icmp .le 10, 3) := by decide +kernel
theorem d_Kinds_hasOneValue_37 : decode b_Kinds_hasOneValue 37 = .ok (.iload_n 1, 1) := by decide +kernel
theorem d_Kinds_hasOneValue_38 : decode b_Kinds_hasOneValue 38 = .ok (.sipush 167, 3) := by decide +kernel
theorem d_Kinds_hasOneValue_41 : decode b_Kinds_hasOneValue 41 = .ok (.if_icmp .lt 7, 3) := by decide +kernel
theorem d_Kinds_hasOneValue_44 : decode b_Kinds_hasOneValue 44 = .ok (.iconst 1, 1) := by decide +kernel
theorem d_Kinds_hasOneValue_45 : decode b_Kinds_hasOneValue 45 = .ok (.goto 4, 3) := by decide +kernel
theorem d_Kinds_hasOneValue_48 : decode b_Kinds_hasOneValue 48 = .ok (.iconst 0, 1) := by decide +kernel
theorem d_Kinds_hasOneValue_49 : decode b_Kinds_hasOneValue 49 = .ok (.ireturn, 1) := by decide +kernel
abbrev b_Main_run : ByteArray := prog_1_method_2_code
def y_Main_run : MethodName := ⟨"BitArithmetic", "run", "(IJJ)J"⟩
theorem d_Main_run_0 : decode b_Main_run 0 = .ok (.iload_n 1, 1) := by decide +kernel
theorem d_Main_run_1 : decode b_Main_run 1 = .ok (.lload_n 2, 1) := by decide +kernel
theorem d_Main_run_2 : decode b_Main_run 2 = .ok (.lload 4, 2) := by decide +kernel
theorem d_Main_run_4 : decode b_Main_run 4 = .ok (.invokestatic 13, 3) := by decide +kernel
theorem d_Main_run_7 : decode b_Main_run 7 = .ok (.lstore 6, 2) := by decide +kernel
theorem d_Main_run_9 : decode b_Main_run 9 = .ok (.aload_n 0, 1) := by decide +kernel
theorem d_Main_run_10 : decode b_Main_run 10 = .ok (.lload 6, 2) := by decide +kernel
theorem d_Main_run_12 : decode b_Main_run 12 = .ok (.putfield 7, 3) := by decide +kernel
theorem d_Main_run_15 : decode b_Main_run 15 = .ok (.lload 6, 2) := by decide +kernel
theorem d_Main_run_17 : decode b_Main_run 17 = .ok (.lreturn, 1) := by decide +kernel
abbrev b_Operations_answer : ByteArray := prog_7_method_5_code
def y_Operations_answer : MethodName := ⟨"BitArithmetic$Operations", "answer", "(IJJ)J"⟩
theorem d_Operations_answer_0 : decode b_Operations_answer 0 = .ok (.iload_n 0, 1) := by decide +kernel
theorem d_Operations_answer_1 : decode b_Operations_answer 1 = .ok (.invokestatic 13, 3) := by decide +kernel
theorem d_Operations_answer_4 : decode b_Operations_answer 4 = .ok (.ifCond .ne 13, 3) := by decide +kernel
theorem d_Operations_answer_7 : decode b_Operations_answer 7 = .ok (.new 16, 3) := by decide +kernel
theorem d_Operations_answer_10 : decode b_Operations_answer 10 = .ok (.dup, 1) := by decide +kernel
theorem d_Operations_answer_11 : decode b_Operations_answer 11 = .ok (.ldc 18, 2) := by decide +kernel
theorem d_Operations_answer_13 : decode b_Operations_answer 13 = .ok (.invokespecial 20, 3) := by decide +kernel
theorem d_Operations_answer_16 : decode b_Operations_answer 16 = .ok (.athrow, 1) := by decide +kernel
theorem d_Operations_answer_17 : decode b_Operations_answer 17 = .ok (.iload_n 0, 1) := by decide +kernel
theorem d_Operations_answer_18 : decode b_Operations_answer 18 = .ok (.sipush 178, 3) := by decide +kernel
theorem d_Operations_answer_21 : decode b_Operations_answer 21 = .ok (.if_icmp .lt 16, 3) := by decide +kernel
theorem d_Operations_answer_24 : decode b_Operations_answer 24 = .ok (.iload_n 0, 1) := by decide +kernel
theorem d_Operations_answer_25 : decode b_Operations_answer 25 = .ok (.sipush 187, 3) := by decide +kernel
theorem d_Operations_answer_28 : decode b_Operations_answer 28 = .ok (.if_icmp .gt 9, 3) := by decide +kernel
theorem d_Operations_answer_31 : decode b_Operations_answer 31 = .ok (.iload_n 0, 1) := by decide +kernel
theorem d_Operations_answer_32 : decode b_Operations_answer 32 = .ok (.lload_n 1, 1) := by decide +kernel
theorem d_Operations_answer_33 : decode b_Operations_answer 33 = .ok (.invokestatic 23, 3) := by decide +kernel
theorem d_Operations_answer_36 : decode b_Operations_answer 36 = .ok (.lreturn, 1) := by decide +kernel
theorem d_Operations_answer_37 : decode b_Operations_answer 37 = .ok (.iload_n 0, 1) := by decide +kernel
theorem d_Operations_answer_38 : decode b_Operations_answer 38 = .ok (.sipush 167, 3) := by decide +kernel
theorem d_Operations_answer_41 : decode b_Operations_answer 41 = .ok (.if_icmp .lt 9, 3) := by decide +kernel
theorem d_Operations_answer_44 : decode b_Operations_answer 44 = .ok (.iload_n 0, 1) := by decide +kernel
theorem d_Operations_answer_45 : decode b_Operations_answer 45 = .ok (.lload_n 1, 1) := by decide +kernel
theorem d_Operations_answer_46 : decode b_Operations_answer 46 = .ok (.invokestatic 29, 3) := by decide +kernel
theorem d_Operations_answer_49 : decode b_Operations_answer 49 = .ok (.lreturn, 1) := by decide +kernel
theorem d_Operations_answer_50 : decode b_Operations_answer 50 = .ok (.iload_n 0, 1) := by decide +kernel
theorem d_Operations_answer_51 : decode b_Operations_answer 51 = .ok (.invokestatic 32, 3) := by decide +kernel
theorem d_Operations_answer_54 : decode b_Operations_answer 54 = .ok (.istore 5, 2) := by decide +kernel
theorem d_Operations_answer_56 : decode b_Operations_answer 56 = .ok (.iload_n 0, 1) := by decide +kernel
theorem d_Operations_answer_57 : decode b_Operations_answer 57 = .ok (.invokestatic 7, 3) := by decide +kernel
theorem d_Operations_answer_60 : decode b_Operations_answer 60 = .ok (.ifCond .eq 8, 3) := by decide +kernel
theorem d_Operations_answer_63 : decode b_Operations_answer 63 = .ok (.bipush 64, 2) := by decide +kernel
theorem d_Operations_answer_65 : decode b_Operations_answer 65 = .ok (.goto 5, 3) := by decide +kernel
theorem d_Operations_answer_68 : decode b_Operations_answer 68 = .ok (.bipush 32, 2) := by decide +kernel
theorem d_Operations_answer_70 : decode b_Operations_answer 70 = .ok (.istore 6, 2) := by decide +kernel
theorem d_Operations_answer_72 : decode b_Operations_answer 72 = .ok (.iload 5, 2) := by decide +kernel
theorem d_Operations_answer_74 : decode b_Operations_answer 74 = .ok (.bipush 79, 2) := by decide +kernel
theorem d_Operations_answer_76 : decode b_Operations_answer 76 = .ok (.if_icmp .gt 29, 3) := by decide +kernel
theorem d_Operations_answer_79 : decode b_Operations_answer 79 = .ok (.iload 5, 2) := by decide +kernel
theorem d_Operations_answer_81 : decode b_Operations_answer 81 = .ok (.iload 6, 2) := by decide +kernel
theorem d_Operations_answer_83 : decode b_Operations_answer 83 = .ok (.lload_n 1, 1) := by decide +kernel
theorem d_Operations_answer_84 : decode b_Operations_answer 84 = .ok (.invokestatic 36, 3) := by decide +kernel
theorem d_Operations_answer_87 : decode b_Operations_answer 87 = .ok (.iload 6, 2) := by decide +kernel
theorem d_Operations_answer_89 : decode b_Operations_answer 89 = .ok (.lload_n 3, 1) := by decide +kernel
theorem d_Operations_answer_90 : decode b_Operations_answer 90 = .ok (.invokestatic 36, 3) := by decide +kernel
theorem d_Operations_answer_93 : decode b_Operations_answer 93 = .ok (.invokestatic 41, 3) := by decide +kernel
theorem d_Operations_answer_96 : decode b_Operations_answer 96 = .ok (.ifCond .eq 7, 3) := by decide +kernel
theorem d_Operations_answer_99 : decode b_Operations_answer 99 = .ok (.lconst 1, 1) := by decide +kernel
theorem d_Operations_answer_100 : decode b_Operations_answer 100 = .ok (.goto 4, 3) := by decide +kernel
theorem d_Operations_answer_103 : decode b_Operations_answer 103 = .ok (.lconst 0, 1) := by decide +kernel
theorem d_Operations_answer_104 : decode b_Operations_answer 104 = .ok (.lreturn, 1) := by decide +kernel
theorem d_Operations_answer_105 : decode b_Operations_answer 105 = .ok (.iload 5, 2) := by decide +kernel
theorem d_Operations_answer_107 : decode b_Operations_answer 107 = .ok (.bipush 103, 2) := by decide +kernel
theorem d_Operations_answer_109 : decode b_Operations_answer 109 = .ok (.if_icmp .lt 20, 3) := by decide +kernel
theorem d_Operations_answer_112 : decode b_Operations_answer 112 = .ok (.iload 5, 2) := by decide +kernel
theorem d_Operations_answer_114 : decode b_Operations_answer 114 = .ok (.bipush 120, 2) := by decide +kernel
theorem d_Operations_answer_116 : decode b_Operations_answer 116 = .ok (.if_icmp .gt 13, 3) := by decide +kernel
theorem d_Operations_answer_119 : decode b_Operations_answer 119 = .ok (.iload 5, 2) := by decide +kernel
theorem d_Operations_answer_121 : decode b_Operations_answer 121 = .ok (.iload 6, 2) := by decide +kernel
theorem d_Operations_answer_123 : decode b_Operations_answer 123 = .ok (.lload_n 1, 1) := by decide +kernel
theorem d_Operations_answer_124 : decode b_Operations_answer 124 = .ok (.lload_n 3, 1) := by decide +kernel
theorem d_Operations_answer_125 : decode b_Operations_answer 125 = .ok (.invokestatic 47, 3) := by decide +kernel
theorem d_Operations_answer_128 : decode b_Operations_answer 128 = .ok (.lreturn, 1) := by decide +kernel
theorem d_Operations_answer_129 : decode b_Operations_answer 129 = .ok (.iload 6, 2) := by decide +kernel
theorem d_Operations_answer_131 : decode b_Operations_answer 131 = .ok (.bipush 32, 2) := by decide +kernel
theorem d_Operations_answer_133 : decode b_Operations_answer 133 = .ok (.if_icmp .ne 9, 3) := by decide +kernel
theorem d_Operations_answer_136 : decode b_Operations_answer 136 = .ok (.getstatic 51, 3) := by decide +kernel
theorem d_Operations_answer_139 : decode b_Operations_answer 139 = .ok (.goto 6, 3) := by decide +kernel
theorem d_Operations_answer_142 : decode b_Operations_answer 142 = .ok (.getstatic 57, 3) := by decide +kernel
theorem d_Operations_answer_145 : decode b_Operations_answer 145 = .ok (.astore 7, 2) := by decide +kernel
theorem d_Operations_answer_147 : decode b_Operations_answer 147 = .ok (.iload 5, 2) := by decide +kernel
theorem d_Operations_answer_149 : decode b_Operations_answer 149 = .ok (.bipush 96, 2) := by decide +kernel
theorem d_Operations_answer_151 : decode b_Operations_answer 151 = .ok (.if_icmp .gt 31, 3) := by decide +kernel
theorem d_Operations_answer_154 : decode b_Operations_answer 154 = .ok (.iload 5, 2) := by decide +kernel
theorem d_Operations_answer_156 : decode b_Operations_answer 156 = .ok (.aload 7, 2) := by decide +kernel
theorem d_Operations_answer_158 : decode b_Operations_answer 158 = .ok (.iload 6, 2) := by decide +kernel
theorem d_Operations_answer_160 : decode b_Operations_answer 160 = .ok (.lload_n 1, 1) := by decide +kernel
theorem d_Operations_answer_161 : decode b_Operations_answer 161 = .ok (.invokestatic 60, 3) := by decide +kernel
theorem d_Operations_answer_164 : decode b_Operations_answer 164 = .ok (.iload 6, 2) := by decide +kernel
theorem d_Operations_answer_166 : decode b_Operations_answer 166 = .ok (.lload_n 3, 1) := by decide +kernel
theorem d_Operations_answer_167 : decode b_Operations_answer 167 = .ok (.invokestatic 60, 3) := by decide +kernel
theorem d_Operations_answer_170 : decode b_Operations_answer 170 = .ok (.invokestatic 63, 3) := by decide +kernel
theorem d_Operations_answer_173 : decode b_Operations_answer 173 = .ok (.ifCond .eq 7, 3) := by decide +kernel
theorem d_Operations_answer_176 : decode b_Operations_answer 176 = .ok (.lconst 1, 1) := by decide +kernel
theorem d_Operations_answer_177 : decode b_Operations_answer 177 = .ok (.goto 4, 3) := by decide +kernel
theorem d_Operations_answer_180 : decode b_Operations_answer 180 = .ok (.lconst 0, 1) := by decide +kernel
theorem d_Operations_answer_181 : decode b_Operations_answer 181 = .ok (.lreturn, 1) := by decide +kernel
theorem d_Operations_answer_182 : decode b_Operations_answer 182 = .ok (.iload 5, 2) := by decide +kernel
theorem d_Operations_answer_184 : decode b_Operations_answer 184 = .ok (.aload 7, 2) := by decide +kernel
theorem d_Operations_answer_186 : decode b_Operations_answer 186 = .ok (.iload 6, 2) := by decide +kernel
theorem d_Operations_answer_188 : decode b_Operations_answer 188 = .ok (.lload_n 1, 1) := by decide +kernel
theorem d_Operations_answer_189 : decode b_Operations_answer 189 = .ok (.invokestatic 60, 3) := by decide +kernel
theorem d_Operations_answer_192 : decode b_Operations_answer 192 = .ok (.iload 6, 2) := by decide +kernel
theorem d_Operations_answer_194 : decode b_Operations_answer 194 = .ok (.lload_n 3, 1) := by decide +kernel
theorem d_Operations_answer_195 : decode b_Operations_answer 195 = .ok (.invokestatic 60, 3) := by decide +kernel
theorem d_Operations_answer_198 : decode b_Operations_answer 198 = .ok (.invokestatic 68, 3) := by decide +kernel
theorem d_Operations_answer_201 : decode b_Operations_answer 201 = .ok (.lreturn, 1) := by decide +kernel
abbrev b_Throwable_init : ByteArray := prog_22_method_1_code
def y_Throwable_init : MethodName := ⟨"java/lang/Throwable", "<init>", "()V"⟩
theorem d_Throwable_init_0 : decode b_Throwable_init 0 = .ok (.aload_n 0, 1) := by decide +kernel
theorem d_Throwable_init_1 : decode b_Throwable_init 1 = .ok (.invokespecial 1, 3) := by decide +kernel
theorem d_Throwable_init_4 : decode b_Throwable_init 4 = .ok (.aload_n 0, 1) := by decide +kernel
theorem d_Throwable_init_5 : decode b_Throwable_init 5 = .ok (.aload_n 0, 1) := by decide +kernel
theorem d_Throwable_init_6 : decode b_Throwable_init 6 = .ok (.putfield 7, 3) := by decide +kernel
theorem d_Throwable_init_9 : decode b_Throwable_init 9 = .ok (.aload_n 0, 1) := by decide +kernel
theorem d_Throwable_init_10 : decode b_Throwable_init 10 = .ok (.getstatic 13, 3) := by decide +kernel
theorem d_Throwable_init_13 : decode b_Throwable_init 13 = .ok (.putfield 17, 3) := by decide +kernel
theorem d_Throwable_init_16 : decode b_Throwable_init 16 = .ok (.aload_n 0, 1) := by decide +kernel
theorem d_Throwable_init_17 : decode b_Throwable_init 17 = .ok (.getstatic 20, 3) := by decide +kernel
theorem d_Throwable_init_20 : decode b_Throwable_init 20 = .ok (.putfield 24, 3) := by decide +kernel
theorem d_Throwable_init_23 : decode b_Throwable_init 23 = .ok (.aload_n 0, 1) := by decide +kernel
theorem d_Throwable_init_24 : decode b_Throwable_init 24 = .ok (.invokevirtual 27, 3) := by decide +kernel
theorem d_Throwable_init_27 : decode b_Throwable_init 27 = .ok (.pop, 1) := by decide +kernel
theorem d_Throwable_init_28 : decode b_Throwable_init 28 = .ok (.return_, 1) := by decide +kernel
abbrev b_IllegalArgumentException_init : ByteArray := prog_15_method_2_code
def y_IllegalArgumentException_init : MethodName := ⟨"java/lang/IllegalArgumentException", "<init>", "(Ljava/lang/String;)V"⟩
theorem d_IllegalArgumentException_init_0 : decode b_IllegalArgumentException_init 0 = .ok (.aload_n 0, 1) := by decide +kernel
theorem d_IllegalArgumentException_init_1 : decode b_IllegalArgumentException_init 1 = .ok (.aload_n 1, 1) := by decide +kernel
theorem d_IllegalArgumentException_init_2 : decode b_IllegalArgumentException_init 2 = .ok (.invokespecial 7, 3) := by decide +kernel
theorem d_IllegalArgumentException_init_5 : decode b_IllegalArgumentException_init 5 = .ok (.return_, 1) := by decide +kernel
abbrev b_RuntimeException_init : ByteArray := prog_20_method_2_code
def y_RuntimeException_init : MethodName := ⟨"java/lang/RuntimeException", "<init>", "(Ljava/lang/String;)V"⟩
theorem d_RuntimeException_init_0 : decode b_RuntimeException_init 0 = .ok (.aload_n 0, 1) := by decide +kernel
theorem d_RuntimeException_init_1 : decode b_RuntimeException_init 1 = .ok (.aload_n 1, 1) := by decide +kernel
theorem d_RuntimeException_init_2 : decode b_RuntimeException_init 2 = .ok (.invokespecial 7, 3) := by decide +kernel
theorem d_RuntimeException_init_5 : decode b_RuntimeException_init 5 = .ok (.return_, 1) := by decide +kernel
abbrev b_Exception_init : ByteArray := prog_14_method_2_code
def y_Exception_init : MethodName := ⟨"java/lang/Exception", "<init>", "(Ljava/lang/String;)V"⟩
theorem d_Exception_init_0 : decode b_Exception_init 0 = .ok (.aload_n 0, 1) := by decide +kernel
theorem d_Exception_init_1 : decode b_Exception_init 1 = .ok (.aload_n 1, 1) := by decide +kernel
theorem d_Exception_init_2 : decode b_Exception_init 2 = .ok (.invokespecial 7, 3) := by decide +kernel
theorem d_Exception_init_5 : decode b_Exception_init 5 = .ok (.return_, 1) := by decide +kernel
abbrev b_Throwable_init2 : ByteArray := prog_22_method_2_code
def y_Throwable_init2 : MethodName := ⟨"java/lang/Throwable", "<init>", "(Ljava/lang/String;)V"⟩
theorem d_Throwable_init2_0 : decode b_Throwable_init2 0 = .ok (.aload_n 0, 1) := by decide +kernel
theorem d_Throwable_init2_1 : decode b_Throwable_init2 1 = .ok (.invokespecial 1, 3) := by decide +kernel
theorem d_Throwable_init2_4 : decode b_Throwable_init2 4 = .ok (.aload_n 0, 1) := by decide +kernel
theorem d_Throwable_init2_5 : decode b_Throwable_init2 5 = .ok (.aload_n 0, 1) := by decide +kernel
theorem d_Throwable_init2_6 : decode b_Throwable_init2 6 = .ok (.putfield 7, 3) := by decide +kernel
theorem d_Throwable_init2_9 : decode b_Throwable_init2 9 = .ok (.aload_n 0, 1) := by decide +kernel
theorem d_Throwable_init2_10 : decode b_Throwable_init2 10 = .ok (.getstatic 13, 3) := by decide +kernel
theorem d_Throwable_init2_13 : decode b_Throwable_init2 13 = .ok (.putfield 17, 3) := by decide +kernel
theorem d_Throwable_init2_16 : decode b_Throwable_init2 16 = .ok (.aload_n 0, 1) := by decide +kernel
theorem d_Throwable_init2_17 : decode b_Throwable_init2 17 = .ok (.getstatic 20, 3) := by decide +kernel
theorem d_Throwable_init2_20 : decode b_Throwable_init2 20 = .ok (.putfield 24, 3) := by decide +kernel
theorem d_Throwable_init2_23 : decode b_Throwable_init2 23 = .ok (.aload_n 0, 1) := by decide +kernel
theorem d_Throwable_init2_24 : decode b_Throwable_init2 24 = .ok (.invokevirtual 27, 3) := by decide +kernel
theorem d_Throwable_init2_27 : decode b_Throwable_init2 27 = .ok (.pop, 1) := by decide +kernel
theorem d_Throwable_init2_28 : decode b_Throwable_init2 28 = .ok (.aload_n 0, 1) := by decide +kernel
theorem d_Throwable_init2_29 : decode b_Throwable_init2 29 = .ok (.aload_n 1, 1) := by decide +kernel
theorem d_Throwable_init2_30 : decode b_Throwable_init2 30 = .ok (.putfield 31, 3) := by decide +kernel
theorem d_Throwable_init2_33 : decode b_Throwable_init2 33 = .ok (.return_, 1) := by decide +kernel
abbrev b_Conversions_toFloat : ByteArray := prog_3_method_3_code
def y_Conversions_toFloat : MethodName := ⟨"BitArithmetic$Conversions", "toFloat", "(IJ)J"⟩
theorem d_Conversions_toFloat_0 : decode b_Conversions_toFloat 0 = .ok (.iload_n 0, 1) := by decide +kernel
theorem d_Conversions_toFloat_1 : decode b_Conversions_toFloat 1 = .ok (.tableswitch 146 178 186 #[51, 64, 77, 85, 93, 104, 117, 130, 138], 51) := by decide +kernel
theorem d_Conversions_toFloat_52 : decode b_Conversions_toFloat 52 = .ok (.getstatic 7, 3) := by decide +kernel
theorem d_Conversions_toFloat_55 : decode b_Conversions_toFloat 55 = .ok (.bipush 32, 2) := by decide +kernel
theorem d_Conversions_toFloat_57 : decode b_Conversions_toFloat 57 = .ok (.lload_n 1, 1) := by decide +kernel
theorem d_Conversions_toFloat_58 : decode b_Conversions_toFloat 58 = .ok (.invokestatic 22, 3) := by decide +kernel
theorem d_Conversions_toFloat_61 : decode b_Conversions_toFloat 61 = .ok (.invokestatic 31, 3) := by decide +kernel
theorem d_Conversions_toFloat_64 : decode b_Conversions_toFloat 64 = .ok (.lreturn, 1) := by decide +kernel
theorem d_Conversions_toFloat_65 : decode b_Conversions_toFloat 65 = .ok (.getstatic 7, 3) := by decide +kernel
theorem d_Conversions_toFloat_68 : decode b_Conversions_toFloat 68 = .ok (.bipush 32, 2) := by decide +kernel
theorem d_Conversions_toFloat_70 : decode b_Conversions_toFloat 70 = .ok (.lload_n 1, 1) := by decide +kernel
theorem d_Conversions_toFloat_71 : decode b_Conversions_toFloat 71 = .ok (.invokestatic 28, 3) := by decide +kernel
theorem d_Conversions_toFloat_74 : decode b_Conversions_toFloat 74 = .ok (.invokestatic 35, 3) := by decide +kernel
theorem d_Conversions_toFloat_77 : decode b_Conversions_toFloat 77 = .ok (.lreturn, 1) := by decide +kernel
theorem d_Conversions_toFloat_78 : decode b_Conversions_toFloat 78 = .ok (.getstatic 7, 3) := by decide +kernel
theorem d_Conversions_toFloat_81 : decode b_Conversions_toFloat 81 = .ok (.lload_n 1, 1) := by decide +kernel
theorem d_Conversions_toFloat_82 : decode b_Conversions_toFloat 82 = .ok (.invokestatic 31, 3) := by decide +kernel
theorem d_Conversions_toFloat_85 : decode b_Conversions_toFloat 85 = .ok (.lreturn, 1) := by decide +kernel
theorem d_Conversions_toFloat_86 : decode b_Conversions_toFloat 86 = .ok (.getstatic 7, 3) := by decide +kernel
theorem d_Conversions_toFloat_89 : decode b_Conversions_toFloat 89 = .ok (.lload_n 1, 1) := by decide +kernel
theorem d_Conversions_toFloat_90 : decode b_Conversions_toFloat 90 = .ok (.invokestatic 35, 3) := by decide +kernel
theorem d_Conversions_toFloat_93 : decode b_Conversions_toFloat 93 = .ok (.lreturn, 1) := by decide +kernel
theorem d_Conversions_toFloat_94 : decode b_Conversions_toFloat 94 = .ok (.getstatic 19, 3) := by decide +kernel
theorem d_Conversions_toFloat_97 : decode b_Conversions_toFloat 97 = .ok (.lload_n 1, 1) := by decide +kernel
theorem d_Conversions_toFloat_98 : decode b_Conversions_toFloat 98 = .ok (.getstatic 7, 3) := by decide +kernel
theorem d_Conversions_toFloat_101 : decode b_Conversions_toFloat 101 = .ok (.invokestatic 38, 3) := by decide +kernel
theorem d_Conversions_toFloat_104 : decode b_Conversions_toFloat 104 = .ok (.lreturn, 1) := by decide +kernel
theorem d_Conversions_toFloat_105 : decode b_Conversions_toFloat 105 = .ok (.getstatic 19, 3) := by decide +kernel
theorem d_Conversions_toFloat_108 : decode b_Conversions_toFloat 108 = .ok (.bipush 32, 2) := by decide +kernel
theorem d_Conversions_toFloat_110 : decode b_Conversions_toFloat 110 = .ok (.lload_n 1, 1) := by decide +kernel
theorem d_Conversions_toFloat_111 : decode b_Conversions_toFloat 111 = .ok (.invokestatic 22, 3) := by decide +kernel
theorem d_Conversions_toFloat_114 : decode b_Conversions_toFloat 114 = .ok (.invokestatic 31, 3) := by decide +kernel
theorem d_Conversions_toFloat_117 : decode b_Conversions_toFloat 117 = .ok (.lreturn, 1) := by decide +kernel
theorem d_Conversions_toFloat_118 : decode b_Conversions_toFloat 118 = .ok (.getstatic 19, 3) := by decide +kernel
theorem d_Conversions_toFloat_121 : decode b_Conversions_toFloat 121 = .ok (.bipush 32, 2) := by decide +kernel
theorem d_Conversions_toFloat_123 : decode b_Conversions_toFloat 123 = .ok (.lload_n 1, 1) := by decide +kernel
theorem d_Conversions_toFloat_124 : decode b_Conversions_toFloat 124 = .ok (.invokestatic 28, 3) := by decide +kernel
theorem d_Conversions_toFloat_127 : decode b_Conversions_toFloat 127 = .ok (.invokestatic 35, 3) := by decide +kernel
theorem d_Conversions_toFloat_130 : decode b_Conversions_toFloat 130 = .ok (.lreturn, 1) := by decide +kernel
theorem d_Conversions_toFloat_131 : decode b_Conversions_toFloat 131 = .ok (.getstatic 19, 3) := by decide +kernel
theorem d_Conversions_toFloat_134 : decode b_Conversions_toFloat 134 = .ok (.lload_n 1, 1) := by decide +kernel
theorem d_Conversions_toFloat_135 : decode b_Conversions_toFloat 135 = .ok (.invokestatic 31, 3) := by decide +kernel
theorem d_Conversions_toFloat_138 : decode b_Conversions_toFloat 138 = .ok (.lreturn, 1) := by decide +kernel
theorem d_Conversions_toFloat_139 : decode b_Conversions_toFloat 139 = .ok (.getstatic 19, 3) := by decide +kernel
theorem d_Conversions_toFloat_142 : decode b_Conversions_toFloat 142 = .ok (.lload_n 1, 1) := by decide +kernel
theorem d_Conversions_toFloat_143 : decode b_Conversions_toFloat 143 = .ok (.invokestatic 35, 3) := by decide +kernel
theorem d_Conversions_toFloat_146 : decode b_Conversions_toFloat 146 = .ok (.lreturn, 1) := by decide +kernel
theorem d_Conversions_toFloat_147 : decode b_Conversions_toFloat 147 = .ok (.getstatic 7, 3) := by decide +kernel
theorem d_Conversions_toFloat_150 : decode b_Conversions_toFloat 150 = .ok (.bipush 32, 2) := by decide +kernel
theorem d_Conversions_toFloat_152 : decode b_Conversions_toFloat 152 = .ok (.lload_n 1, 1) := by decide +kernel
theorem d_Conversions_toFloat_153 : decode b_Conversions_toFloat 153 = .ok (.invokestatic 28, 3) := by decide +kernel
theorem d_Conversions_toFloat_156 : decode b_Conversions_toFloat 156 = .ok (.getstatic 19, 3) := by decide +kernel
theorem d_Conversions_toFloat_159 : decode b_Conversions_toFloat 159 = .ok (.invokestatic 38, 3) := by decide +kernel
theorem d_Conversions_toFloat_162 : decode b_Conversions_toFloat 162 = .ok (.lreturn, 1) := by decide +kernel
abbrev b_Bits_signed : ByteArray := prog_2_method_3_code
def y_Bits_signed : MethodName := ⟨"BitArithmetic$Bits", "signed", "(IJ)J"⟩
theorem d_Bits_signed_0 : decode b_Bits_signed 0 = .ok (.iload_n 0, 1) := by decide +kernel
theorem d_Bits_signed_1 : decode b_Bits_signed 1 = .ok (.bipush 32, 2) := by decide +kernel
theorem d_Bits_signed_3 : decode b_Bits_signed 3 = .ok (.if_icmp .ne 9, 3) := by decide +kernel
theorem d_Bits_signed_6 : decode b_Bits_signed 6 = .ok (.lload_n 1, 1) := by decide +kernel
theorem d_Bits_signed_7 : decode b_Bits_signed 7 = .ok (.l2i, 1) := by decide +kernel
theorem d_Bits_signed_8 : decode b_Bits_signed 8 = .ok (.i2l, 1) := by decide +kernel
theorem d_Bits_signed_9 : decode b_Bits_signed 9 = .ok (.goto 4, 3) := by decide +kernel
theorem d_Bits_signed_12 : decode b_Bits_signed 12 = .ok (.lload_n 1, 1) := by decide +kernel
theorem d_Bits_signed_13 : decode b_Bits_signed 13 = .ok (.lreturn, 1) := by decide +kernel
abbrev b_Conversions_fromSigned : ByteArray := prog_3_method_4_code
def y_Conversions_fromSigned : MethodName := ⟨"BitArithmetic$Conversions", "fromSigned", "(LBitArithmetic$Form;J)J"⟩
theorem d_Conversions_fromSigned_0 : decode b_Conversions_fromSigned 0 = .ok (.lload_n 1, 1) := by decide +kernel
theorem d_Conversions_fromSigned_1 : decode b_Conversions_fromSigned 1 = .ok (.lconst 0, 1) := by decide +kernel
theorem d_Conversions_fromSigned_2 : decode b_Conversions_fromSigned 2 = .ok (.lcmp, 1) := by decide +kernel
theorem d_Conversions_fromSigned_3 : decode b_Conversions_fromSigned 3 = .ok (.ifCond .ge 17, 3) := by decide +kernel
theorem d_Conversions_fromSigned_6 : decode b_Conversions_fromSigned 6 = .ok (.aload_n 0, 1) := by decide +kernel
theorem d_Conversions_fromSigned_7 : decode b_Conversions_fromSigned 7 = .ok (.aload_n 0, 1) := by decide +kernel
theorem d_Conversions_fromSigned_8 : decode b_Conversions_fromSigned 8 = .ok (.getfield 42, 3) := by decide +kernel
theorem d_Conversions_fromSigned_11 : decode b_Conversions_fromSigned 11 = .ok (.lload_n 1, 1) := by decide +kernel
theorem d_Conversions_fromSigned_12 : decode b_Conversions_fromSigned 12 = .ok (.lneg, 1) := by decide +kernel
theorem d_Conversions_fromSigned_13 : decode b_Conversions_fromSigned 13 = .ok (.iconst 0, 1) := by decide +kernel
theorem d_Conversions_fromSigned_14 : decode b_Conversions_fromSigned 14 = .ok (.invokevirtual 46, 3) := by decide +kernel
theorem d_Conversions_fromSigned_17 : decode b_Conversions_fromSigned 17 = .ok (.goto 8, 3) := by decide +kernel
theorem d_Conversions_fromSigned_20 : decode b_Conversions_fromSigned 20 = .ok (.aload_n 0, 1) := by decide +kernel
theorem d_Conversions_fromSigned_21 : decode b_Conversions_fromSigned 21 = .ok (.lload_n 1, 1) := by decide +kernel
theorem d_Conversions_fromSigned_22 : decode b_Conversions_fromSigned 22 = .ok (.invokestatic 35, 3) := by decide +kernel
theorem d_Conversions_fromSigned_25 : decode b_Conversions_fromSigned 25 = .ok (.lreturn, 1) := by decide +kernel
abbrev b_Form_rounded : ByteArray := prog_5_method_12_code
def y_Form_rounded : MethodName := ⟨"BitArithmetic$Form", "rounded", "(JJI)J"⟩
theorem d_Form_rounded_0 : decode b_Form_rounded 0 = .ok (.lload_n 3, 1) := by decide +kernel
theorem d_Form_rounded_1 : decode b_Form_rounded 1 = .ok (.invokestatic 63, 3) := by decide +kernel
theorem d_Form_rounded_4 : decode b_Form_rounded 4 = .ok (.istore 6, 2) := by decide +kernel
theorem d_Form_rounded_6 : decode b_Form_rounded 6 = .ok (.lload_n 3, 1) := by decide +kernel
theorem d_Form_rounded_7 : decode b_Form_rounded 7 = .ok (.iload 6, 2) := by decide +kernel
theorem d_Form_rounded_9 : decode b_Form_rounded 9 = .ok (.lshl, 1) := by decide +kernel
theorem d_Form_rounded_10 : decode b_Form_rounded 10 = .ok (.lstore 7, 2) := by decide +kernel
theorem d_Form_rounded_12 : decode b_Form_rounded 12 = .ok (.iload 5, 2) := by decide +kernel
theorem d_Form_rounded_14 : decode b_Form_rounded 14 = .ok (.iload 6, 2) := by decide +kernel
theorem d_Form_rounded_16 : decode b_Form_rounded 16 = .ok (.isub, 1) := by decide +kernel
theorem d_Form_rounded_17 : decode b_Form_rounded 17 = .ok (.bipush 63, 2) := by decide +kernel
theorem d_Form_rounded_19 : decode b_Form_rounded 19 = .ok (.iadd, 1) := by decide +kernel
theorem d_Form_rounded_20 : decode b_Form_rounded 20 = .ok (.aload_n 0, 1) := by decide +kernel
theorem d_Form_rounded_21 : decode b_Form_rounded 21 = .ok (.getfield 36, 3) := by decide +kernel
theorem d_Form_rounded_24 : decode b_Form_rounded 24 = .ok (.iadd, 1) := by decide +kernel
theorem d_Form_rounded_25 : decode b_Form_rounded 25 = .ok (.istore 9, 2) := by decide +kernel
theorem d_Form_rounded_27 : decode b_Form_rounded 27 = .ok (.iload 9, 2) := by decide +kernel
theorem d_Form_rounded_29 : decode b_Form_rounded 29 = .ok (.iconst 2, 1) := by decide +kernel
theorem d_Form_rounded_30 : decode b_Form_rounded 30 = .ok (.aload_n 0, 1) := by decide +kernel
theorem d_Form_rounded_31 : decode b_Form_rounded 31 = .ok (.getfield 36, 3) := by decide +kernel
theorem d_Form_rounded_34 : decode b_Form_rounded 34 = .ok (.imul, 1) := by decide +kernel
theorem d_Form_rounded_35 : decode b_Form_rounded 35 = .ok (.if_icmp .le 10, 3) := by decide +kernel
theorem d_Form_rounded_38 : decode b_Form_rounded 38 = .ok (.lload_n 1, 1) := by decide +kernel
theorem d_Form_rounded_39 : decode b_Form_rounded 39 = .ok (.aload_n 0, 1) := by decide +kernel
theorem d_Form_rounded_40 : decode b_Form_rounded 40 = .ok (.getfield 43, 3) := by decide +kernel
theorem d_Form_rounded_43 : decode b_Form_rounded 43 = .ok (.lor, 1) := by decide +kernel
theorem d_Form_rounded_44 : decode b_Form_rounded 44 = .ok (.lreturn, 1) := by decide +kernel
theorem d_Form_rounded_45 : decode b_Form_rounded 45 = .ok (.iconst 1, 1) := by decide +kernel
theorem d_Form_rounded_46 : decode b_Form_rounded 46 = .ok (.iload 9, 2) := by decide +kernel
theorem d_Form_rounded_48 : decode b_Form_rounded 48 = .ok (.isub, 1) := by decide +kernel
theorem d_Form_rounded_49 : decode b_Form_rounded 49 = .ok (.iconst 0, 1) := by decide +kernel
theorem d_Form_rounded_50 : decode b_Form_rounded 50 = .ok (.invokestatic 57, 3) := by decide +kernel
theorem d_Form_rounded_53 : decode b_Form_rounded 53 = .ok (.istore 10, 2) := by decide +kernel
theorem d_Form_rounded_55 : decode b_Form_rounded 55 = .ok (.bipush 63, 2) := by decide +kernel
theorem d_Form_rounded_57 : decode b_Form_rounded 57 = .ok (.aload_n 0, 1) := by decide +kernel
theorem d_Form_rounded_58 : decode b_Form_rounded 58 = .ok (.getfield 33, 3) := by decide +kernel
theorem d_Form_rounded_61 : decode b_Form_rounded 61 = .ok (.isub, 1) := by decide +kernel
theorem d_Form_rounded_62 : decode b_Form_rounded 62 = .ok (.iload 10, 2) := by decide +kernel
theorem d_Form_rounded_64 : decode b_Form_rounded 64 = .ok (.iadd, 1) := by decide +kernel
theorem d_Form_rounded_65 : decode b_Form_rounded 65 = .ok (.istore 11, 2) := by decide +kernel
theorem d_Form_rounded_67 : decode b_Form_rounded 67 = .ok (.iload 11, 2) := by decide +kernel
theorem d_Form_rounded_69 : decode b_Form_rounded 69 = .ok (.bipush 64, 2) := by decide +kernel
theorem d_Form_rounded_71 : decode b_Form_rounded 71 = .ok (.if_icmp .le 5, 3) := by decide +kernel
theorem d_Form_rounded_74 : decode b_Form_rounded 74 = .ok (.lload_n 1, 1) := by decide +kernel
theorem d_Form_rounded_75 : decode b_Form_rounded 75 = .ok (.lreturn, 1) := by decide +kernel
theorem d_Form_rounded_76 : decode b_Form_rounded 76 = .ok (.iload 11, 2) := by decide +kernel
theorem d_Form_rounded_78 : decode b_Form_rounded 78 = .ok (.bipush 64, 2) := by decide +kernel
theorem d_Form_rounded_80 : decode b_Form_rounded 80 = .ok (.if_icmp .ne 7, 3) := by decide +kernel
theorem d_Form_rounded_83 : decode b_Form_rounded 83 = .ok (.lconst 0, 1) := by decide +kernel
theorem d_Form_rounded_84 : decode b_Form_rounded 84 = .ok (.goto 8, 3) := by decide +kernel
theorem d_Form_rounded_87 : decode b_Form_rounded 87 = .ok (.lload 7, 2) := by decide +kernel
theorem d_Form_rounded_89 : decode b_Form_rounded 89 = .ok (.iload 11, 2) := by decide +kernel
theorem d_Form_rounded_91 : decode b_Form_rounded 91 = .ok (.lushr, 1) := by decide +kernel
theorem d_Form_rounded_92 : decode b_Form_rounded 92 = .ok (.lstore 12, 2) := by decide +kernel
theorem d_Form_rounded_94 : decode b_Form_rounded 94 = .ok (.iload 9, 2) := by decide +kernel
theorem d_Form_rounded_96 : decode b_Form_rounded 96 = .ok (.iconst 1, 1) := by decide +kernel
theorem d_Form_rounded_97 : decode b_Form_rounded 97 = .ok (.invokestatic 57, 3) := by decide +kernel
theorem d_Form_rounded_100 : decode b_Form_rounded 100 = .ok (.iconst 1, 1) := by decide +kernel
theorem d_Form_rounded_101 : decode b_Form_rounded 101 = .ok (.isub, 1) := by decide +kernel
theorem d_Form_rounded_102 : decode b_Form_rounded 102 = .ok (.i2l, 1) := by decide +kernel
theorem d_Form_rounded_103 : decode b_Form_rounded 103 = .ok (.aload_n 0, 1) := by decide +kernel
theorem d_Form_rounded_104 : decode b_Form_rounded 104 = .ok (.getfield 33, 3) := by decide +kernel
theorem d_Form_rounded_107 : decode b_Form_rounded 107 = .ok (.lshl, 1) := by decide +kernel
theorem d_Form_rounded_108 : decode b_Form_rounded 108 = .ok (.lstore 14, 2) := by decide +kernel
theorem d_Form_rounded_110 : decode b_Form_rounded 110 = .ok (.lload_n 1, 1) := by decide +kernel
theorem d_Form_rounded_111 : decode b_Form_rounded 111 = .ok (.lload 14, 2) := by decide +kernel
theorem d_Form_rounded_113 : decode b_Form_rounded 113 = .ok (.lload 12, 2) := by decide +kernel
theorem d_Form_rounded_115 : decode b_Form_rounded 115 = .ok (.lload 7, 2) := by decide +kernel
theorem d_Form_rounded_117 : decode b_Form_rounded 117 = .ok (.bipush 64, 2) := by decide +kernel
theorem d_Form_rounded_119 : decode b_Form_rounded 119 = .ok (.iload 11, 2) := by decide +kernel
theorem d_Form_rounded_121 : decode b_Form_rounded 121 = .ok (.isub, 1) := by decide +kernel
theorem d_Form_rounded_122 : decode b_Form_rounded 122 = .ok (.lshl, 1) := by decide +kernel
theorem d_Form_rounded_123 : decode b_Form_rounded 123 = .ok (.invokestatic 68, 3) := by decide +kernel
theorem d_Form_rounded_126 : decode b_Form_rounded 126 = .ok (.ladd, 1) := by decide +kernel
theorem d_Form_rounded_127 : decode b_Form_rounded 127 = .ok (.lor, 1) := by decide +kernel
theorem d_Form_rounded_128 : decode b_Form_rounded 128 = .ok (.lreturn, 1) := by decide +kernel
abbrev b_Long_numberOfLeadingZeros : ByteArray := prog_18_method_48_code
def y_Long_numberOfLeadingZeros : MethodName := ⟨"java/lang/Long", "numberOfLeadingZeros", "(J)I"⟩
theorem d_Long_numberOfLeadingZeros_0 : decode b_Long_numberOfLeadingZeros 0 = .ok (.lload_n 0, 1) := by decide +kernel
theorem d_Long_numberOfLeadingZeros_1 : decode b_Long_numberOfLeadingZeros 1 = .ok (.bipush 32, 2) := by decide +kernel
theorem d_Long_numberOfLeadingZeros_3 : decode b_Long_numberOfLeadingZeros 3 = .ok (.lushr, 1) := by decide +kernel
theorem d_Long_numberOfLeadingZeros_4 : decode b_Long_numberOfLeadingZeros 4 = .ok (.l2i, 1) := by decide +kernel
theorem d_Long_numberOfLeadingZeros_5 : decode b_Long_numberOfLeadingZeros 5 = .ok (.istore_n 2, 1) := by decide +kernel
theorem d_Long_numberOfLeadingZeros_6 : decode b_Long_numberOfLeadingZeros 6 = .ok (.iload_n 2, 1) := by decide +kernel
theorem d_Long_numberOfLeadingZeros_7 : decode b_Long_numberOfLeadingZeros 7 = .ok (.ifCond .ne 14, 3) := by decide +kernel
theorem d_Long_numberOfLeadingZeros_10 : decode b_Long_numberOfLeadingZeros 10 = .ok (.bipush 32, 2) := by decide +kernel
theorem d_Long_numberOfLeadingZeros_12 : decode b_Long_numberOfLeadingZeros 12 = .ok (.lload_n 0, 1) := by decide +kernel
theorem d_Long_numberOfLeadingZeros_13 : decode b_Long_numberOfLeadingZeros 13 = .ok (.l2i, 1) := by decide +kernel
theorem d_Long_numberOfLeadingZeros_14 : decode b_Long_numberOfLeadingZeros 14 = .ok (.invokestatic 308, 3) := by decide +kernel
theorem d_Long_numberOfLeadingZeros_17 : decode b_Long_numberOfLeadingZeros 17 = .ok (.iadd, 1) := by decide +kernel
theorem d_Long_numberOfLeadingZeros_18 : decode b_Long_numberOfLeadingZeros 18 = .ok (.goto 7, 3) := by decide +kernel
theorem d_Long_numberOfLeadingZeros_21 : decode b_Long_numberOfLeadingZeros 21 = .ok (.iload_n 2, 1) := by decide +kernel
theorem d_Long_numberOfLeadingZeros_22 : decode b_Long_numberOfLeadingZeros 22 = .ok (.invokestatic 308, 3) := by decide +kernel
theorem d_Long_numberOfLeadingZeros_25 : decode b_Long_numberOfLeadingZeros 25 = .ok (.ireturn, 1) := by decide +kernel
abbrev b_Integer_numberOfLeadingZeros : ByteArray := prog_17_method_47_code
def y_Integer_numberOfLeadingZeros : MethodName := ⟨"java/lang/Integer", "numberOfLeadingZeros", "(I)I"⟩
theorem d_Integer_numberOfLeadingZeros_0 : decode b_Integer_numberOfLeadingZeros 0 = .ok (.iload_n 0, 1) := by decide +kernel
theorem d_Integer_numberOfLeadingZeros_1 : decode b_Integer_numberOfLeadingZeros 1 = .ok (.ifCond .gt 14, 3) := by decide +kernel
theorem d_Integer_numberOfLeadingZeros_4 : decode b_Integer_numberOfLeadingZeros 4 = .ok (.iload_n 0, 1) := by decide +kernel
theorem d_Integer_numberOfLeadingZeros_5 : decode b_Integer_numberOfLeadingZeros 5 = .ok (.ifCond .ne 8, 3) := by decide +kernel
theorem d_Integer_numberOfLeadingZeros_8 : decode b_Integer_numberOfLeadingZeros 8 = .ok (.bipush 32, 2) := by decide +kernel
theorem d_Integer_numberOfLeadingZeros_10 : decode b_Integer_numberOfLeadingZeros 10 = .ok (.goto 4, 3) := by decide +kernel
theorem d_Integer_numberOfLeadingZeros_13 : decode b_Integer_numberOfLeadingZeros 13 = .ok (.iconst 0, 1) := by decide +kernel
theorem d_Integer_numberOfLeadingZeros_14 : decode b_Integer_numberOfLeadingZeros 14 = .ok (.ireturn, 1) := by decide +kernel
theorem d_Integer_numberOfLeadingZeros_15 : decode b_Integer_numberOfLeadingZeros 15 = .ok (.bipush 31, 2) := by decide +kernel
theorem d_Integer_numberOfLeadingZeros_17 : decode b_Integer_numberOfLeadingZeros 17 = .ok (.istore_n 1, 1) := by decide +kernel
theorem d_Integer_numberOfLeadingZeros_18 : decode b_Integer_numberOfLeadingZeros 18 = .ok (.iload_n 0, 1) := by decide +kernel
theorem d_Integer_numberOfLeadingZeros_19 : decode b_Integer_numberOfLeadingZeros 19 = .ok (.ldc_w 264, 3) := by decide +kernel
theorem d_Integer_numberOfLeadingZeros_22 : decode b_Integer_numberOfLeadingZeros 22 = .ok (.if_icmp .lt 11, 3) := by decide +kernel
theorem d_Integer_numberOfLeadingZeros_25 : decode b_Integer_numberOfLeadingZeros 25 = .ok (.iinc 1 (-16), 3) := by decide +kernel
theorem d_Integer_numberOfLeadingZeros_28 : decode b_Integer_numberOfLeadingZeros 28 = .ok (.iload_n 0, 1) := by decide +kernel
theorem d_Integer_numberOfLeadingZeros_29 : decode b_Integer_numberOfLeadingZeros 29 = .ok (.bipush 16, 2) := by decide +kernel
theorem d_Integer_numberOfLeadingZeros_31 : decode b_Integer_numberOfLeadingZeros 31 = .ok (.iushr, 1) := by decide +kernel
theorem d_Integer_numberOfLeadingZeros_32 : decode b_Integer_numberOfLeadingZeros 32 = .ok (.istore_n 0, 1) := by decide +kernel
theorem d_Integer_numberOfLeadingZeros_33 : decode b_Integer_numberOfLeadingZeros 33 = .ok (.iload_n 0, 1) := by decide +kernel
theorem d_Integer_numberOfLeadingZeros_34 : decode b_Integer_numberOfLeadingZeros 34 = .ok (.sipush 256, 3) := by decide +kernel
theorem d_Integer_numberOfLeadingZeros_37 : decode b_Integer_numberOfLeadingZeros 37 = .ok (.if_icmp .lt 11, 3) := by decide +kernel
theorem d_Integer_numberOfLeadingZeros_40 : decode b_Integer_numberOfLeadingZeros 40 = .ok (.iinc 1 (-8), 3) := by decide +kernel
theorem d_Integer_numberOfLeadingZeros_43 : decode b_Integer_numberOfLeadingZeros 43 = .ok (.iload_n 0, 1) := by decide +kernel
theorem d_Integer_numberOfLeadingZeros_44 : decode b_Integer_numberOfLeadingZeros 44 = .ok (.bipush 8, 2) := by decide +kernel
theorem d_Integer_numberOfLeadingZeros_46 : decode b_Integer_numberOfLeadingZeros 46 = .ok (.iushr, 1) := by decide +kernel
theorem d_Integer_numberOfLeadingZeros_47 : decode b_Integer_numberOfLeadingZeros 47 = .ok (.istore_n 0, 1) := by decide +kernel
theorem d_Integer_numberOfLeadingZeros_48 : decode b_Integer_numberOfLeadingZeros 48 = .ok (.iload_n 0, 1) := by decide +kernel
theorem d_Integer_numberOfLeadingZeros_49 : decode b_Integer_numberOfLeadingZeros 49 = .ok (.bipush 16, 2) := by decide +kernel
theorem d_Integer_numberOfLeadingZeros_51 : decode b_Integer_numberOfLeadingZeros 51 = .ok (.if_icmp .lt 10, 3) := by decide +kernel
theorem d_Integer_numberOfLeadingZeros_54 : decode b_Integer_numberOfLeadingZeros 54 = .ok (.iinc 1 (-4), 3) := by decide +kernel
theorem d_Integer_numberOfLeadingZeros_57 : decode b_Integer_numberOfLeadingZeros 57 = .ok (.iload_n 0, 1) := by decide +kernel
theorem d_Integer_numberOfLeadingZeros_58 : decode b_Integer_numberOfLeadingZeros 58 = .ok (.iconst 4, 1) := by decide +kernel
theorem d_Integer_numberOfLeadingZeros_59 : decode b_Integer_numberOfLeadingZeros 59 = .ok (.iushr, 1) := by decide +kernel
theorem d_Integer_numberOfLeadingZeros_60 : decode b_Integer_numberOfLeadingZeros 60 = .ok (.istore_n 0, 1) := by decide +kernel
theorem d_Integer_numberOfLeadingZeros_61 : decode b_Integer_numberOfLeadingZeros 61 = .ok (.iload_n 0, 1) := by decide +kernel
theorem d_Integer_numberOfLeadingZeros_62 : decode b_Integer_numberOfLeadingZeros 62 = .ok (.iconst 4, 1) := by decide +kernel
theorem d_Integer_numberOfLeadingZeros_63 : decode b_Integer_numberOfLeadingZeros 63 = .ok (.if_icmp .lt 10, 3) := by decide +kernel
theorem d_Integer_numberOfLeadingZeros_66 : decode b_Integer_numberOfLeadingZeros 66 = .ok (.iinc 1 (-2), 3) := by decide +kernel
theorem d_Integer_numberOfLeadingZeros_69 : decode b_Integer_numberOfLeadingZeros 69 = .ok (.iload_n 0, 1) := by decide +kernel
theorem d_Integer_numberOfLeadingZeros_70 : decode b_Integer_numberOfLeadingZeros 70 = .ok (.iconst 2, 1) := by decide +kernel
theorem d_Integer_numberOfLeadingZeros_71 : decode b_Integer_numberOfLeadingZeros 71 = .ok (.iushr, 1) := by decide +kernel
theorem d_Integer_numberOfLeadingZeros_72 : decode b_Integer_numberOfLeadingZeros 72 = .ok (.istore_n 0, 1) := by decide +kernel
theorem d_Integer_numberOfLeadingZeros_73 : decode b_Integer_numberOfLeadingZeros 73 = .ok (.iload_n 1, 1) := by decide +kernel
theorem d_Integer_numberOfLeadingZeros_74 : decode b_Integer_numberOfLeadingZeros 74 = .ok (.iload_n 0, 1) := by decide +kernel
theorem d_Integer_numberOfLeadingZeros_75 : decode b_Integer_numberOfLeadingZeros 75 = .ok (.iconst 1, 1) := by decide +kernel
theorem d_Integer_numberOfLeadingZeros_76 : decode b_Integer_numberOfLeadingZeros 76 = .ok (.iushr, 1) := by decide +kernel
theorem d_Integer_numberOfLeadingZeros_77 : decode b_Integer_numberOfLeadingZeros 77 = .ok (.isub, 1) := by decide +kernel
theorem d_Integer_numberOfLeadingZeros_78 : decode b_Integer_numberOfLeadingZeros 78 = .ok (.ireturn, 1) := by decide +kernel
abbrev b_Math_max : ByteArray := prog_19_method_65_code
def y_Math_max : MethodName := ⟨"java/lang/Math", "max", "(II)I"⟩
theorem d_Math_max_0 : decode b_Math_max 0 = .ok (.iload_n 0, 1) := by decide +kernel
theorem d_Math_max_1 : decode b_Math_max 1 = .ok (.iload_n 1, 1) := by decide +kernel
theorem d_Math_max_2 : decode b_Math_max 2 = .ok (.if_icmp .lt 7, 3) := by decide +kernel
theorem d_Math_max_5 : decode b_Math_max 5 = .ok (.iload_n 0, 1) := by decide +kernel
theorem d_Math_max_6 : decode b_Math_max 6 = .ok (.goto 4, 3) := by decide +kernel
theorem d_Math_max_9 : decode b_Math_max 9 = .ok (.iload_n 1, 1) := by decide +kernel
theorem d_Math_max_10 : decode b_Math_max 10 = .ok (.ireturn, 1) := by decide +kernel
abbrev b_Form_nearest : ByteArray := prog_5_method_13_code
def y_Form_nearest : MethodName := ⟨"BitArithmetic$Form", "nearest", "(JJ)J"⟩
theorem d_Form_nearest_0 : decode b_Form_nearest 0 = .ok (.lload_n 2, 1) := by decide +kernel
theorem d_Form_nearest_1 : decode b_Form_nearest 1 = .ok (.lconst 0, 1) := by decide +kernel
theorem d_Form_nearest_2 : decode b_Form_nearest 2 = .ok (.lcmp, 1) := by decide +kernel
theorem d_Form_nearest_3 : decode b_Form_nearest 3 = .ok (.ifCond .lt 5, 3) := by decide +kernel
theorem d_Form_nearest_6 : decode b_Form_nearest 6 = .ok (.lload_n 0, 1) := by decide +kernel
theorem d_Form_nearest_7 : decode b_Form_nearest 7 = .ok (.lreturn, 1) := by decide +kernel
theorem d_Form_nearest_8 : decode b_Form_nearest 8 = .ok (.lload_n 2, 1) := by decide +kernel
theorem d_Form_nearest_9 : decode b_Form_nearest 9 = .ok (.iconst 1, 1) := by decide +kernel
theorem d_Form_nearest_10 : decode b_Form_nearest 10 = .ok (.lshl, 1) := by decide +kernel
theorem d_Form_nearest_11 : decode b_Form_nearest 11 = .ok (.lconst 0, 1) := by decide +kernel
theorem d_Form_nearest_12 : decode b_Form_nearest 12 = .ok (.lcmp, 1) := by decide +kernel
theorem d_Form_nearest_13 : decode b_Form_nearest 13 = .ok (.ifCond .ne 7, 3) := by decide +kernel
theorem d_Form_nearest_16 : decode b_Form_nearest 16 = .ok (.iconst 1, 1) := by decide +kernel
theorem d_Form_nearest_17 : decode b_Form_nearest 17 = .ok (.goto 4, 3) := by decide +kernel
theorem d_Form_nearest_20 : decode b_Form_nearest 20 = .ok (.iconst 0, 1) := by decide +kernel
theorem d_Form_nearest_21 : decode b_Form_nearest 21 = .ok (.istore 4, 2) := by decide +kernel
theorem d_Form_nearest_23 : decode b_Form_nearest 23 = .ok (.iload 4, 2) := by decide +kernel
theorem d_Form_nearest_25 : decode b_Form_nearest 25 = .ok (.ifCond .eq 11, 3) := by decide +kernel
theorem d_Form_nearest_28 : decode b_Form_nearest 28 = .ok (.lload_n 0, 1) := by decide +kernel
theorem d_Form_nearest_29 : decode b_Form_nearest 29 = .ok (.lload_n 0, 1) := by decide +kernel
theorem d_Form_nearest_30 : decode b_Form_nearest 30 = .ok (.lconst 1, 1) := by decide +kernel
theorem d_Form_nearest_31 : decode b_Form_nearest 31 = .ok (.land, 1) := by decide +kernel
theorem d_Form_nearest_32 : decode b_Form_nearest 32 = .ok (.ladd, 1) := by decide +kernel
theorem d_Form_nearest_33 : decode b_Form_nearest 33 = .ok (.goto 6, 3) := by decide +kernel
theorem d_Form_nearest_36 : decode b_Form_nearest 36 = .ok (.lload_n 0, 1) := by decide +kernel
theorem d_Form_nearest_37 : decode b_Form_nearest 37 = .ok (.lconst 1, 1) := by decide +kernel
theorem d_Form_nearest_38 : decode b_Form_nearest 38 = .ok (.ladd, 1) := by decide +kernel
theorem d_Form_nearest_39 : decode b_Form_nearest 39 = .ok (.lreturn, 1) := by decide +kernel
abbrev b_Conversions_fromUnsigned : ByteArray := prog_3_method_5_code
def y_Conversions_fromUnsigned : MethodName := ⟨"BitArithmetic$Conversions", "fromUnsigned", "(LBitArithmetic$Form;J)J"⟩
theorem d_Conversions_fromUnsigned_0 : decode b_Conversions_fromUnsigned 0 = .ok (.lload_n 1, 1) := by decide +kernel
theorem d_Conversions_fromUnsigned_1 : decode b_Conversions_fromUnsigned 1 = .ok (.lconst 0, 1) := by decide +kernel
theorem d_Conversions_fromUnsigned_2 : decode b_Conversions_fromUnsigned 2 = .ok (.lcmp, 1) := by decide +kernel
theorem d_Conversions_fromUnsigned_3 : decode b_Conversions_fromUnsigned 3 = .ok (.ifCond .ne 7, 3) := by decide +kernel
theorem d_Conversions_fromUnsigned_6 : decode b_Conversions_fromUnsigned 6 = .ok (.lconst 0, 1) := by decide +kernel
theorem d_Conversions_fromUnsigned_7 : decode b_Conversions_fromUnsigned 7 = .ok (.goto 10, 3) := by decide +kernel
theorem d_Conversions_fromUnsigned_10 : decode b_Conversions_fromUnsigned 10 = .ok (.aload_n 0, 1) := by decide +kernel
theorem d_Conversions_fromUnsigned_11 : decode b_Conversions_fromUnsigned 11 = .ok (.lconst 0, 1) := by decide +kernel
theorem d_Conversions_fromUnsigned_12 : decode b_Conversions_fromUnsigned 12 = .ok (.lload_n 1, 1) := by decide +kernel
theorem d_Conversions_fromUnsigned_13 : decode b_Conversions_fromUnsigned 13 = .ok (.iconst 0, 1) := by decide +kernel
theorem d_Conversions_fromUnsigned_14 : decode b_Conversions_fromUnsigned 14 = .ok (.invokevirtual 46, 3) := by decide +kernel
theorem d_Conversions_fromUnsigned_17 : decode b_Conversions_fromUnsigned 17 = .ok (.lreturn, 1) := by decide +kernel
abbrev b_Bits_lowest : ByteArray := prog_2_method_2_code
def y_Bits_lowest : MethodName := ⟨"BitArithmetic$Bits", "lowest", "(IJ)J"⟩
theorem d_Bits_lowest_0 : decode b_Bits_lowest 0 = .ok (.iload_n 0, 1) := by decide +kernel
theorem d_Bits_lowest_1 : decode b_Bits_lowest 1 = .ok (.bipush 32, 2) := by decide +kernel
theorem d_Bits_lowest_3 : decode b_Bits_lowest 3 = .ok (.if_icmp .ne 11, 3) := by decide +kernel
theorem d_Bits_lowest_6 : decode b_Bits_lowest 6 = .ok (.lload_n 1, 1) := by decide +kernel
theorem d_Bits_lowest_7 : decode b_Bits_lowest 7 = .ok (.ldc2_w 7, 3) := by decide +kernel
theorem d_Bits_lowest_10 : decode b_Bits_lowest 10 = .ok (.land, 1) := by decide +kernel
theorem d_Bits_lowest_11 : decode b_Bits_lowest 11 = .ok (.goto 4, 3) := by decide +kernel
theorem d_Bits_lowest_14 : decode b_Bits_lowest 14 = .ok (.lload_n 1, 1) := by decide +kernel
theorem d_Bits_lowest_15 : decode b_Bits_lowest 15 = .ok (.lreturn, 1) := by decide +kernel
abbrev b_Conversions_fromFloat : ByteArray := prog_3_method_6_code
def y_Conversions_fromFloat : MethodName := ⟨"BitArithmetic$Conversions", "fromFloat", "(LBitArithmetic$Form;JLBitArithmetic$Form;)J"⟩
theorem d_Conversions_fromFloat_0 : decode b_Conversions_fromFloat 0 = .ok (.aload_n 0, 1) := by decide +kernel
theorem d_Conversions_fromFloat_1 : decode b_Conversions_fromFloat 1 = .ok (.lload_n 1, 1) := by decide +kernel
theorem d_Conversions_fromFloat_2 : decode b_Conversions_fromFloat 2 = .ok (.invokevirtual 50, 3) := by decide +kernel
theorem d_Conversions_fromFloat_5 : decode b_Conversions_fromFloat 5 = .ok (.ifCond .eq 8, 3) := by decide +kernel
theorem d_Conversions_fromFloat_8 : decode b_Conversions_fromFloat 8 = .ok (.aload_n 3, 1) := by decide +kernel
theorem d_Conversions_fromFloat_9 : decode b_Conversions_fromFloat 9 = .ok (.getfield 54, 3) := by decide +kernel
theorem d_Conversions_fromFloat_12 : decode b_Conversions_fromFloat 12 = .ok (.lreturn, 1) := by decide +kernel
theorem d_Conversions_fromFloat_13 : decode b_Conversions_fromFloat 13 = .ok (.aload_n 0, 1) := by decide +kernel
theorem d_Conversions_fromFloat_14 : decode b_Conversions_fromFloat 14 = .ok (.lload_n 1, 1) := by decide +kernel
theorem d_Conversions_fromFloat_15 : decode b_Conversions_fromFloat 15 = .ok (.invokevirtual 57, 3) := by decide +kernel
theorem d_Conversions_fromFloat_18 : decode b_Conversions_fromFloat 18 = .ok (.lconst 0, 1) := by decide +kernel
theorem d_Conversions_fromFloat_19 : decode b_Conversions_fromFloat 19 = .ok (.lcmp, 1) := by decide +kernel
theorem d_Conversions_fromFloat_20 : decode b_Conversions_fromFloat 20 = .ok (.ifCond .ne 7, 3) := by decide +kernel
theorem d_Conversions_fromFloat_23 : decode b_Conversions_fromFloat 23 = .ok (.lconst 0, 1) := by decide +kernel
theorem d_Conversions_fromFloat_24 : decode b_Conversions_fromFloat 24 = .ok (.goto 7, 3) := by decide +kernel
theorem d_Conversions_fromFloat_27 : decode b_Conversions_fromFloat 27 = .ok (.aload_n 3, 1) := by decide +kernel
theorem d_Conversions_fromFloat_28 : decode b_Conversions_fromFloat 28 = .ok (.getfield 42, 3) := by decide +kernel
theorem d_Conversions_fromFloat_31 : decode b_Conversions_fromFloat 31 = .ok (.lstore 4, 2) := by decide +kernel
theorem d_Conversions_fromFloat_33 : decode b_Conversions_fromFloat 33 = .ok (.aload_n 0, 1) := by decide +kernel
theorem d_Conversions_fromFloat_34 : decode b_Conversions_fromFloat 34 = .ok (.lload_n 1, 1) := by decide +kernel
theorem d_Conversions_fromFloat_35 : decode b_Conversions_fromFloat 35 = .ok (.invokevirtual 61, 3) := by decide +kernel
theorem d_Conversions_fromFloat_38 : decode b_Conversions_fromFloat 38 = .ok (.ifCond .eq 11, 3) := by decide +kernel
theorem d_Conversions_fromFloat_41 : decode b_Conversions_fromFloat 41 = .ok (.lload 4, 2) := by decide +kernel
theorem d_Conversions_fromFloat_43 : decode b_Conversions_fromFloat 43 = .ok (.aload_n 3, 1) := by decide +kernel
theorem d_Conversions_fromFloat_44 : decode b_Conversions_fromFloat 44 = .ok (.getfield 64, 3) := by decide +kernel
theorem d_Conversions_fromFloat_47 : decode b_Conversions_fromFloat 47 = .ok (.lor, 1) := by decide +kernel
theorem d_Conversions_fromFloat_48 : decode b_Conversions_fromFloat 48 = .ok (.lreturn, 1) := by decide +kernel
theorem d_Conversions_fromFloat_49 : decode b_Conversions_fromFloat 49 = .ok (.aload_n 0, 1) := by decide +kernel
theorem d_Conversions_fromFloat_50 : decode b_Conversions_fromFloat 50 = .ok (.lload_n 1, 1) := by decide +kernel
theorem d_Conversions_fromFloat_51 : decode b_Conversions_fromFloat 51 = .ok (.invokevirtual 67, 3) := by decide +kernel
theorem d_Conversions_fromFloat_54 : decode b_Conversions_fromFloat 54 = .ok (.ifCond .eq 6, 3) := by decide +kernel
theorem d_Conversions_fromFloat_57 : decode b_Conversions_fromFloat 57 = .ok (.lload 4, 2) := by decide +kernel
theorem d_Conversions_fromFloat_59 : decode b_Conversions_fromFloat 59 = .ok (.lreturn, 1) := by decide +kernel
theorem d_Conversions_fromFloat_60 : decode b_Conversions_fromFloat 60 = .ok (.aload_n 3, 1) := by decide +kernel
theorem d_Conversions_fromFloat_61 : decode b_Conversions_fromFloat 61 = .ok (.lload 4, 2) := by decide +kernel
theorem d_Conversions_fromFloat_63 : decode b_Conversions_fromFloat 63 = .ok (.aload_n 0, 1) := by decide +kernel
theorem d_Conversions_fromFloat_64 : decode b_Conversions_fromFloat 64 = .ok (.lload_n 1, 1) := by decide +kernel
theorem d_Conversions_fromFloat_65 : decode b_Conversions_fromFloat 65 = .ok (.invokevirtual 70, 3) := by decide +kernel
theorem d_Conversions_fromFloat_68 : decode b_Conversions_fromFloat 68 = .ok (.aload_n 0, 1) := by decide +kernel
theorem d_Conversions_fromFloat_69 : decode b_Conversions_fromFloat 69 = .ok (.lload_n 1, 1) := by decide +kernel
theorem d_Conversions_fromFloat_70 : decode b_Conversions_fromFloat 70 = .ok (.invokevirtual 73, 3) := by decide +kernel
theorem d_Conversions_fromFloat_73 : decode b_Conversions_fromFloat 73 = .ok (.invokevirtual 46, 3) := by decide +kernel
theorem d_Conversions_fromFloat_76 : decode b_Conversions_fromFloat 76 = .ok (.lreturn, 1) := by decide +kernel
abbrev b_Form_isNoNumber : ByteArray := prog_5_method_6_code
def y_Form_isNoNumber : MethodName := ⟨"BitArithmetic$Form", "isNoNumber", "(J)Z"⟩
theorem d_Form_isNoNumber_0 : decode b_Form_isNoNumber 0 = .ok (.aload_n 0, 1) := by decide +kernel
theorem d_Form_isNoNumber_1 : decode b_Form_isNoNumber 1 = .ok (.lload_n 1, 1) := by decide +kernel
theorem d_Form_isNoNumber_2 : decode b_Form_isNoNumber 2 = .ok (.invokevirtual 49, 3) := by decide +kernel
theorem d_Form_isNoNumber_5 : decode b_Form_isNoNumber 5 = .ok (.aload_n 0, 1) := by decide +kernel
theorem d_Form_isNoNumber_6 : decode b_Form_isNoNumber 6 = .ok (.getfield 43, 3) := by decide +kernel
theorem d_Form_isNoNumber_9 : decode b_Form_isNoNumber 9 = .ok (.lcmp, 1) := by decide +kernel
theorem d_Form_isNoNumber_10 : decode b_Form_isNoNumber 10 = .ok (.ifCond .le 7, 3) := by decide +kernel
theorem d_Form_isNoNumber_13 : decode b_Form_isNoNumber 13 = .ok (.iconst 1, 1) := by decide +kernel
theorem d_Form_isNoNumber_14 : decode b_Form_isNoNumber 14 = .ok (.goto 4, 3) := by decide +kernel
theorem d_Form_isNoNumber_17 : decode b_Form_isNoNumber 17 = .ok (.iconst 0, 1) := by decide +kernel
theorem d_Form_isNoNumber_18 : decode b_Form_isNoNumber 18 = .ok (.ireturn, 1) := by decide +kernel
abbrev b_Form_withoutSign : ByteArray := prog_5_method_5_code
def y_Form_withoutSign : MethodName := ⟨"BitArithmetic$Form", "withoutSign", "(J)J"⟩
theorem d_Form_withoutSign_0 : decode b_Form_withoutSign 0 = .ok (.lload_n 1, 1) := by decide +kernel
theorem d_Form_withoutSign_1 : decode b_Form_withoutSign 1 = .ok (.aload_n 0, 1) := by decide +kernel
theorem d_Form_withoutSign_2 : decode b_Form_withoutSign 2 = .ok (.getfield 39, 3) := by decide +kernel
theorem d_Form_withoutSign_5 : decode b_Form_withoutSign 5 = .ok (.lconst 1, 1) := by decide +kernel
theorem d_Form_withoutSign_6 : decode b_Form_withoutSign 6 = .ok (.lsub, 1) := by decide +kernel
theorem d_Form_withoutSign_7 : decode b_Form_withoutSign 7 = .ok (.land, 1) := by decide +kernel
theorem d_Form_withoutSign_8 : decode b_Form_withoutSign 8 = .ok (.lreturn, 1) := by decide +kernel
abbrev b_Form_sign : ByteArray := prog_5_method_4_code
def y_Form_sign : MethodName := ⟨"BitArithmetic$Form", "sign", "(J)J"⟩
theorem d_Form_sign_0 : decode b_Form_sign 0 = .ok (.lload_n 1, 1) := by decide +kernel
theorem d_Form_sign_1 : decode b_Form_sign 1 = .ok (.aload_n 0, 1) := by decide +kernel
theorem d_Form_sign_2 : decode b_Form_sign 2 = .ok (.getfield 39, 3) := by decide +kernel
theorem d_Form_sign_5 : decode b_Form_sign 5 = .ok (.land, 1) := by decide +kernel
theorem d_Form_sign_6 : decode b_Form_sign 6 = .ok (.lreturn, 1) := by decide +kernel
abbrev b_Form_isInfinite : ByteArray := prog_5_method_7_code
def y_Form_isInfinite : MethodName := ⟨"BitArithmetic$Form", "isInfinite", "(J)Z"⟩
theorem d_Form_isInfinite_0 : decode b_Form_isInfinite 0 = .ok (.aload_n 0, 1) := by decide +kernel
theorem d_Form_isInfinite_1 : decode b_Form_isInfinite 1 = .ok (.lload_n 1, 1) := by decide +kernel
theorem d_Form_isInfinite_2 : decode b_Form_isInfinite 2 = .ok (.invokevirtual 49, 3) := by decide +kernel
theorem d_Form_isInfinite_5 : decode b_Form_isInfinite 5 = .ok (.aload_n 0, 1) := by decide +kernel
theorem d_Form_isInfinite_6 : decode b_Form_isInfinite 6 = .ok (.getfield 43, 3) := by decide +kernel
theorem d_Form_isInfinite_9 : decode b_Form_isInfinite 9 = .ok (.lcmp, 1) := by decide +kernel
theorem d_Form_isInfinite_10 : decode b_Form_isInfinite 10 = .ok (.ifCond .ne 7, 3) := by decide +kernel
theorem d_Form_isInfinite_13 : decode b_Form_isInfinite 13 = .ok (.iconst 1, 1) := by decide +kernel
theorem d_Form_isInfinite_14 : decode b_Form_isInfinite 14 = .ok (.goto 4, 3) := by decide +kernel
theorem d_Form_isInfinite_17 : decode b_Form_isInfinite 17 = .ok (.iconst 0, 1) := by decide +kernel
theorem d_Form_isInfinite_18 : decode b_Form_isInfinite 18 = .ok (.ireturn, 1) := by decide +kernel
abbrev b_Form_isZero : ByteArray := prog_5_method_8_code
def y_Form_isZero : MethodName := ⟨"BitArithmetic$Form", "isZero", "(J)Z"⟩
theorem d_Form_isZero_0 : decode b_Form_isZero 0 = .ok (.aload_n 0, 1) := by decide +kernel
theorem d_Form_isZero_1 : decode b_Form_isZero 1 = .ok (.lload_n 1, 1) := by decide +kernel
theorem d_Form_isZero_2 : decode b_Form_isZero 2 = .ok (.invokevirtual 49, 3) := by decide +kernel
theorem d_Form_isZero_5 : decode b_Form_isZero 5 = .ok (.lconst 0, 1) := by decide +kernel
theorem d_Form_isZero_6 : decode b_Form_isZero 6 = .ok (.lcmp, 1) := by decide +kernel
theorem d_Form_isZero_7 : decode b_Form_isZero 7 = .ok (.ifCond .ne 7, 3) := by decide +kernel
theorem d_Form_isZero_10 : decode b_Form_isZero 10 = .ok (.iconst 1, 1) := by decide +kernel
theorem d_Form_isZero_11 : decode b_Form_isZero 11 = .ok (.goto 4, 3) := by decide +kernel
theorem d_Form_isZero_14 : decode b_Form_isZero 14 = .ok (.iconst 0, 1) := by decide +kernel
theorem d_Form_isZero_15 : decode b_Form_isZero 15 = .ok (.ireturn, 1) := by decide +kernel
abbrev b_Form_significand : ByteArray := prog_5_method_10_code
def y_Form_significand : MethodName := ⟨"BitArithmetic$Form", "significand", "(J)J"⟩
theorem d_Form_significand_0 : decode b_Form_significand 0 = .ok (.lconst 1, 1) := by decide +kernel
theorem d_Form_significand_1 : decode b_Form_significand 1 = .ok (.aload_n 0, 1) := by decide +kernel
theorem d_Form_significand_2 : decode b_Form_significand 2 = .ok (.getfield 33, 3) := by decide +kernel
theorem d_Form_significand_5 : decode b_Form_significand 5 = .ok (.lshl, 1) := by decide +kernel
theorem d_Form_significand_6 : decode b_Form_significand 6 = .ok (.lstore_n 3, 1) := by decide +kernel
theorem d_Form_significand_7 : decode b_Form_significand 7 = .ok (.lload_n 1, 1) := by decide +kernel
theorem d_Form_significand_8 : decode b_Form_significand 8 = .ok (.lload_n 3, 1) := by decide +kernel
theorem d_Form_significand_9 : decode b_Form_significand 9 = .ok (.lconst 1, 1) := by decide +kernel
theorem d_Form_significand_10 : decode b_Form_significand 10 = .ok (.lsub, 1) := by decide +kernel
theorem d_Form_significand_11 : decode b_Form_significand 11 = .ok (.land, 1) := by decide +kernel
theorem d_Form_significand_12 : decode b_Form_significand 12 = .ok (.lstore 5, 2) := by decide +kernel
theorem d_Form_significand_14 : decode b_Form_significand 14 = .ok (.aload_n 0, 1) := by decide +kernel
theorem d_Form_significand_15 : decode b_Form_significand 15 = .ok (.lload_n 1, 1) := by decide +kernel
theorem d_Form_significand_16 : decode b_Form_significand 16 = .ok (.invokevirtual 53, 3) := by decide +kernel
theorem d_Form_significand_19 : decode b_Form_significand 19 = .ok (.ifCond .ne 8, 3) := by decide +kernel
theorem d_Form_significand_22 : decode b_Form_significand 22 = .ok (.lload 5, 2) := by decide +kernel
theorem d_Form_significand_24 : decode b_Form_significand 24 = .ok (.goto 7, 3) := by decide +kernel
theorem d_Form_significand_27 : decode b_Form_significand 27 = .ok (.lload 5, 2) := by decide +kernel
theorem d_Form_significand_29 : decode b_Form_significand 29 = .ok (.lload_n 3, 1) := by decide +kernel
theorem d_Form_significand_30 : decode b_Form_significand 30 = .ok (.lor, 1) := by decide +kernel
theorem d_Form_significand_31 : decode b_Form_significand 31 = .ok (.lreturn, 1) := by decide +kernel
abbrev b_Form_exponent : ByteArray := prog_5_method_9_code
def y_Form_exponent : MethodName := ⟨"BitArithmetic$Form", "exponent", "(J)I"⟩
theorem d_Form_exponent_0 : decode b_Form_exponent 0 = .ok (.lload_n 1, 1) := by decide +kernel
theorem d_Form_exponent_1 : decode b_Form_exponent 1 = .ok (.aload_n 0, 1) := by decide +kernel
theorem d_Form_exponent_2 : decode b_Form_exponent 2 = .ok (.getfield 39, 3) := by decide +kernel
theorem d_Form_exponent_5 : decode b_Form_exponent 5 = .ok (.lconst 1, 1) := by decide +kernel
theorem d_Form_exponent_6 : decode b_Form_exponent 6 = .ok (.lsub, 1) := by decide +kernel
theorem d_Form_exponent_7 : decode b_Form_exponent 7 = .ok (.land, 1) := by decide +kernel
theorem d_Form_exponent_8 : decode b_Form_exponent 8 = .ok (.aload_n 0, 1) := by decide +kernel
theorem d_Form_exponent_9 : decode b_Form_exponent 9 = .ok (.getfield 33, 3) := by decide +kernel
theorem d_Form_exponent_12 : decode b_Form_exponent 12 = .ok (.lushr, 1) := by decide +kernel
theorem d_Form_exponent_13 : decode b_Form_exponent 13 = .ok (.l2i, 1) := by decide +kernel
theorem d_Form_exponent_14 : decode b_Form_exponent 14 = .ok (.ireturn, 1) := by decide +kernel
abbrev b_Form_scale : ByteArray := prog_5_method_11_code
def y_Form_scale : MethodName := ⟨"BitArithmetic$Form", "scale", "(J)I"⟩
theorem d_Form_scale_0 : decode b_Form_scale 0 = .ok (.aload_n 0, 1) := by decide +kernel
theorem d_Form_scale_1 : decode b_Form_scale 1 = .ok (.lload_n 1, 1) := by decide +kernel
theorem d_Form_scale_2 : decode b_Form_scale 2 = .ok (.invokevirtual 53, 3) := by decide +kernel
theorem d_Form_scale_5 : decode b_Form_scale 5 = .ok (.iconst 1, 1) := by decide +kernel
theorem d_Form_scale_6 : decode b_Form_scale 6 = .ok (.invokestatic 57, 3) := by decide +kernel
theorem d_Form_scale_9 : decode b_Form_scale 9 = .ok (.aload_n 0, 1) := by decide +kernel
theorem d_Form_scale_10 : decode b_Form_scale 10 = .ok (.getfield 36, 3) := by decide +kernel
theorem d_Form_scale_13 : decode b_Form_scale 13 = .ok (.isub, 1) := by decide +kernel
theorem d_Form_scale_14 : decode b_Form_scale 14 = .ok (.aload_n 0, 1) := by decide +kernel
theorem d_Form_scale_15 : decode b_Form_scale 15 = .ok (.getfield 33, 3) := by decide +kernel
theorem d_Form_scale_18 : decode b_Form_scale 18 = .ok (.isub, 1) := by decide +kernel
theorem d_Form_scale_19 : decode b_Form_scale 19 = .ok (.ireturn, 1) := by decide +kernel
abbrev b_Conversions_toWholeOrBits : ByteArray := prog_3_method_2_code
def y_Conversions_toWholeOrBits : MethodName := ⟨"BitArithmetic$Conversions", "toWholeOrBits", "(IJ)J"⟩
theorem d_Conversions_toWholeOrBits_0 : decode b_Conversions_toWholeOrBits 0 = .ok (.iload_n 0, 1) := by decide +kernel
theorem d_Conversions_toWholeOrBits_1 : decode b_Conversions_toWholeOrBits 1 = .ok (.tableswitch 210 168 191 #[111, 122, 133, 144, 155, 210, 162, 173, 184, 195, 210, 210, 210, 210, 210, 210, 210, 210, 210, 210, 210, 206, 210, 208], 111) := by decide +kernel
theorem d_Conversions_toWholeOrBits_112 : decode b_Conversions_toWholeOrBits 112 = .ok (.getstatic 7, 3) := by decide +kernel
theorem d_Conversions_toWholeOrBits_115 : decode b_Conversions_toWholeOrBits 115 = .ok (.lload_n 1, 1) := by decide +kernel
theorem d_Conversions_toWholeOrBits_116 : decode b_Conversions_toWholeOrBits 116 = .ok (.bipush 32, 2) := by decide +kernel
theorem d_Conversions_toWholeOrBits_118 : decode b_Conversions_toWholeOrBits 118 = .ok (.iconst 1, 1) := by decide +kernel
theorem d_Conversions_toWholeOrBits_119 : decode b_Conversions_toWholeOrBits 119 = .ok (.invokestatic 13, 3) := by decide +kernel
theorem d_Conversions_toWholeOrBits_122 : decode b_Conversions_toWholeOrBits 122 = .ok (.lreturn, 1) := by decide +kernel
theorem d_Conversions_toWholeOrBits_123 : decode b_Conversions_toWholeOrBits 123 = .ok (.getstatic 7, 3) := by decide +kernel
theorem d_Conversions_toWholeOrBits_126 : decode b_Conversions_toWholeOrBits 126 = .ok (.lload_n 1, 1) := by decide +kernel
theorem d_Conversions_toWholeOrBits_127 : decode b_Conversions_toWholeOrBits 127 = .ok (.bipush 32, 2) := by decide +kernel
theorem d_Conversions_toWholeOrBits_129 : decode b_Conversions_toWholeOrBits 129 = .ok (.iconst 0, 1) := by decide +kernel
theorem d_Conversions_toWholeOrBits_130 : decode b_Conversions_toWholeOrBits 130 = .ok (.invokestatic 13, 3) := by decide +kernel
theorem d_Conversions_toWholeOrBits_133 : decode b_Conversions_toWholeOrBits 133 = .ok (.lreturn, 1) := by decide +kernel
theorem d_Conversions_toWholeOrBits_134 : decode b_Conversions_toWholeOrBits 134 = .ok (.getstatic 19, 3) := by decide +kernel
theorem d_Conversions_toWholeOrBits_137 : decode b_Conversions_toWholeOrBits 137 = .ok (.lload_n 1, 1) := by decide +kernel
theorem d_Conversions_toWholeOrBits_138 : decode b_Conversions_toWholeOrBits 138 = .ok (.bipush 32, 2) := by decide +kernel
theorem d_Conversions_toWholeOrBits_140 : decode b_Conversions_toWholeOrBits 140 = .ok (.iconst 1, 1) := by decide +kernel
theorem d_Conversions_toWholeOrBits_141 : decode b_Conversions_toWholeOrBits 141 = .ok (.invokestatic 13, 3) := by decide +kernel
theorem d_Conversions_toWholeOrBits_144 : decode b_Conversions_toWholeOrBits 144 = .ok (.lreturn, 1) := by decide +kernel
theorem d_Conversions_toWholeOrBits_145 : decode b_Conversions_toWholeOrBits 145 = .ok (.getstatic 19, 3) := by decide +kernel
theorem d_Conversions_toWholeOrBits_148 : decode b_Conversions_toWholeOrBits 148 = .ok (.lload_n 1, 1) := by decide +kernel
theorem d_Conversions_toWholeOrBits_149 : decode b_Conversions_toWholeOrBits 149 = .ok (.bipush 32, 2) := by decide +kernel
theorem d_Conversions_toWholeOrBits_151 : decode b_Conversions_toWholeOrBits 151 = .ok (.iconst 0, 1) := by decide +kernel
theorem d_Conversions_toWholeOrBits_152 : decode b_Conversions_toWholeOrBits 152 = .ok (.invokestatic 13, 3) := by decide +kernel
theorem d_Conversions_toWholeOrBits_155 : decode b_Conversions_toWholeOrBits 155 = .ok (.lreturn, 1) := by decide +kernel
theorem d_Conversions_toWholeOrBits_156 : decode b_Conversions_toWholeOrBits 156 = .ok (.bipush 32, 2) := by decide +kernel
theorem d_Conversions_toWholeOrBits_158 : decode b_Conversions_toWholeOrBits 158 = .ok (.lload_n 1, 1) := by decide +kernel
theorem d_Conversions_toWholeOrBits_159 : decode b_Conversions_toWholeOrBits 159 = .ok (.invokestatic 22, 3) := by decide +kernel
theorem d_Conversions_toWholeOrBits_162 : decode b_Conversions_toWholeOrBits 162 = .ok (.lreturn, 1) := by decide +kernel
theorem d_Conversions_toWholeOrBits_163 : decode b_Conversions_toWholeOrBits 163 = .ok (.getstatic 7, 3) := by decide +kernel
theorem d_Conversions_toWholeOrBits_166 : decode b_Conversions_toWholeOrBits 166 = .ok (.lload_n 1, 1) := by decide +kernel
theorem d_Conversions_toWholeOrBits_167 : decode b_Conversions_toWholeOrBits 167 = .ok (.bipush 64, 2) := by decide +kernel
theorem d_Conversions_toWholeOrBits_169 : decode b_Conversions_toWholeOrBits 169 = .ok (.iconst 1, 1) := by decide +kernel
theorem d_Conversions_toWholeOrBits_170 : decode b_Conversions_toWholeOrBits 170 = .ok (.invokestatic 13, 3) := by decide +kernel
theorem d_Conversions_toWholeOrBits_173 : decode b_Conversions_toWholeOrBits 173 = .ok (.lreturn, 1) := by decide +kernel
theorem d_Conversions_toWholeOrBits_174 : decode b_Conversions_toWholeOrBits 174 = .ok (.getstatic 7, 3) := by decide +kernel
theorem d_Conversions_toWholeOrBits_177 : decode b_Conversions_toWholeOrBits 177 = .ok (.lload_n 1, 1) := by decide +kernel
theorem d_Conversions_toWholeOrBits_178 : decode b_Conversions_toWholeOrBits 178 = .ok (.bipush 64, 2) := by decide +kernel
theorem d_Conversions_toWholeOrBits_180 : decode b_Conversions_toWholeOrBits 180 = .ok (.iconst 0, 1) := by decide +kernel
theorem d_Conversions_toWholeOrBits_181 : decode b_Conversions_toWholeOrBits 181 = .ok (.invokestatic 13, 3) := by decide +kernel
theorem d_Conversions_toWholeOrBits_184 : decode b_Conversions_toWholeOrBits 184 = .ok (.lreturn, 1) := by decide +kernel
theorem d_Conversions_toWholeOrBits_185 : decode b_Conversions_toWholeOrBits 185 = .ok (.getstatic 19, 3) := by decide +kernel
theorem d_Conversions_toWholeOrBits_188 : decode b_Conversions_toWholeOrBits 188 = .ok (.lload_n 1, 1) := by decide +kernel
theorem d_Conversions_toWholeOrBits_189 : decode b_Conversions_toWholeOrBits 189 = .ok (.bipush 64, 2) := by decide +kernel
theorem d_Conversions_toWholeOrBits_191 : decode b_Conversions_toWholeOrBits 191 = .ok (.iconst 1, 1) := by decide +kernel
theorem d_Conversions_toWholeOrBits_192 : decode b_Conversions_toWholeOrBits 192 = .ok (.invokestatic 13, 3) := by decide +kernel
theorem d_Conversions_toWholeOrBits_195 : decode b_Conversions_toWholeOrBits 195 = .ok (.lreturn, 1) := by decide +kernel
theorem d_Conversions_toWholeOrBits_196 : decode b_Conversions_toWholeOrBits 196 = .ok (.getstatic 19, 3) := by decide +kernel
theorem d_Conversions_toWholeOrBits_199 : decode b_Conversions_toWholeOrBits 199 = .ok (.lload_n 1, 1) := by decide +kernel
theorem d_Conversions_toWholeOrBits_200 : decode b_Conversions_toWholeOrBits 200 = .ok (.bipush 64, 2) := by decide +kernel
theorem d_Conversions_toWholeOrBits_202 : decode b_Conversions_toWholeOrBits 202 = .ok (.iconst 0, 1) := by decide +kernel
theorem d_Conversions_toWholeOrBits_203 : decode b_Conversions_toWholeOrBits 203 = .ok (.invokestatic 13, 3) := by decide +kernel
theorem d_Conversions_toWholeOrBits_206 : decode b_Conversions_toWholeOrBits 206 = .ok (.lreturn, 1) := by decide +kernel
theorem d_Conversions_toWholeOrBits_207 : decode b_Conversions_toWholeOrBits 207 = .ok (.lload_n 1, 1) := by decide +kernel
theorem d_Conversions_toWholeOrBits_208 : decode b_Conversions_toWholeOrBits 208 = .ok (.lreturn, 1) := by decide +kernel
theorem d_Conversions_toWholeOrBits_209 : decode b_Conversions_toWholeOrBits 209 = .ok (.lload_n 1, 1) := by decide +kernel
theorem d_Conversions_toWholeOrBits_210 : decode b_Conversions_toWholeOrBits 210 = .ok (.lreturn, 1) := by decide +kernel
theorem d_Conversions_toWholeOrBits_211 : decode b_Conversions_toWholeOrBits 211 = .ok (.bipush 32, 2) := by decide +kernel
theorem d_Conversions_toWholeOrBits_213 : decode b_Conversions_toWholeOrBits 213 = .ok (.lload_n 1, 1) := by decide +kernel
theorem d_Conversions_toWholeOrBits_214 : decode b_Conversions_toWholeOrBits 214 = .ok (.invokestatic 28, 3) := by decide +kernel
theorem d_Conversions_toWholeOrBits_217 : decode b_Conversions_toWholeOrBits 217 = .ok (.lreturn, 1) := by decide +kernel
abbrev b_Conversions_cut : ByteArray := prog_3_method_7_code
def y_Conversions_cut : MethodName := ⟨"BitArithmetic$Conversions", "cut", "(LBitArithmetic$Form;JIZ)J"⟩
theorem d_Conversions_cut_0 : decode b_Conversions_cut 0 = .ok (.aload_n 0, 1) := by decide +kernel
theorem d_Conversions_cut_1 : decode b_Conversions_cut 1 = .ok (.getfield 77, 3) := by decide +kernel
theorem d_Conversions_cut_4 : decode b_Conversions_cut 4 = .ok (.lload_n 1, 1) := by decide +kernel
theorem d_Conversions_cut_5 : decode b_Conversions_cut 5 = .ok (.invokestatic 28, 3) := by decide +kernel
theorem d_Conversions_cut_8 : decode b_Conversions_cut 8 = .ok (.lstore 5, 2) := by decide +kernel
theorem d_Conversions_cut_10 : decode b_Conversions_cut 10 = .ok (.aload_n 0, 1) := by decide +kernel
theorem d_Conversions_cut_11 : decode b_Conversions_cut 11 = .ok (.lload 5, 2) := by decide +kernel
theorem d_Conversions_cut_13 : decode b_Conversions_cut 13 = .ok (.invokevirtual 50, 3) := by decide +kernel
theorem d_Conversions_cut_16 : decode b_Conversions_cut 16 = .ok (.ifCond .eq 13, 3) := by decide +kernel
theorem d_Conversions_cut_19 : decode b_Conversions_cut 19 = .ok (.new 81, 3) := by decide +kernel
theorem d_Conversions_cut_22 : decode b_Conversions_cut 22 = .ok (.dup, 1) := by decide +kernel
theorem d_Conversions_cut_23 : decode b_Conversions_cut 23 = .ok (.ldc 83, 2) := by decide +kernel
theorem d_Conversions_cut_25 : decode b_Conversions_cut 25 = .ok (.invokespecial 85, 3) := by decide +kernel
theorem d_Conversions_cut_28 : decode b_Conversions_cut 28 = .ok (.athrow, 1) := by decide +kernel
theorem d_Conversions_cut_29 : decode b_Conversions_cut 29 = .ok (.aload_n 0, 1) := by decide +kernel
theorem d_Conversions_cut_30 : decode b_Conversions_cut 30 = .ok (.lload 5, 2) := by decide +kernel
theorem d_Conversions_cut_32 : decode b_Conversions_cut 32 = .ok (.invokevirtual 57, 3) := by decide +kernel
theorem d_Conversions_cut_35 : decode b_Conversions_cut 35 = .ok (.lconst 0, 1) := by decide +kernel
theorem d_Conversions_cut_36 : decode b_Conversions_cut 36 = .ok (.lcmp, 1) := by decide +kernel
theorem d_Conversions_cut_37 : decode b_Conversions_cut 37 = .ok (.ifCond .eq 7, 3) := by decide +kernel
theorem d_Conversions_cut_40 : decode b_Conversions_cut 40 = .ok (.iconst 1, 1) := by decide +kernel
theorem d_Conversions_cut_41 : decode b_Conversions_cut 41 = .ok (.goto 4, 3) := by decide +kernel
theorem d_Conversions_cut_44 : decode b_Conversions_cut 44 = .ok (.iconst 0, 1) := by decide +kernel
theorem d_Conversions_cut_45 : decode b_Conversions_cut 45 = .ok (.istore 7, 2) := by decide +kernel
theorem d_Conversions_cut_47 : decode b_Conversions_cut 47 = .ok (.aload_n 0, 1) := by decide +kernel
theorem d_Conversions_cut_48 : decode b_Conversions_cut 48 = .ok (.lload 5, 2) := by decide +kernel
theorem d_Conversions_cut_50 : decode b_Conversions_cut 50 = .ok (.invokevirtual 88, 3) := by decide +kernel
theorem d_Conversions_cut_53 : decode b_Conversions_cut 53 = .ok (.aload_n 0, 1) := by decide +kernel
theorem d_Conversions_cut_54 : decode b_Conversions_cut 54 = .ok (.getfield 91, 3) := by decide +kernel
theorem d_Conversions_cut_57 : decode b_Conversions_cut 57 = .ok (.isub, 1) := by decide +kernel
theorem d_Conversions_cut_58 : decode b_Conversions_cut 58 = .ok (.bipush 64, 2) := by decide +kernel
theorem d_Conversions_cut_60 : decode b_Conversions_cut 60 = .ok (.if_icmp .lt 7, 3) := by decide +kernel
theorem d_Conversions_cut_63 : decode b_Conversions_cut 63 = .ok (.iconst 1, 1) := by decide +kernel
theorem d_Conversions_cut_64 : decode b_Conversions_cut 64 = .ok (.goto 4, 3) := by decide +kernel
theorem d_Conversions_cut_67 : decode b_Conversions_cut 67 = .ok (.iconst 0, 1) := by decide +kernel
theorem d_Conversions_cut_68 : decode b_Conversions_cut 68 = .ok (.istore 8, 2) := by decide +kernel
theorem d_Conversions_cut_70 : decode b_Conversions_cut 70 = .ok (.iload 8, 2) := by decide +kernel
theorem d_Conversions_cut_72 : decode b_Conversions_cut 72 = .ok (.ifCond .eq 7, 3) := by decide +kernel
theorem d_Conversions_cut_75 : decode b_Conversions_cut 75 = .ok (.lconst 0, 1) := by decide +kernel
theorem d_Conversions_cut_76 : decode b_Conversions_cut 76 = .ok (.goto 9, 3) := by decide +kernel
theorem d_Conversions_cut_79 : decode b_Conversions_cut 79 = .ok (.aload_n 0, 1) := by decide +kernel
theorem d_Conversions_cut_80 : decode b_Conversions_cut 80 = .ok (.lload 5, 2) := by decide +kernel
theorem d_Conversions_cut_82 : decode b_Conversions_cut 82 = .ok (.invokestatic 94, 3) := by decide +kernel
theorem d_Conversions_cut_85 : decode b_Conversions_cut 85 = .ok (.lstore 9, 2) := by decide +kernel
theorem d_Conversions_cut_87 : decode b_Conversions_cut 87 = .ok (.iload 8, 2) := by decide +kernel
theorem d_Conversions_cut_89 : decode b_Conversions_cut 89 = .ok (.ifCond .ne 19, 3) := by decide +kernel
theorem d_Conversions_cut_92 : decode b_Conversions_cut 92 = .ok (.lload 9, 2) := by decide +kernel
theorem d_Conversions_cut_94 : decode b_Conversions_cut 94 = .ok (.iload 7, 2) := by decide +kernel
theorem d_Conversions_cut_96 : decode b_Conversions_cut 96 = .ok (.iload_n 3, 1) := by decide +kernel
theorem d_Conversions_cut_97 : decode b_Conversions_cut 97 = .ok (.iload 4, 2) := by decide +kernel
theorem d_Conversions_cut_99 : decode b_Conversions_cut 99 = .ok (.invokestatic 97, 3) := by decide +kernel
theorem d_Conversions_cut_102 : decode b_Conversions_cut 102 = .ok (.invokestatic 101, 3) := by decide +kernel
theorem d_Conversions_cut_105 : decode b_Conversions_cut 105 = .ok (.ifCond .le 13, 3) := by decide +kernel
theorem d_Conversions_cut_108 : decode b_Conversions_cut 108 = .ok (.new 107, 3) := by decide +kernel
theorem d_Conversions_cut_111 : decode b_Conversions_cut 111 = .ok (.dup, 1) := by decide +kernel
theorem d_Conversions_cut_112 : decode b_Conversions_cut 112 = .ok (.ldc 109, 2) := by decide +kernel
theorem d_Conversions_cut_114 : decode b_Conversions_cut 114 = .ok (.invokespecial 111, 3) := by decide +kernel
theorem d_Conversions_cut_117 : decode b_Conversions_cut 117 = .ok (.athrow, 1) := by decide +kernel
theorem d_Conversions_cut_118 : decode b_Conversions_cut 118 = .ok (.iload_n 3, 1) := by decide +kernel
theorem d_Conversions_cut_119 : decode b_Conversions_cut 119 = .ok (.iload 7, 2) := by decide +kernel
theorem d_Conversions_cut_121 : decode b_Conversions_cut 121 = .ok (.ifCond .eq 9, 3) := by decide +kernel
theorem d_Conversions_cut_124 : decode b_Conversions_cut 124 = .ok (.lload 9, 2) := by decide +kernel
theorem d_Conversions_cut_126 : decode b_Conversions_cut 126 = .ok (.lneg, 1) := by decide +kernel
theorem d_Conversions_cut_127 : decode b_Conversions_cut 127 = .ok (.goto 5, 3) := by decide +kernel
theorem d_Conversions_cut_130 : decode b_Conversions_cut 130 = .ok (.lload 9, 2) := by decide +kernel
theorem d_Conversions_cut_132 : decode b_Conversions_cut 132 = .ok (.invokestatic 28, 3) := by decide +kernel
theorem d_Conversions_cut_135 : decode b_Conversions_cut 135 = .ok (.lreturn, 1) := by decide +kernel
abbrev b_UnsupportedOperationException_init : ByteArray := prog_23_method_2_code
def y_UnsupportedOperationException_init : MethodName := ⟨"java/lang/UnsupportedOperationException", "<init>", "(Ljava/lang/String;)V"⟩
theorem d_UnsupportedOperationException_init_0 : decode b_UnsupportedOperationException_init 0 = .ok (.aload_n 0, 1) := by decide +kernel
theorem d_UnsupportedOperationException_init_1 : decode b_UnsupportedOperationException_init 1 = .ok (.aload_n 1, 1) := by decide +kernel
theorem d_UnsupportedOperationException_init_2 : decode b_UnsupportedOperationException_init 2 = .ok (.invokespecial 7, 3) := by decide +kernel
theorem d_UnsupportedOperationException_init_5 : decode b_UnsupportedOperationException_init 5 = .ok (.return_, 1) := by decide +kernel
abbrev b_Conversions_cutAmount : ByteArray := prog_3_method_8_code
def y_Conversions_cutAmount : MethodName := ⟨"BitArithmetic$Conversions", "cutAmount", "(LBitArithmetic$Form;J)J"⟩
theorem d_Conversions_cutAmount_0 : decode b_Conversions_cutAmount 0 = .ok (.aload_n 0, 1) := by decide +kernel
theorem d_Conversions_cutAmount_1 : decode b_Conversions_cutAmount 1 = .ok (.lload_n 1, 1) := by decide +kernel
theorem d_Conversions_cutAmount_2 : decode b_Conversions_cutAmount 2 = .ok (.invokevirtual 73, 3) := by decide +kernel
theorem d_Conversions_cutAmount_5 : decode b_Conversions_cutAmount 5 = .ok (.istore_n 3, 1) := by decide +kernel
theorem d_Conversions_cutAmount_6 : decode b_Conversions_cutAmount 6 = .ok (.iload_n 3, 1) := by decide +kernel
theorem d_Conversions_cutAmount_7 : decode b_Conversions_cutAmount 7 = .ok (.bipush (-64), 2) := by decide +kernel
theorem d_Conversions_cutAmount_9 : decode b_Conversions_cutAmount 9 = .ok (.if_icmp .gt 5, 3) := by decide +kernel
theorem d_Conversions_cutAmount_12 : decode b_Conversions_cutAmount 12 = .ok (.lconst 0, 1) := by decide +kernel
theorem d_Conversions_cutAmount_13 : decode b_Conversions_cutAmount 13 = .ok (.lreturn, 1) := by decide +kernel
theorem d_Conversions_cutAmount_14 : decode b_Conversions_cutAmount 14 = .ok (.aload_n 0, 1) := by decide +kernel
theorem d_Conversions_cutAmount_15 : decode b_Conversions_cutAmount 15 = .ok (.lload_n 1, 1) := by decide +kernel
theorem d_Conversions_cutAmount_16 : decode b_Conversions_cutAmount 16 = .ok (.invokevirtual 70, 3) := by decide +kernel
theorem d_Conversions_cutAmount_19 : decode b_Conversions_cutAmount 19 = .ok (.lstore 4, 2) := by decide +kernel
theorem d_Conversions_cutAmount_21 : decode b_Conversions_cutAmount 21 = .ok (.iload_n 3, 1) := by decide +kernel
theorem d_Conversions_cutAmount_22 : decode b_Conversions_cutAmount 22 = .ok (.ifCond .lt 10, 3) := by decide +kernel
theorem d_Conversions_cutAmount_25 : decode b_Conversions_cutAmount 25 = .ok (.lload 4, 2) := by decide +kernel
theorem d_Conversions_cutAmount_27 : decode b_Conversions_cutAmount 27 = .ok (.iload_n 3, 1) := by decide +kernel
theorem d_Conversions_cutAmount_28 : decode b_Conversions_cutAmount 28 = .ok (.lshl, 1) := by decide +kernel
theorem d_Conversions_cutAmount_29 : decode b_Conversions_cutAmount 29 = .ok (.goto 8, 3) := by decide +kernel
theorem d_Conversions_cutAmount_32 : decode b_Conversions_cutAmount 32 = .ok (.lload 4, 2) := by decide +kernel
theorem d_Conversions_cutAmount_34 : decode b_Conversions_cutAmount 34 = .ok (.iload_n 3, 1) := by decide +kernel
theorem d_Conversions_cutAmount_35 : decode b_Conversions_cutAmount 35 = .ok (.ineg, 1) := by decide +kernel
theorem d_Conversions_cutAmount_36 : decode b_Conversions_cutAmount 36 = .ok (.lushr, 1) := by decide +kernel
theorem d_Conversions_cutAmount_37 : decode b_Conversions_cutAmount 37 = .ok (.lreturn, 1) := by decide +kernel
abbrev b_Conversions_greatest : ByteArray := prog_3_method_9_code
def y_Conversions_greatest : MethodName := ⟨"BitArithmetic$Conversions", "greatest", "(ZIZ)J"⟩
theorem d_Conversions_greatest_0 : decode b_Conversions_greatest 0 = .ok (.lconst 1, 1) := by decide +kernel
theorem d_Conversions_greatest_1 : decode b_Conversions_greatest 1 = .ok (.iload_n 1, 1) := by decide +kernel
theorem d_Conversions_greatest_2 : decode b_Conversions_greatest 2 = .ok (.iconst 1, 1) := by decide +kernel
theorem d_Conversions_greatest_3 : decode b_Conversions_greatest 3 = .ok (.isub, 1) := by decide +kernel
theorem d_Conversions_greatest_4 : decode b_Conversions_greatest 4 = .ok (.lshl, 1) := by decide +kernel
theorem d_Conversions_greatest_5 : decode b_Conversions_greatest 5 = .ok (.lstore_n 3, 1) := by decide +kernel
theorem d_Conversions_greatest_6 : decode b_Conversions_greatest 6 = .ok (.iload_n 2, 1) := by decide +kernel
theorem d_Conversions_greatest_7 : decode b_Conversions_greatest 7 = .ok (.ifCond .eq 15, 3) := by decide +kernel
theorem d_Conversions_greatest_10 : decode b_Conversions_greatest 10 = .ok (.iload_n 0, 1) := by decide +kernel
theorem d_Conversions_greatest_11 : decode b_Conversions_greatest 11 = .ok (.ifCond .eq 7, 3) := by decide +kernel
theorem d_Conversions_greatest_14 : decode b_Conversions_greatest 14 = .ok (.lload_n 3, 1) := by decide +kernel
theorem d_Conversions_greatest_15 : decode b_Conversions_greatest 15 = .ok (.goto 6, 3) := by decide +kernel
theorem d_Conversions_greatest_18 : decode b_Conversions_greatest 18 = .ok (.lload_n 3, 1) := by decide +kernel
theorem d_Conversions_greatest_19 : decode b_Conversions_greatest 19 = .ok (.lconst 1, 1) := by decide +kernel
theorem d_Conversions_greatest_20 : decode b_Conversions_greatest 20 = .ok (.lsub, 1) := by decide +kernel
theorem d_Conversions_greatest_21 : decode b_Conversions_greatest 21 = .ok (.lreturn, 1) := by decide +kernel
theorem d_Conversions_greatest_22 : decode b_Conversions_greatest 22 = .ok (.iload_n 0, 1) := by decide +kernel
theorem d_Conversions_greatest_23 : decode b_Conversions_greatest 23 = .ok (.ifCond .eq 7, 3) := by decide +kernel
theorem d_Conversions_greatest_26 : decode b_Conversions_greatest 26 = .ok (.lconst 0, 1) := by decide +kernel
theorem d_Conversions_greatest_27 : decode b_Conversions_greatest 27 = .ok (.goto 10, 3) := by decide +kernel
theorem d_Conversions_greatest_30 : decode b_Conversions_greatest 30 = .ok (.iload_n 1, 1) := by decide +kernel
theorem d_Conversions_greatest_31 : decode b_Conversions_greatest 31 = .ok (.ldc2_w 112, 3) := by decide +kernel
theorem d_Conversions_greatest_34 : decode b_Conversions_greatest 34 = .ok (.invokestatic 28, 3) := by decide +kernel
theorem d_Conversions_greatest_37 : decode b_Conversions_greatest 37 = .ok (.lreturn, 1) := by decide +kernel
abbrev b_Long_compareUnsigned : ByteArray := prog_18_method_43_code
def y_Long_compareUnsigned : MethodName := ⟨"java/lang/Long", "compareUnsigned", "(JJ)I"⟩
theorem d_Long_compareUnsigned_0 : decode b_Long_compareUnsigned 0 = .ok (.lload_n 0, 1) := by decide +kernel
theorem d_Long_compareUnsigned_1 : decode b_Long_compareUnsigned 1 = .ok (.ldc2_w 168, 3) := by decide +kernel
theorem d_Long_compareUnsigned_4 : decode b_Long_compareUnsigned 4 = .ok (.ladd, 1) := by decide +kernel
theorem d_Long_compareUnsigned_5 : decode b_Long_compareUnsigned 5 = .ok (.lload_n 2, 1) := by decide +kernel
theorem d_Long_compareUnsigned_6 : decode b_Long_compareUnsigned 6 = .ok (.ldc2_w 168, 3) := by decide +kernel
theorem d_Long_compareUnsigned_9 : decode b_Long_compareUnsigned 9 = .ok (.ladd, 1) := by decide +kernel
theorem d_Long_compareUnsigned_10 : decode b_Long_compareUnsigned 10 = .ok (.invokestatic 302, 3) := by decide +kernel
theorem d_Long_compareUnsigned_13 : decode b_Long_compareUnsigned 13 = .ok (.ireturn, 1) := by decide +kernel
abbrev b_Long_compare : ByteArray := prog_18_method_42_code
def y_Long_compare : MethodName := ⟨"java/lang/Long", "compare", "(JJ)I"⟩
theorem d_Long_compare_0 : decode b_Long_compare 0 = .ok (.lload_n 0, 1) := by decide +kernel
theorem d_Long_compare_1 : decode b_Long_compare 1 = .ok (.lload_n 2, 1) := by decide +kernel
theorem d_Long_compare_2 : decode b_Long_compare 2 = .ok (.lcmp, 1) := by decide +kernel
theorem d_Long_compare_3 : decode b_Long_compare 3 = .ok (.ifCond .ge 7, 3) := by decide +kernel
theorem d_Long_compare_6 : decode b_Long_compare 6 = .ok (.iconst (-1), 1) := by decide +kernel
theorem d_Long_compare_7 : decode b_Long_compare 7 = .ok (.goto 14, 3) := by decide +kernel
theorem d_Long_compare_10 : decode b_Long_compare 10 = .ok (.lload_n 0, 1) := by decide +kernel
theorem d_Long_compare_11 : decode b_Long_compare 11 = .ok (.lload_n 2, 1) := by decide +kernel
theorem d_Long_compare_12 : decode b_Long_compare 12 = .ok (.lcmp, 1) := by decide +kernel
theorem d_Long_compare_13 : decode b_Long_compare 13 = .ok (.ifCond .ne 7, 3) := by decide +kernel
theorem d_Long_compare_16 : decode b_Long_compare 16 = .ok (.iconst 0, 1) := by decide +kernel
theorem d_Long_compare_17 : decode b_Long_compare 17 = .ok (.goto 4, 3) := by decide +kernel
theorem d_Long_compare_20 : decode b_Long_compare 20 = .ok (.iconst 1, 1) := by decide +kernel
theorem d_Long_compare_21 : decode b_Long_compare 21 = .ok (.ireturn, 1) := by decide +kernel
abbrev b_IllegalStateException_init : ByteArray := prog_16_method_2_code
def y_IllegalStateException_init : MethodName := ⟨"java/lang/IllegalStateException", "<init>", "(Ljava/lang/String;)V"⟩
theorem d_IllegalStateException_init_0 : decode b_IllegalStateException_init 0 = .ok (.aload_n 0, 1) := by decide +kernel
theorem d_IllegalStateException_init_1 : decode b_IllegalStateException_init 1 = .ok (.aload_n 1, 1) := by decide +kernel
theorem d_IllegalStateException_init_2 : decode b_IllegalStateException_init 2 = .ok (.invokespecial 7, 3) := by decide +kernel
theorem d_IllegalStateException_init_5 : decode b_IllegalStateException_init 5 = .ok (.return_, 1) := by decide +kernel
abbrev b_Wholes_test : ByteArray := prog_9_method_2_code
def y_Wholes_test : MethodName := ⟨"BitArithmetic$Wholes", "test", "(IJJ)Z"⟩
theorem d_Wholes_test_0 : decode b_Wholes_test 0 = .ok (.iload_n 0, 1) := by decide +kernel
theorem d_Wholes_test_1 : decode b_Wholes_test 1 = .ok (.tableswitch 181 69 78 #[55, 67, 79, 91, 103, 117, 129, 143, 155, 169], 55) := by decide +kernel
theorem d_Wholes_test_56 : decode b_Wholes_test 56 = .ok (.lload_n 1, 1) := by decide +kernel
theorem d_Wholes_test_57 : decode b_Wholes_test 57 = .ok (.lconst 0, 1) := by decide +kernel
theorem d_Wholes_test_58 : decode b_Wholes_test 58 = .ok (.lcmp, 1) := by decide +kernel
theorem d_Wholes_test_59 : decode b_Wholes_test 59 = .ok (.ifCond .ne 7, 3) := by decide +kernel
theorem d_Wholes_test_62 : decode b_Wholes_test 62 = .ok (.iconst 1, 1) := by decide +kernel
theorem d_Wholes_test_63 : decode b_Wholes_test 63 = .ok (.goto 4, 3) := by decide +kernel
theorem d_Wholes_test_66 : decode b_Wholes_test 66 = .ok (.iconst 0, 1) := by decide +kernel
theorem d_Wholes_test_67 : decode b_Wholes_test 67 = .ok (.ireturn, 1) := by decide +kernel
theorem d_Wholes_test_68 : decode b_Wholes_test 68 = .ok (.lload_n 1, 1) := by decide +kernel
theorem d_Wholes_test_69 : decode b_Wholes_test 69 = .ok (.lload_n 3, 1) := by decide +kernel
theorem d_Wholes_test_70 : decode b_Wholes_test 70 = .ok (.lcmp, 1) := by decide +kernel
theorem d_Wholes_test_71 : decode b_Wholes_test 71 = .ok (.ifCond .ne 7, 3) := by decide +kernel
theorem d_Wholes_test_74 : decode b_Wholes_test 74 = .ok (.iconst 1, 1) := by decide +kernel
theorem d_Wholes_test_75 : decode b_Wholes_test 75 = .ok (.goto 4, 3) := by decide +kernel
theorem d_Wholes_test_78 : decode b_Wholes_test 78 = .ok (.iconst 0, 1) := by decide +kernel
theorem d_Wholes_test_79 : decode b_Wholes_test 79 = .ok (.ireturn, 1) := by decide +kernel
theorem d_Wholes_test_80 : decode b_Wholes_test 80 = .ok (.lload_n 1, 1) := by decide +kernel
theorem d_Wholes_test_81 : decode b_Wholes_test 81 = .ok (.lload_n 3, 1) := by decide +kernel
theorem d_Wholes_test_82 : decode b_Wholes_test 82 = .ok (.lcmp, 1) := by decide +kernel
theorem d_Wholes_test_83 : decode b_Wholes_test 83 = .ok (.ifCond .eq 7, 3) := by decide +kernel
theorem d_Wholes_test_86 : decode b_Wholes_test 86 = .ok (.iconst 1, 1) := by decide +kernel
theorem d_Wholes_test_87 : decode b_Wholes_test 87 = .ok (.goto 4, 3) := by decide +kernel
theorem d_Wholes_test_90 : decode b_Wholes_test 90 = .ok (.iconst 0, 1) := by decide +kernel
theorem d_Wholes_test_91 : decode b_Wholes_test 91 = .ok (.ireturn, 1) := by decide +kernel
theorem d_Wholes_test_92 : decode b_Wholes_test 92 = .ok (.lload_n 1, 1) := by decide +kernel
theorem d_Wholes_test_93 : decode b_Wholes_test 93 = .ok (.lload_n 3, 1) := by decide +kernel
theorem d_Wholes_test_94 : decode b_Wholes_test 94 = .ok (.lcmp, 1) := by decide +kernel
theorem d_Wholes_test_95 : decode b_Wholes_test 95 = .ok (.ifCond .ge 7, 3) := by decide +kernel
theorem d_Wholes_test_98 : decode b_Wholes_test 98 = .ok (.iconst 1, 1) := by decide +kernel
theorem d_Wholes_test_99 : decode b_Wholes_test 99 = .ok (.goto 4, 3) := by decide +kernel
theorem d_Wholes_test_102 : decode b_Wholes_test 102 = .ok (.iconst 0, 1) := by decide +kernel
theorem d_Wholes_test_103 : decode b_Wholes_test 103 = .ok (.ireturn, 1) := by decide +kernel
theorem d_Wholes_test_104 : decode b_Wholes_test 104 = .ok (.lload_n 1, 1) := by decide +kernel
theorem d_Wholes_test_105 : decode b_Wholes_test 105 = .ok (.lload_n 3, 1) := by decide +kernel
theorem d_Wholes_test_106 : decode b_Wholes_test 106 = .ok (.invokestatic 7, 3) := by decide +kernel
theorem d_Wholes_test_109 : decode b_Wholes_test 109 = .ok (.ifCond .ge 7, 3) := by decide +kernel
theorem d_Wholes_test_112 : decode b_Wholes_test 112 = .ok (.iconst 1, 1) := by decide +kernel
theorem d_Wholes_test_113 : decode b_Wholes_test 113 = .ok (.goto 4, 3) := by decide +kernel
theorem d_Wholes_test_116 : decode b_Wholes_test 116 = .ok (.iconst 0, 1) := by decide +kernel
theorem d_Wholes_test_117 : decode b_Wholes_test 117 = .ok (.ireturn, 1) := by decide +kernel
theorem d_Wholes_test_118 : decode b_Wholes_test 118 = .ok (.lload_n 1, 1) := by decide +kernel
theorem d_Wholes_test_119 : decode b_Wholes_test 119 = .ok (.lload_n 3, 1) := by decide +kernel
theorem d_Wholes_test_120 : decode b_Wholes_test 120 = .ok (.lcmp, 1) := by decide +kernel
theorem d_Wholes_test_121 : decode b_Wholes_test 121 = .ok (.ifCond .le 7, 3) := by decide +kernel
theorem d_Wholes_test_124 : decode b_Wholes_test 124 = .ok (.iconst 1, 1) := by decide +kernel
theorem d_Wholes_test_125 : decode b_Wholes_test 125 = .ok (.goto 4, 3) := by decide +kernel
theorem d_Wholes_test_128 : decode b_Wholes_test 128 = .ok (.iconst 0, 1) := by decide +kernel
theorem d_Wholes_test_129 : decode b_Wholes_test 129 = .ok (.ireturn, 1) := by decide +kernel
theorem d_Wholes_test_130 : decode b_Wholes_test 130 = .ok (.lload_n 1, 1) := by decide +kernel
theorem d_Wholes_test_131 : decode b_Wholes_test 131 = .ok (.lload_n 3, 1) := by decide +kernel
theorem d_Wholes_test_132 : decode b_Wholes_test 132 = .ok (.invokestatic 7, 3) := by decide +kernel
theorem d_Wholes_test_135 : decode b_Wholes_test 135 = .ok (.ifCond .le 7, 3) := by decide +kernel
theorem d_Wholes_test_138 : decode b_Wholes_test 138 = .ok (.iconst 1, 1) := by decide +kernel
theorem d_Wholes_test_139 : decode b_Wholes_test 139 = .ok (.goto 4, 3) := by decide +kernel
theorem d_Wholes_test_142 : decode b_Wholes_test 142 = .ok (.iconst 0, 1) := by decide +kernel
theorem d_Wholes_test_143 : decode b_Wholes_test 143 = .ok (.ireturn, 1) := by decide +kernel
theorem d_Wholes_test_144 : decode b_Wholes_test 144 = .ok (.lload_n 1, 1) := by decide +kernel
theorem d_Wholes_test_145 : decode b_Wholes_test 145 = .ok (.lload_n 3, 1) := by decide +kernel
theorem d_Wholes_test_146 : decode b_Wholes_test 146 = .ok (.lcmp, 1) := by decide +kernel
theorem d_Wholes_test_147 : decode b_Wholes_test 147 = .ok (.ifCond .gt 7, 3) := by decide +kernel
theorem d_Wholes_test_150 : decode b_Wholes_test 150 = .ok (.iconst 1, 1) := by decide +kernel
theorem d_Wholes_test_151 : decode b_Wholes_test 151 = .ok (.goto 4, 3) := by decide +kernel
theorem d_Wholes_test_154 : decode b_Wholes_test 154 = .ok (.iconst 0, 1) := by decide +kernel
theorem d_Wholes_test_155 : decode b_Wholes_test 155 = .ok (.ireturn, 1) := by decide +kernel
theorem d_Wholes_test_156 : decode b_Wholes_test 156 = .ok (.lload_n 1, 1) := by decide +kernel
theorem d_Wholes_test_157 : decode b_Wholes_test 157 = .ok (.lload_n 3, 1) := by decide +kernel
theorem d_Wholes_test_158 : decode b_Wholes_test 158 = .ok (.invokestatic 7, 3) := by decide +kernel
theorem d_Wholes_test_161 : decode b_Wholes_test 161 = .ok (.ifCond .gt 7, 3) := by decide +kernel
theorem d_Wholes_test_164 : decode b_Wholes_test 164 = .ok (.iconst 1, 1) := by decide +kernel
theorem d_Wholes_test_165 : decode b_Wholes_test 165 = .ok (.goto 4, 3) := by decide +kernel
theorem d_Wholes_test_168 : decode b_Wholes_test 168 = .ok (.iconst 0, 1) := by decide +kernel
theorem d_Wholes_test_169 : decode b_Wholes_test 169 = .ok (.ireturn, 1) := by decide +kernel
theorem d_Wholes_test_170 : decode b_Wholes_test 170 = .ok (.lload_n 1, 1) := by decide +kernel
theorem d_Wholes_test_171 : decode b_Wholes_test 171 = .ok (.lload_n 3, 1) := by decide +kernel
theorem d_Wholes_test_172 : decode b_Wholes_test 172 = .ok (.lcmp, 1) := by decide +kernel
theorem d_Wholes_test_173 : decode b_Wholes_test 173 = .ok (.ifCond .lt 7, 3) := by decide +kernel
theorem d_Wholes_test_176 : decode b_Wholes_test 176 = .ok (.iconst 1, 1) := by decide +kernel
theorem d_Wholes_test_177 : decode b_Wholes_test 177 = .ok (.goto 4, 3) := by decide +kernel
theorem d_Wholes_test_180 : decode b_Wholes_test 180 = .ok (.iconst 0, 1) := by decide +kernel
theorem d_Wholes_test_181 : decode b_Wholes_test 181 = .ok (.ireturn, 1) := by decide +kernel
theorem d_Wholes_test_182 : decode b_Wholes_test 182 = .ok (.lload_n 1, 1) := by decide +kernel
theorem d_Wholes_test_183 : decode b_Wholes_test 183 = .ok (.lload_n 3, 1) := by decide +kernel
theorem d_Wholes_test_184 : decode b_Wholes_test 184 = .ok (.invokestatic 7, 3) := by decide +kernel
theorem d_Wholes_test_187 : decode b_Wholes_test 187 = .ok (.ifCond .lt 7, 3) := by decide +kernel
theorem d_Wholes_test_190 : decode b_Wholes_test 190 = .ok (.iconst 1, 1) := by decide +kernel
theorem d_Wholes_test_191 : decode b_Wholes_test 191 = .ok (.goto 4, 3) := by decide +kernel
theorem d_Wholes_test_194 : decode b_Wholes_test 194 = .ok (.iconst 0, 1) := by decide +kernel
theorem d_Wholes_test_195 : decode b_Wholes_test 195 = .ok (.ireturn, 1) := by decide +kernel
abbrev b_Wholes_calculate : ByteArray := prog_9_method_3_code
def y_Wholes_calculate : MethodName := ⟨"BitArithmetic$Wholes", "calculate", "(IIJJ)J"⟩
theorem d_Wholes_calculate_0 : decode b_Wholes_calculate 0 = .ok (.iload_n 0, 1) := by decide +kernel
theorem d_Wholes_calculate_1 : decode b_Wholes_calculate 1 = .ok (.bipush 105, 2) := by decide +kernel
theorem d_Wholes_calculate_3 : decode b_Wholes_calculate 3 = .ok (.if_icmp .gt 14, 3) := by decide +kernel
theorem d_Wholes_calculate_6 : decode b_Wholes_calculate 6 = .ok (.iload_n 0, 1) := by decide +kernel
theorem d_Wholes_calculate_7 : decode b_Wholes_calculate 7 = .ok (.iload_n 1, 1) := by decide +kernel
theorem d_Wholes_calculate_8 : decode b_Wholes_calculate 8 = .ok (.iload_n 1, 1) := by decide +kernel
theorem d_Wholes_calculate_9 : decode b_Wholes_calculate 9 = .ok (.lload_n 2, 1) := by decide +kernel
theorem d_Wholes_calculate_10 : decode b_Wholes_calculate 10 = .ok (.invokestatic 13, 3) := by decide +kernel
theorem d_Wholes_calculate_13 : decode b_Wholes_calculate 13 = .ok (.invokestatic 19, 3) := by decide +kernel
theorem d_Wholes_calculate_16 : decode b_Wholes_calculate 16 = .ok (.lreturn, 1) := by decide +kernel
theorem d_Wholes_calculate_17 : decode b_Wholes_calculate 17 = .ok (.iload_n 0, 1) := by decide +kernel
theorem d_Wholes_calculate_18 : decode b_Wholes_calculate 18 = .ok (.bipush 109, 2) := by decide +kernel
theorem d_Wholes_calculate_20 : decode b_Wholes_calculate 20 = .ok (.if_icmp .lt 22, 3) := by decide +kernel
theorem d_Wholes_calculate_23 : decode b_Wholes_calculate 23 = .ok (.iload_n 0, 1) := by decide +kernel
theorem d_Wholes_calculate_24 : decode b_Wholes_calculate 24 = .ok (.bipush 112, 2) := by decide +kernel
theorem d_Wholes_calculate_26 : decode b_Wholes_calculate 26 = .ok (.if_icmp .gt 16, 3) := by decide +kernel
theorem d_Wholes_calculate_29 : decode b_Wholes_calculate 29 = .ok (.iload_n 1, 1) := by decide +kernel
theorem d_Wholes_calculate_30 : decode b_Wholes_calculate 30 = .ok (.iload_n 0, 1) := by decide +kernel
theorem d_Wholes_calculate_31 : decode b_Wholes_calculate 31 = .ok (.iload_n 1, 1) := by decide +kernel
theorem d_Wholes_calculate_32 : decode b_Wholes_calculate 32 = .ok (.lload_n 2, 1) := by decide +kernel
theorem d_Wholes_calculate_33 : decode b_Wholes_calculate 33 = .ok (.lload 4, 2) := by decide +kernel
theorem d_Wholes_calculate_35 : decode b_Wholes_calculate 35 = .ok (.invokestatic 25, 3) := by decide +kernel
theorem d_Wholes_calculate_38 : decode b_Wholes_calculate 38 = .ok (.invokestatic 13, 3) := by decide +kernel
theorem d_Wholes_calculate_41 : decode b_Wholes_calculate 41 = .ok (.lreturn, 1) := by decide +kernel
theorem d_Wholes_calculate_42 : decode b_Wholes_calculate 42 = .ok (.iload_n 0, 1) := by decide +kernel
theorem d_Wholes_calculate_43 : decode b_Wholes_calculate 43 = .ok (.bipush 116, 2) := by decide +kernel
theorem d_Wholes_calculate_45 : decode b_Wholes_calculate 45 = .ok (.if_icmp .lt 22, 3) := by decide +kernel
theorem d_Wholes_calculate_48 : decode b_Wholes_calculate 48 = .ok (.iload_n 1, 1) := by decide +kernel
theorem d_Wholes_calculate_49 : decode b_Wholes_calculate 49 = .ok (.iload_n 0, 1) := by decide +kernel
theorem d_Wholes_calculate_50 : decode b_Wholes_calculate 50 = .ok (.iload_n 1, 1) := by decide +kernel
theorem d_Wholes_calculate_51 : decode b_Wholes_calculate 51 = .ok (.lload_n 2, 1) := by decide +kernel
theorem d_Wholes_calculate_52 : decode b_Wholes_calculate 52 = .ok (.lload 4, 2) := by decide +kernel
theorem d_Wholes_calculate_54 : decode b_Wholes_calculate 54 = .ok (.iload_n 1, 1) := by decide +kernel
theorem d_Wholes_calculate_55 : decode b_Wholes_calculate 55 = .ok (.iconst 1, 1) := by decide +kernel
theorem d_Wholes_calculate_56 : decode b_Wholes_calculate 56 = .ok (.isub, 1) := by decide +kernel
theorem d_Wholes_calculate_57 : decode b_Wholes_calculate 57 = .ok (.i2l, 1) := by decide +kernel
theorem d_Wholes_calculate_58 : decode b_Wholes_calculate 58 = .ok (.land, 1) := by decide +kernel
theorem d_Wholes_calculate_59 : decode b_Wholes_calculate 59 = .ok (.l2i, 1) := by decide +kernel
theorem d_Wholes_calculate_60 : decode b_Wholes_calculate 60 = .ok (.invokestatic 29, 3) := by decide +kernel
theorem d_Wholes_calculate_63 : decode b_Wholes_calculate 63 = .ok (.invokestatic 13, 3) := by decide +kernel
theorem d_Wholes_calculate_66 : decode b_Wholes_calculate 66 = .ok (.lreturn, 1) := by decide +kernel
theorem d_Wholes_calculate_67 : decode b_Wholes_calculate 67 = .ok (.iload_n 1, 1) := by decide +kernel
theorem d_Wholes_calculate_68 : decode b_Wholes_calculate 68 = .ok (.iload_n 0, 1) := by decide +kernel
theorem d_Wholes_calculate_69 : decode b_Wholes_calculate 69 = .ok (.lload_n 2, 1) := by decide +kernel
theorem d_Wholes_calculate_70 : decode b_Wholes_calculate 70 = .ok (.lload 4, 2) := by decide +kernel
theorem d_Wholes_calculate_72 : decode b_Wholes_calculate 72 = .ok (.invokestatic 33, 3) := by decide +kernel
theorem d_Wholes_calculate_75 : decode b_Wholes_calculate 75 = .ok (.invokestatic 13, 3) := by decide +kernel
theorem d_Wholes_calculate_78 : decode b_Wholes_calculate 78 = .ok (.lreturn, 1) := by decide +kernel
abbrev b_Wholes_counted : ByteArray := prog_9_method_4_code
def y_Wholes_counted : MethodName := ⟨"BitArithmetic$Wholes", "counted", "(IIJ)J"⟩
theorem d_Wholes_counted_0 : decode b_Wholes_counted 0 = .ok (.iload_n 0, 1) := by decide +kernel
theorem d_Wholes_counted_1 : decode b_Wholes_counted 1 = .ok (.lookupswitch 55 #[(103, 27), (104, 38)], 27) := by decide +kernel
theorem d_Wholes_counted_28 : decode b_Wholes_counted 28 = .ok (.lload_n 2, 1) := by decide +kernel
theorem d_Wholes_counted_29 : decode b_Wholes_counted 29 = .ok (.invokestatic 37, 3) := by decide +kernel
theorem d_Wholes_counted_32 : decode b_Wholes_counted 32 = .ok (.bipush 64, 2) := by decide +kernel
theorem d_Wholes_counted_34 : decode b_Wholes_counted 34 = .ok (.iload_n 1, 1) := by decide +kernel
theorem d_Wholes_counted_35 : decode b_Wholes_counted 35 = .ok (.isub, 1) := by decide +kernel
theorem d_Wholes_counted_36 : decode b_Wholes_counted 36 = .ok (.isub, 1) := by decide +kernel
theorem d_Wholes_counted_37 : decode b_Wholes_counted 37 = .ok (.i2l, 1) := by decide +kernel
theorem d_Wholes_counted_38 : decode b_Wholes_counted 38 = .ok (.lreturn, 1) := by decide +kernel
theorem d_Wholes_counted_39 : decode b_Wholes_counted 39 = .ok (.lload_n 2, 1) := by decide +kernel
theorem d_Wholes_counted_40 : decode b_Wholes_counted 40 = .ok (.lconst 0, 1) := by decide +kernel
theorem d_Wholes_counted_41 : decode b_Wholes_counted 41 = .ok (.lcmp, 1) := by decide +kernel
theorem d_Wholes_counted_42 : decode b_Wholes_counted 42 = .ok (.ifCond .ne 8, 3) := by decide +kernel
theorem d_Wholes_counted_45 : decode b_Wholes_counted 45 = .ok (.iload_n 1, 1) := by decide +kernel
theorem d_Wholes_counted_46 : decode b_Wholes_counted 46 = .ok (.i2l, 1) := by decide +kernel
theorem d_Wholes_counted_47 : decode b_Wholes_counted 47 = .ok (.goto 8, 3) := by decide +kernel
theorem d_Wholes_counted_50 : decode b_Wholes_counted 50 = .ok (.lload_n 2, 1) := by decide +kernel
theorem d_Wholes_counted_51 : decode b_Wholes_counted 51 = .ok (.invokestatic 41, 3) := by decide +kernel
theorem d_Wholes_counted_54 : decode b_Wholes_counted 54 = .ok (.i2l, 1) := by decide +kernel
theorem d_Wholes_counted_55 : decode b_Wholes_counted 55 = .ok (.lreturn, 1) := by decide +kernel
theorem d_Wholes_counted_56 : decode b_Wholes_counted 56 = .ok (.lload_n 2, 1) := by decide +kernel
theorem d_Wholes_counted_57 : decode b_Wholes_counted 57 = .ok (.invokestatic 44, 3) := by decide +kernel
theorem d_Wholes_counted_60 : decode b_Wholes_counted 60 = .ok (.i2l, 1) := by decide +kernel
theorem d_Wholes_counted_61 : decode b_Wholes_counted 61 = .ok (.lreturn, 1) := by decide +kernel
abbrev b_Long_numberOfTrailingZeros : ByteArray := prog_18_method_49_code
def y_Long_numberOfTrailingZeros : MethodName := ⟨"java/lang/Long", "numberOfTrailingZeros", "(J)I"⟩
theorem d_Long_numberOfTrailingZeros_0 : decode b_Long_numberOfTrailingZeros 0 = .ok (.lload_n 0, 1) := by decide +kernel
theorem d_Long_numberOfTrailingZeros_1 : decode b_Long_numberOfTrailingZeros 1 = .ok (.l2i, 1) := by decide +kernel
theorem d_Long_numberOfTrailingZeros_2 : decode b_Long_numberOfTrailingZeros 2 = .ok (.istore_n 2, 1) := by decide +kernel
theorem d_Long_numberOfTrailingZeros_3 : decode b_Long_numberOfTrailingZeros 3 = .ok (.iload_n 2, 1) := by decide +kernel
theorem d_Long_numberOfTrailingZeros_4 : decode b_Long_numberOfTrailingZeros 4 = .ok (.ifCond .ne 17, 3) := by decide +kernel
theorem d_Long_numberOfTrailingZeros_7 : decode b_Long_numberOfTrailingZeros 7 = .ok (.bipush 32, 2) := by decide +kernel
theorem d_Long_numberOfTrailingZeros_9 : decode b_Long_numberOfTrailingZeros 9 = .ok (.lload_n 0, 1) := by decide +kernel
theorem d_Long_numberOfTrailingZeros_10 : decode b_Long_numberOfTrailingZeros 10 = .ok (.bipush 32, 2) := by decide +kernel
theorem d_Long_numberOfTrailingZeros_12 : decode b_Long_numberOfTrailingZeros 12 = .ok (.lushr, 1) := by decide +kernel
theorem d_Long_numberOfTrailingZeros_13 : decode b_Long_numberOfTrailingZeros 13 = .ok (.l2i, 1) := by decide +kernel
theorem d_Long_numberOfTrailingZeros_14 : decode b_Long_numberOfTrailingZeros 14 = .ok (.invokestatic 311, 3) := by decide +kernel
theorem d_Long_numberOfTrailingZeros_17 : decode b_Long_numberOfTrailingZeros 17 = .ok (.iadd, 1) := by decide +kernel
theorem d_Long_numberOfTrailingZeros_18 : decode b_Long_numberOfTrailingZeros 18 = .ok (.goto 7, 3) := by decide +kernel
theorem d_Long_numberOfTrailingZeros_21 : decode b_Long_numberOfTrailingZeros 21 = .ok (.iload_n 2, 1) := by decide +kernel
theorem d_Long_numberOfTrailingZeros_22 : decode b_Long_numberOfTrailingZeros 22 = .ok (.invokestatic 311, 3) := by decide +kernel
theorem d_Long_numberOfTrailingZeros_25 : decode b_Long_numberOfTrailingZeros 25 = .ok (.ireturn, 1) := by decide +kernel
abbrev b_Integer_numberOfTrailingZeros : ByteArray := prog_17_method_48_code
def y_Integer_numberOfTrailingZeros : MethodName := ⟨"java/lang/Integer", "numberOfTrailingZeros", "(I)I"⟩
theorem d_Integer_numberOfTrailingZeros_0 : decode b_Integer_numberOfTrailingZeros 0 = .ok (.iload_n 0, 1) := by decide +kernel
theorem d_Integer_numberOfTrailingZeros_1 : decode b_Integer_numberOfTrailingZeros 1 = .ok (.iconst (-1), 1) := by decide +kernel
theorem d_Integer_numberOfTrailingZeros_2 : decode b_Integer_numberOfTrailingZeros 2 = .ok (.ixor, 1) := by decide +kernel
theorem d_Integer_numberOfTrailingZeros_3 : decode b_Integer_numberOfTrailingZeros 3 = .ok (.iload_n 0, 1) := by decide +kernel
theorem d_Integer_numberOfTrailingZeros_4 : decode b_Integer_numberOfTrailingZeros 4 = .ok (.iconst 1, 1) := by decide +kernel
theorem d_Integer_numberOfTrailingZeros_5 : decode b_Integer_numberOfTrailingZeros 5 = .ok (.isub, 1) := by decide +kernel
theorem d_Integer_numberOfTrailingZeros_6 : decode b_Integer_numberOfTrailingZeros 6 = .ok (.iand, 1) := by decide +kernel
theorem d_Integer_numberOfTrailingZeros_7 : decode b_Integer_numberOfTrailingZeros 7 = .ok (.istore_n 0, 1) := by decide +kernel
theorem d_Integer_numberOfTrailingZeros_8 : decode b_Integer_numberOfTrailingZeros 8 = .ok (.iload_n 0, 1) := by decide +kernel
theorem d_Integer_numberOfTrailingZeros_9 : decode b_Integer_numberOfTrailingZeros 9 = .ok (.ifCond .gt 8, 3) := by decide +kernel
theorem d_Integer_numberOfTrailingZeros_12 : decode b_Integer_numberOfTrailingZeros 12 = .ok (.iload_n 0, 1) := by decide +kernel
theorem d_Integer_numberOfTrailingZeros_13 : decode b_Integer_numberOfTrailingZeros 13 = .ok (.bipush 32, 2) := by decide +kernel
theorem d_Integer_numberOfTrailingZeros_15 : decode b_Integer_numberOfTrailingZeros 15 = .ok (.iand, 1) := by decide +kernel
theorem d_Integer_numberOfTrailingZeros_16 : decode b_Integer_numberOfTrailingZeros 16 = .ok (.ireturn, 1) := by decide +kernel
theorem d_Integer_numberOfTrailingZeros_17 : decode b_Integer_numberOfTrailingZeros 17 = .ok (.iconst 1, 1) := by decide +kernel
theorem d_Integer_numberOfTrailingZeros_18 : decode b_Integer_numberOfTrailingZeros 18 = .ok (.istore_n 1, 1) := by decide +kernel
theorem d_Integer_numberOfTrailingZeros_19 : decode b_Integer_numberOfTrailingZeros 19 = .ok (.iload_n 0, 1) := by decide +kernel
theorem d_Integer_numberOfTrailingZeros_20 : decode b_Integer_numberOfTrailingZeros 20 = .ok (.ldc_w 264, 3) := by decide +kernel
theorem d_Integer_numberOfTrailingZeros_23 : decode b_Integer_numberOfTrailingZeros 23 = .ok (.if_icmp .le 11, 3) := by decide +kernel
theorem d_Integer_numberOfTrailingZeros_26 : decode b_Integer_numberOfTrailingZeros 26 = .ok (.iinc 1 16, 3) := by decide +kernel
theorem d_Integer_numberOfTrailingZeros_29 : decode b_Integer_numberOfTrailingZeros 29 = .ok (.iload_n 0, 1) := by decide +kernel
theorem d_Integer_numberOfTrailingZeros_30 : decode b_Integer_numberOfTrailingZeros 30 = .ok (.bipush 16, 2) := by decide +kernel
theorem d_Integer_numberOfTrailingZeros_32 : decode b_Integer_numberOfTrailingZeros 32 = .ok (.iushr, 1) := by decide +kernel
theorem d_Integer_numberOfTrailingZeros_33 : decode b_Integer_numberOfTrailingZeros 33 = .ok (.istore_n 0, 1) := by decide +kernel
theorem d_Integer_numberOfTrailingZeros_34 : decode b_Integer_numberOfTrailingZeros 34 = .ok (.iload_n 0, 1) := by decide +kernel
theorem d_Integer_numberOfTrailingZeros_35 : decode b_Integer_numberOfTrailingZeros 35 = .ok (.sipush 256, 3) := by decide +kernel
theorem d_Integer_numberOfTrailingZeros_38 : decode b_Integer_numberOfTrailingZeros 38 = .ok (.if_icmp .le 11, 3) := by decide +kernel
theorem d_Integer_numberOfTrailingZeros_41 : decode b_Integer_numberOfTrailingZeros 41 = .ok (.iinc 1 8, 3) := by decide +kernel
theorem d_Integer_numberOfTrailingZeros_44 : decode b_Integer_numberOfTrailingZeros 44 = .ok (.iload_n 0, 1) := by decide +kernel
theorem d_Integer_numberOfTrailingZeros_45 : decode b_Integer_numberOfTrailingZeros 45 = .ok (.bipush 8, 2) := by decide +kernel
theorem d_Integer_numberOfTrailingZeros_47 : decode b_Integer_numberOfTrailingZeros 47 = .ok (.iushr, 1) := by decide +kernel
theorem d_Integer_numberOfTrailingZeros_48 : decode b_Integer_numberOfTrailingZeros 48 = .ok (.istore_n 0, 1) := by decide +kernel
theorem d_Integer_numberOfTrailingZeros_49 : decode b_Integer_numberOfTrailingZeros 49 = .ok (.iload_n 0, 1) := by decide +kernel
theorem d_Integer_numberOfTrailingZeros_50 : decode b_Integer_numberOfTrailingZeros 50 = .ok (.bipush 16, 2) := by decide +kernel
theorem d_Integer_numberOfTrailingZeros_52 : decode b_Integer_numberOfTrailingZeros 52 = .ok (.if_icmp .le 10, 3) := by decide +kernel
theorem d_Integer_numberOfTrailingZeros_55 : decode b_Integer_numberOfTrailingZeros 55 = .ok (.iinc 1 4, 3) := by decide +kernel
theorem d_Integer_numberOfTrailingZeros_58 : decode b_Integer_numberOfTrailingZeros 58 = .ok (.iload_n 0, 1) := by decide +kernel
theorem d_Integer_numberOfTrailingZeros_59 : decode b_Integer_numberOfTrailingZeros 59 = .ok (.iconst 4, 1) := by decide +kernel
theorem d_Integer_numberOfTrailingZeros_60 : decode b_Integer_numberOfTrailingZeros 60 = .ok (.iushr, 1) := by decide +kernel
theorem d_Integer_numberOfTrailingZeros_61 : decode b_Integer_numberOfTrailingZeros 61 = .ok (.istore_n 0, 1) := by decide +kernel
theorem d_Integer_numberOfTrailingZeros_62 : decode b_Integer_numberOfTrailingZeros 62 = .ok (.iload_n 0, 1) := by decide +kernel
theorem d_Integer_numberOfTrailingZeros_63 : decode b_Integer_numberOfTrailingZeros 63 = .ok (.iconst 4, 1) := by decide +kernel
theorem d_Integer_numberOfTrailingZeros_64 : decode b_Integer_numberOfTrailingZeros 64 = .ok (.if_icmp .le 10, 3) := by decide +kernel
theorem d_Integer_numberOfTrailingZeros_67 : decode b_Integer_numberOfTrailingZeros 67 = .ok (.iinc 1 2, 3) := by decide +kernel
theorem d_Integer_numberOfTrailingZeros_70 : decode b_Integer_numberOfTrailingZeros 70 = .ok (.iload_n 0, 1) := by decide +kernel
theorem d_Integer_numberOfTrailingZeros_71 : decode b_Integer_numberOfTrailingZeros 71 = .ok (.iconst 2, 1) := by decide +kernel
theorem d_Integer_numberOfTrailingZeros_72 : decode b_Integer_numberOfTrailingZeros 72 = .ok (.iushr, 1) := by decide +kernel
theorem d_Integer_numberOfTrailingZeros_73 : decode b_Integer_numberOfTrailingZeros 73 = .ok (.istore_n 0, 1) := by decide +kernel
theorem d_Integer_numberOfTrailingZeros_74 : decode b_Integer_numberOfTrailingZeros 74 = .ok (.iload_n 1, 1) := by decide +kernel
theorem d_Integer_numberOfTrailingZeros_75 : decode b_Integer_numberOfTrailingZeros 75 = .ok (.iload_n 0, 1) := by decide +kernel
theorem d_Integer_numberOfTrailingZeros_76 : decode b_Integer_numberOfTrailingZeros 76 = .ok (.iconst 1, 1) := by decide +kernel
theorem d_Integer_numberOfTrailingZeros_77 : decode b_Integer_numberOfTrailingZeros 77 = .ok (.iushr, 1) := by decide +kernel
theorem d_Integer_numberOfTrailingZeros_78 : decode b_Integer_numberOfTrailingZeros 78 = .ok (.iadd, 1) := by decide +kernel
theorem d_Integer_numberOfTrailingZeros_79 : decode b_Integer_numberOfTrailingZeros 79 = .ok (.ireturn, 1) := by decide +kernel
abbrev b_Long_bitCount : ByteArray := prog_18_method_50_code
def y_Long_bitCount : MethodName := ⟨"java/lang/Long", "bitCount", "(J)I"⟩
theorem d_Long_bitCount_0 : decode b_Long_bitCount 0 = .ok (.lload_n 0, 1) := by decide +kernel
theorem d_Long_bitCount_1 : decode b_Long_bitCount 1 = .ok (.lload_n 0, 1) := by decide +kernel
theorem d_Long_bitCount_2 : decode b_Long_bitCount 2 = .ok (.iconst 1, 1) := by decide +kernel
theorem d_Long_bitCount_3 : decode b_Long_bitCount 3 = .ok (.lushr, 1) := by decide +kernel
theorem d_Long_bitCount_4 : decode b_Long_bitCount 4 = .ok (.ldc2_w 314, 3) := by decide +kernel
theorem d_Long_bitCount_7 : decode b_Long_bitCount 7 = .ok (.land, 1) := by decide +kernel
theorem d_Long_bitCount_8 : decode b_Long_bitCount 8 = .ok (.lsub, 1) := by decide +kernel
theorem d_Long_bitCount_9 : decode b_Long_bitCount 9 = .ok (.lstore_n 0, 1) := by decide +kernel
theorem d_Long_bitCount_10 : decode b_Long_bitCount 10 = .ok (.lload_n 0, 1) := by decide +kernel
theorem d_Long_bitCount_11 : decode b_Long_bitCount 11 = .ok (.ldc2_w 316, 3) := by decide +kernel
theorem d_Long_bitCount_14 : decode b_Long_bitCount 14 = .ok (.land, 1) := by decide +kernel
theorem d_Long_bitCount_15 : decode b_Long_bitCount 15 = .ok (.lload_n 0, 1) := by decide +kernel
theorem d_Long_bitCount_16 : decode b_Long_bitCount 16 = .ok (.iconst 2, 1) := by decide +kernel
theorem d_Long_bitCount_17 : decode b_Long_bitCount 17 = .ok (.lushr, 1) := by decide +kernel
theorem d_Long_bitCount_18 : decode b_Long_bitCount 18 = .ok (.ldc2_w 316, 3) := by decide +kernel
theorem d_Long_bitCount_21 : decode b_Long_bitCount 21 = .ok (.land, 1) := by decide +kernel
theorem d_Long_bitCount_22 : decode b_Long_bitCount 22 = .ok (.ladd, 1) := by decide +kernel
theorem d_Long_bitCount_23 : decode b_Long_bitCount 23 = .ok (.lstore_n 0, 1) := by decide +kernel
theorem d_Long_bitCount_24 : decode b_Long_bitCount 24 = .ok (.lload_n 0, 1) := by decide +kernel
theorem d_Long_bitCount_25 : decode b_Long_bitCount 25 = .ok (.lload_n 0, 1) := by decide +kernel
theorem d_Long_bitCount_26 : decode b_Long_bitCount 26 = .ok (.iconst 4, 1) := by decide +kernel
theorem d_Long_bitCount_27 : decode b_Long_bitCount 27 = .ok (.lushr, 1) := by decide +kernel
theorem d_Long_bitCount_28 : decode b_Long_bitCount 28 = .ok (.ladd, 1) := by decide +kernel
theorem d_Long_bitCount_29 : decode b_Long_bitCount 29 = .ok (.ldc2_w 318, 3) := by decide +kernel
theorem d_Long_bitCount_32 : decode b_Long_bitCount 32 = .ok (.land, 1) := by decide +kernel
theorem d_Long_bitCount_33 : decode b_Long_bitCount 33 = .ok (.lstore_n 0, 1) := by decide +kernel
theorem d_Long_bitCount_34 : decode b_Long_bitCount 34 = .ok (.lload_n 0, 1) := by decide +kernel
theorem d_Long_bitCount_35 : decode b_Long_bitCount 35 = .ok (.lload_n 0, 1) := by decide +kernel
theorem d_Long_bitCount_36 : decode b_Long_bitCount 36 = .ok (.bipush 8, 2) := by decide +kernel
theorem d_Long_bitCount_38 : decode b_Long_bitCount 38 = .ok (.lushr, 1) := by decide +kernel
theorem d_Long_bitCount_39 : decode b_Long_bitCount 39 = .ok (.ladd, 1) := by decide +kernel
theorem d_Long_bitCount_40 : decode b_Long_bitCount 40 = .ok (.lstore_n 0, 1) := by decide +kernel
theorem d_Long_bitCount_41 : decode b_Long_bitCount 41 = .ok (.lload_n 0, 1) := by decide +kernel
theorem d_Long_bitCount_42 : decode b_Long_bitCount 42 = .ok (.lload_n 0, 1) := by decide +kernel
theorem d_Long_bitCount_43 : decode b_Long_bitCount 43 = .ok (.bipush 16, 2) := by decide +kernel
theorem d_Long_bitCount_45 : decode b_Long_bitCount 45 = .ok (.lushr, 1) := by decide +kernel
theorem d_Long_bitCount_46 : decode b_Long_bitCount 46 = .ok (.ladd, 1) := by decide +kernel
theorem d_Long_bitCount_47 : decode b_Long_bitCount 47 = .ok (.lstore_n 0, 1) := by decide +kernel
theorem d_Long_bitCount_48 : decode b_Long_bitCount 48 = .ok (.lload_n 0, 1) := by decide +kernel
theorem d_Long_bitCount_49 : decode b_Long_bitCount 49 = .ok (.lload_n 0, 1) := by decide +kernel
theorem d_Long_bitCount_50 : decode b_Long_bitCount 50 = .ok (.bipush 32, 2) := by decide +kernel
theorem d_Long_bitCount_52 : decode b_Long_bitCount 52 = .ok (.lushr, 1) := by decide +kernel
theorem d_Long_bitCount_53 : decode b_Long_bitCount 53 = .ok (.ladd, 1) := by decide +kernel
theorem d_Long_bitCount_54 : decode b_Long_bitCount 54 = .ok (.lstore_n 0, 1) := by decide +kernel
theorem d_Long_bitCount_55 : decode b_Long_bitCount 55 = .ok (.lload_n 0, 1) := by decide +kernel
theorem d_Long_bitCount_56 : decode b_Long_bitCount 56 = .ok (.l2i, 1) := by decide +kernel
theorem d_Long_bitCount_57 : decode b_Long_bitCount 57 = .ok (.bipush 127, 2) := by decide +kernel
theorem d_Long_bitCount_59 : decode b_Long_bitCount 59 = .ok (.iand, 1) := by decide +kernel
theorem d_Long_bitCount_60 : decode b_Long_bitCount 60 = .ok (.ireturn, 1) := by decide +kernel
abbrev b_Wholes_divided : ByteArray := prog_9_method_6_code
def y_Wholes_divided : MethodName := ⟨"BitArithmetic$Wholes", "divided", "(IIJJ)J"⟩
theorem d_Wholes_divided_0 : decode b_Wholes_divided 0 = .ok (.iload_n 1, 1) := by decide +kernel
theorem d_Wholes_divided_1 : decode b_Wholes_divided 1 = .ok (.lload_n 2, 1) := by decide +kernel
theorem d_Wholes_divided_2 : decode b_Wholes_divided 2 = .ok (.invokestatic 47, 3) := by decide +kernel
theorem d_Wholes_divided_5 : decode b_Wholes_divided 5 = .ok (.lstore 6, 2) := by decide +kernel
theorem d_Wholes_divided_7 : decode b_Wholes_divided 7 = .ok (.iload_n 1, 1) := by decide +kernel
theorem d_Wholes_divided_8 : decode b_Wholes_divided 8 = .ok (.lload 4, 2) := by decide +kernel
theorem d_Wholes_divided_10 : decode b_Wholes_divided 10 = .ok (.invokestatic 47, 3) := by decide +kernel
theorem d_Wholes_divided_13 : decode b_Wholes_divided 13 = .ok (.lstore 8, 2) := by decide +kernel
theorem d_Wholes_divided_15 : decode b_Wholes_divided 15 = .ok (.iload_n 1, 1) := by decide +kernel
theorem d_Wholes_divided_16 : decode b_Wholes_divided 16 = .ok (.lload_n 2, 1) := by decide +kernel
theorem d_Wholes_divided_17 : decode b_Wholes_divided 17 = .ok (.invokestatic 13, 3) := by decide +kernel
theorem d_Wholes_divided_20 : decode b_Wholes_divided 20 = .ok (.lstore 10, 2) := by decide +kernel
theorem d_Wholes_divided_22 : decode b_Wholes_divided 22 = .ok (.iload_n 1, 1) := by decide +kernel
theorem d_Wholes_divided_23 : decode b_Wholes_divided 23 = .ok (.lload 4, 2) := by decide +kernel
theorem d_Wholes_divided_25 : decode b_Wholes_divided 25 = .ok (.invokestatic 13, 3) := by decide +kernel
theorem d_Wholes_divided_28 : decode b_Wholes_divided 28 = .ok (.lstore 12, 2) := by decide +kernel
theorem d_Wholes_divided_30 : decode b_Wholes_divided 30 = .ok (.lload 8, 2) := by decide +kernel
theorem d_Wholes_divided_32 : decode b_Wholes_divided 32 = .ok (.lconst 0, 1) := by decide +kernel
theorem d_Wholes_divided_33 : decode b_Wholes_divided 33 = .ok (.lcmp, 1) := by decide +kernel
theorem d_Wholes_divided_34 : decode b_Wholes_divided 34 = .ok (.ifCond .eq 10, 3) := by decide +kernel
theorem d_Wholes_divided_37 : decode b_Wholes_divided 37 = .ok (.lload 12, 2) := by decide +kernel
theorem d_Wholes_divided_39 : decode b_Wholes_divided 39 = .ok (.lconst 0, 1) := by decide +kernel
theorem d_Wholes_divided_40 : decode b_Wholes_divided 40 = .ok (.lcmp, 1) := by decide +kernel
theorem d_Wholes_divided_41 : decode b_Wholes_divided 41 = .ok (.ifCond .ne 13, 3) := by decide +kernel
theorem d_Wholes_divided_44 : decode b_Wholes_divided 44 = .ok (.new 50, 3) := by decide +kernel
theorem d_Wholes_divided_47 : decode b_Wholes_divided 47 = .ok (.dup, 1) := by decide +kernel
theorem d_Wholes_divided_48 : decode b_Wholes_divided 48 = .ok (.ldc 52, 2) := by decide +kernel
theorem d_Wholes_divided_50 : decode b_Wholes_divided 50 = .ok (.invokespecial 54, 3) := by decide +kernel
theorem d_Wholes_divided_53 : decode b_Wholes_divided 53 = .ok (.athrow, 1) := by decide +kernel
theorem d_Wholes_divided_54 : decode b_Wholes_divided 54 = .ok (.iload_n 0, 1) := by decide +kernel
theorem d_Wholes_divided_55 : decode b_Wholes_divided 55 = .ok (.bipush 109, 2) := by decide +kernel
theorem d_Wholes_divided_57 : decode b_Wholes_divided 57 = .ok (.if_icmp .ne 35, 3) := by decide +kernel
theorem d_Wholes_divided_60 : decode b_Wholes_divided 60 = .ok (.lload 8, 2) := by decide +kernel
theorem d_Wholes_divided_62 : decode b_Wholes_divided 62 = .ok (.ldc2_w 57, 3) := by decide +kernel
theorem d_Wholes_divided_65 : decode b_Wholes_divided 65 = .ok (.lcmp, 1) := by decide +kernel
theorem d_Wholes_divided_66 : decode b_Wholes_divided 66 = .ok (.ifCond .ne 26, 3) := by decide +kernel
theorem d_Wholes_divided_69 : decode b_Wholes_divided 69 = .ok (.lload 6, 2) := by decide +kernel
theorem d_Wholes_divided_71 : decode b_Wholes_divided 71 = .ok (.ldc2_w 57, 3) := by decide +kernel
theorem d_Wholes_divided_74 : decode b_Wholes_divided 74 = .ok (.iload_n 1, 1) := by decide +kernel
theorem d_Wholes_divided_75 : decode b_Wholes_divided 75 = .ok (.iconst 1, 1) := by decide +kernel
theorem d_Wholes_divided_76 : decode b_Wholes_divided 76 = .ok (.isub, 1) := by decide +kernel
theorem d_Wholes_divided_77 : decode b_Wholes_divided 77 = .ok (.lshl, 1) := by decide +kernel
theorem d_Wholes_divided_78 : decode b_Wholes_divided 78 = .ok (.lcmp, 1) := by decide +kernel
theorem d_Wholes_divided_79 : decode b_Wholes_divided 79 = .ok (.ifCond .ne 13, 3) := by decide +kernel
theorem d_Wholes_divided_82 : decode b_Wholes_divided 82 = .ok (.new 59, 3) := by decide +kernel
theorem d_Wholes_divided_85 : decode b_Wholes_divided 85 = .ok (.dup, 1) := by decide +kernel
theorem d_Wholes_divided_86 : decode b_Wholes_divided 86 = .ok (.ldc 61, 2) := by decide +kernel
theorem d_Wholes_divided_88 : decode b_Wholes_divided 88 = .ok (.invokespecial 63, 3) := by decide +kernel
theorem d_Wholes_divided_91 : decode b_Wholes_divided 91 = .ok (.athrow, 1) := by decide +kernel
theorem d_Wholes_divided_92 : decode b_Wholes_divided 92 = .ok (.iload_n 0, 1) := by decide +kernel
theorem d_Wholes_divided_93 : decode b_Wholes_divided 93 = .ok (.tableswitch 47 109 111 #[27, 33, 41], 27) := by decide +kernel
theorem d_Wholes_divided_120 : decode b_Wholes_divided 120 = .ok (.lload 6, 2) := by decide +kernel
theorem d_Wholes_divided_122 : decode b_Wholes_divided 122 = .ok (.lload 8, 2) := by decide +kernel
theorem d_Wholes_divided_124 : decode b_Wholes_divided 124 = .ok (.ldiv, 1) := by decide +kernel
theorem d_Wholes_divided_125 : decode b_Wholes_divided 125 = .ok (.lreturn, 1) := by decide +kernel
theorem d_Wholes_divided_126 : decode b_Wholes_divided 126 = .ok (.lload 10, 2) := by decide +kernel
theorem d_Wholes_divided_128 : decode b_Wholes_divided 128 = .ok (.lload 12, 2) := by decide +kernel
theorem d_Wholes_divided_130 : decode b_Wholes_divided 130 = .ok (.invokestatic 64, 3) := by decide +kernel
theorem d_Wholes_divided_133 : decode b_Wholes_divided 133 = .ok (.lreturn, 1) := by decide +kernel
theorem d_Wholes_divided_134 : decode b_Wholes_divided 134 = .ok (.lload 6, 2) := by decide +kernel
theorem d_Wholes_divided_136 : decode b_Wholes_divided 136 = .ok (.lload 8, 2) := by decide +kernel
theorem d_Wholes_divided_138 : decode b_Wholes_divided 138 = .ok (.lrem, 1) := by decide +kernel
theorem d_Wholes_divided_139 : decode b_Wholes_divided 139 = .ok (.lreturn, 1) := by decide +kernel
theorem d_Wholes_divided_140 : decode b_Wholes_divided 140 = .ok (.lload 10, 2) := by decide +kernel
theorem d_Wholes_divided_142 : decode b_Wholes_divided 142 = .ok (.lload 10, 2) := by decide +kernel
theorem d_Wholes_divided_144 : decode b_Wholes_divided 144 = .ok (.lload 12, 2) := by decide +kernel
theorem d_Wholes_divided_146 : decode b_Wholes_divided 146 = .ok (.invokestatic 64, 3) := by decide +kernel
theorem d_Wholes_divided_149 : decode b_Wholes_divided 149 = .ok (.lload 12, 2) := by decide +kernel
theorem d_Wholes_divided_151 : decode b_Wholes_divided 151 = .ok (.lmul, 1) := by decide +kernel
theorem d_Wholes_divided_152 : decode b_Wholes_divided 152 = .ok (.lsub, 1) := by decide +kernel
theorem d_Wholes_divided_153 : decode b_Wholes_divided 153 = .ok (.lreturn, 1) := by decide +kernel
abbrev b_ArithmeticException_init : ByteArray := prog_12_method_2_code
def y_ArithmeticException_init : MethodName := ⟨"java/lang/ArithmeticException", "<init>", "(Ljava/lang/String;)V"⟩
theorem d_ArithmeticException_init_0 : decode b_ArithmeticException_init 0 = .ok (.aload_n 0, 1) := by decide +kernel
theorem d_ArithmeticException_init_1 : decode b_ArithmeticException_init 1 = .ok (.aload_n 1, 1) := by decide +kernel
theorem d_ArithmeticException_init_2 : decode b_ArithmeticException_init 2 = .ok (.invokespecial 7, 3) := by decide +kernel
theorem d_ArithmeticException_init_5 : decode b_ArithmeticException_init 5 = .ok (.return_, 1) := by decide +kernel
abbrev b_Wholes_unsignedQuotient : ByteArray := prog_9_method_7_code
def y_Wholes_unsignedQuotient : MethodName := ⟨"BitArithmetic$Wholes", "unsignedQuotient", "(JJ)J"⟩
theorem d_Wholes_unsignedQuotient_0 : decode b_Wholes_unsignedQuotient 0 = .ok (.lload_n 2, 1) := by decide +kernel
theorem d_Wholes_unsignedQuotient_1 : decode b_Wholes_unsignedQuotient 1 = .ok (.lconst 0, 1) := by decide +kernel
theorem d_Wholes_unsignedQuotient_2 : decode b_Wholes_unsignedQuotient 2 = .ok (.lcmp, 1) := by decide +kernel
theorem d_Wholes_unsignedQuotient_3 : decode b_Wholes_unsignedQuotient 3 = .ok (.ifCond .ge 17, 3) := by decide +kernel
theorem d_Wholes_unsignedQuotient_6 : decode b_Wholes_unsignedQuotient 6 = .ok (.lload_n 0, 1) := by decide +kernel
theorem d_Wholes_unsignedQuotient_7 : decode b_Wholes_unsignedQuotient 7 = .ok (.lload_n 2, 1) := by decide +kernel
theorem d_Wholes_unsignedQuotient_8 : decode b_Wholes_unsignedQuotient 8 = .ok (.invokestatic 7, 3) := by decide +kernel
theorem d_Wholes_unsignedQuotient_11 : decode b_Wholes_unsignedQuotient 11 = .ok (.ifCond .ge 7, 3) := by decide +kernel
theorem d_Wholes_unsignedQuotient_14 : decode b_Wholes_unsignedQuotient 14 = .ok (.lconst 0, 1) := by decide +kernel
theorem d_Wholes_unsignedQuotient_15 : decode b_Wholes_unsignedQuotient 15 = .ok (.goto 4, 3) := by decide +kernel
theorem d_Wholes_unsignedQuotient_18 : decode b_Wholes_unsignedQuotient 18 = .ok (.lconst 1, 1) := by decide +kernel
theorem d_Wholes_unsignedQuotient_19 : decode b_Wholes_unsignedQuotient 19 = .ok (.lreturn, 1) := by decide +kernel
theorem d_Wholes_unsignedQuotient_20 : decode b_Wholes_unsignedQuotient 20 = .ok (.lload_n 0, 1) := by decide +kernel
theorem d_Wholes_unsignedQuotient_21 : decode b_Wholes_unsignedQuotient 21 = .ok (.iconst 1, 1) := by decide +kernel
theorem d_Wholes_unsignedQuotient_22 : decode b_Wholes_unsignedQuotient 22 = .ok (.lushr, 1) := by decide +kernel
theorem d_Wholes_unsignedQuotient_23 : decode b_Wholes_unsignedQuotient 23 = .ok (.lload_n 2, 1) := by decide +kernel
theorem d_Wholes_unsignedQuotient_24 : decode b_Wholes_unsignedQuotient 24 = .ok (.ldiv, 1) := by decide +kernel
theorem d_Wholes_unsignedQuotient_25 : decode b_Wholes_unsignedQuotient 25 = .ok (.iconst 1, 1) := by decide +kernel
theorem d_Wholes_unsignedQuotient_26 : decode b_Wholes_unsignedQuotient 26 = .ok (.lshl, 1) := by decide +kernel
theorem d_Wholes_unsignedQuotient_27 : decode b_Wholes_unsignedQuotient 27 = .ok (.lstore 4, 2) := by decide +kernel
theorem d_Wholes_unsignedQuotient_29 : decode b_Wholes_unsignedQuotient 29 = .ok (.lload_n 0, 1) := by decide +kernel
theorem d_Wholes_unsignedQuotient_30 : decode b_Wholes_unsignedQuotient 30 = .ok (.lload 4, 2) := by decide +kernel
theorem d_Wholes_unsignedQuotient_32 : decode b_Wholes_unsignedQuotient 32 = .ok (.lload_n 2, 1) := by decide +kernel
theorem d_Wholes_unsignedQuotient_33 : decode b_Wholes_unsignedQuotient 33 = .ok (.lmul, 1) := by decide +kernel
theorem d_Wholes_unsignedQuotient_34 : decode b_Wholes_unsignedQuotient 34 = .ok (.lsub, 1) := by decide +kernel
theorem d_Wholes_unsignedQuotient_35 : decode b_Wholes_unsignedQuotient 35 = .ok (.lstore 6, 2) := by decide +kernel
theorem d_Wholes_unsignedQuotient_37 : decode b_Wholes_unsignedQuotient 37 = .ok (.lload 6, 2) := by decide +kernel
theorem d_Wholes_unsignedQuotient_39 : decode b_Wholes_unsignedQuotient 39 = .ok (.lload_n 2, 1) := by decide +kernel
theorem d_Wholes_unsignedQuotient_40 : decode b_Wholes_unsignedQuotient 40 = .ok (.invokestatic 7, 3) := by decide +kernel
theorem d_Wholes_unsignedQuotient_43 : decode b_Wholes_unsignedQuotient 43 = .ok (.ifCond .ge 8, 3) := by decide +kernel
theorem d_Wholes_unsignedQuotient_46 : decode b_Wholes_unsignedQuotient 46 = .ok (.lload 4, 2) := by decide +kernel
theorem d_Wholes_unsignedQuotient_48 : decode b_Wholes_unsignedQuotient 48 = .ok (.goto 7, 3) := by decide +kernel
theorem d_Wholes_unsignedQuotient_51 : decode b_Wholes_unsignedQuotient 51 = .ok (.lload 4, 2) := by decide +kernel
theorem d_Wholes_unsignedQuotient_53 : decode b_Wholes_unsignedQuotient 53 = .ok (.lconst 1, 1) := by decide +kernel
theorem d_Wholes_unsignedQuotient_54 : decode b_Wholes_unsignedQuotient 54 = .ok (.ladd, 1) := by decide +kernel
theorem d_Wholes_unsignedQuotient_55 : decode b_Wholes_unsignedQuotient 55 = .ok (.lreturn, 1) := by decide +kernel
abbrev b_Wholes_moved : ByteArray := prog_9_method_8_code
def y_Wholes_moved : MethodName := ⟨"BitArithmetic$Wholes", "moved", "(IIJI)J"⟩
theorem d_Wholes_moved_0 : decode b_Wholes_moved 0 = .ok (.iload_n 0, 1) := by decide +kernel
theorem d_Wholes_moved_1 : decode b_Wholes_moved 1 = .ok (.tableswitch 62 116 119 #[31, 36, 45, 54], 31) := by decide +kernel
theorem d_Wholes_moved_32 : decode b_Wholes_moved 32 = .ok (.lload_n 2, 1) := by decide +kernel
theorem d_Wholes_moved_33 : decode b_Wholes_moved 33 = .ok (.iload 4, 2) := by decide +kernel
theorem d_Wholes_moved_35 : decode b_Wholes_moved 35 = .ok (.lshl, 1) := by decide +kernel
theorem d_Wholes_moved_36 : decode b_Wholes_moved 36 = .ok (.lreturn, 1) := by decide +kernel
theorem d_Wholes_moved_37 : decode b_Wholes_moved 37 = .ok (.iload_n 1, 1) := by decide +kernel
theorem d_Wholes_moved_38 : decode b_Wholes_moved 38 = .ok (.lload_n 2, 1) := by decide +kernel
theorem d_Wholes_moved_39 : decode b_Wholes_moved 39 = .ok (.invokestatic 47, 3) := by decide +kernel
theorem d_Wholes_moved_42 : decode b_Wholes_moved 42 = .ok (.iload 4, 2) := by decide +kernel
theorem d_Wholes_moved_44 : decode b_Wholes_moved 44 = .ok (.lshr, 1) := by decide +kernel
theorem d_Wholes_moved_45 : decode b_Wholes_moved 45 = .ok (.lreturn, 1) := by decide +kernel
theorem d_Wholes_moved_46 : decode b_Wholes_moved 46 = .ok (.iload_n 1, 1) := by decide +kernel
theorem d_Wholes_moved_47 : decode b_Wholes_moved 47 = .ok (.lload_n 2, 1) := by decide +kernel
theorem d_Wholes_moved_48 : decode b_Wholes_moved 48 = .ok (.invokestatic 13, 3) := by decide +kernel
theorem d_Wholes_moved_51 : decode b_Wholes_moved 51 = .ok (.iload 4, 2) := by decide +kernel
theorem d_Wholes_moved_53 : decode b_Wholes_moved 53 = .ok (.lushr, 1) := by decide +kernel
theorem d_Wholes_moved_54 : decode b_Wholes_moved 54 = .ok (.lreturn, 1) := by decide +kernel
theorem d_Wholes_moved_55 : decode b_Wholes_moved 55 = .ok (.iload_n 1, 1) := by decide +kernel
theorem d_Wholes_moved_56 : decode b_Wholes_moved 56 = .ok (.lload_n 2, 1) := by decide +kernel
theorem d_Wholes_moved_57 : decode b_Wholes_moved 57 = .ok (.iload 4, 2) := by decide +kernel
theorem d_Wholes_moved_59 : decode b_Wholes_moved 59 = .ok (.invokestatic 68, 3) := by decide +kernel
theorem d_Wholes_moved_62 : decode b_Wholes_moved 62 = .ok (.lreturn, 1) := by decide +kernel
theorem d_Wholes_moved_63 : decode b_Wholes_moved 63 = .ok (.iload_n 1, 1) := by decide +kernel
theorem d_Wholes_moved_64 : decode b_Wholes_moved 64 = .ok (.lload_n 2, 1) := by decide +kernel
theorem d_Wholes_moved_65 : decode b_Wholes_moved 65 = .ok (.iload_n 1, 1) := by decide +kernel
theorem d_Wholes_moved_66 : decode b_Wholes_moved 66 = .ok (.iload 4, 2) := by decide +kernel
theorem d_Wholes_moved_68 : decode b_Wholes_moved 68 = .ok (.isub, 1) := by decide +kernel
theorem d_Wholes_moved_69 : decode b_Wholes_moved 69 = .ok (.iload_n 1, 1) := by decide +kernel
theorem d_Wholes_moved_70 : decode b_Wholes_moved 70 = .ok (.iconst 1, 1) := by decide +kernel
theorem d_Wholes_moved_71 : decode b_Wholes_moved 71 = .ok (.isub, 1) := by decide +kernel
theorem d_Wholes_moved_72 : decode b_Wholes_moved 72 = .ok (.iand, 1) := by decide +kernel
theorem d_Wholes_moved_73 : decode b_Wholes_moved 73 = .ok (.invokestatic 68, 3) := by decide +kernel
theorem d_Wholes_moved_76 : decode b_Wholes_moved 76 = .ok (.lreturn, 1) := by decide +kernel
abbrev b_Wholes_turnedUp : ByteArray := prog_9_method_9_code
def y_Wholes_turnedUp : MethodName := ⟨"BitArithmetic$Wholes", "turnedUp", "(IJI)J"⟩
theorem d_Wholes_turnedUp_0 : decode b_Wholes_turnedUp 0 = .ok (.iload_n 0, 1) := by decide +kernel
theorem d_Wholes_turnedUp_1 : decode b_Wholes_turnedUp 1 = .ok (.bipush 32, 2) := by decide +kernel
theorem d_Wholes_turnedUp_3 : decode b_Wholes_turnedUp 3 = .ok (.if_icmp .ne 13, 3) := by decide +kernel
theorem d_Wholes_turnedUp_6 : decode b_Wholes_turnedUp 6 = .ok (.lload_n 1, 1) := by decide +kernel
theorem d_Wholes_turnedUp_7 : decode b_Wholes_turnedUp 7 = .ok (.l2i, 1) := by decide +kernel
theorem d_Wholes_turnedUp_8 : decode b_Wholes_turnedUp 8 = .ok (.iload_n 3, 1) := by decide +kernel
theorem d_Wholes_turnedUp_9 : decode b_Wholes_turnedUp 9 = .ok (.invokestatic 72, 3) := by decide +kernel
theorem d_Wholes_turnedUp_12 : decode b_Wholes_turnedUp 12 = .ok (.i2l, 1) := by decide +kernel
theorem d_Wholes_turnedUp_13 : decode b_Wholes_turnedUp 13 = .ok (.goto 8, 3) := by decide +kernel
theorem d_Wholes_turnedUp_16 : decode b_Wholes_turnedUp 16 = .ok (.lload_n 1, 1) := by decide +kernel
theorem d_Wholes_turnedUp_17 : decode b_Wholes_turnedUp 17 = .ok (.iload_n 3, 1) := by decide +kernel
theorem d_Wholes_turnedUp_18 : decode b_Wholes_turnedUp 18 = .ok (.invokestatic 78, 3) := by decide +kernel
theorem d_Wholes_turnedUp_21 : decode b_Wholes_turnedUp 21 = .ok (.lreturn, 1) := by decide +kernel
abbrev b_Integer_rotateLeft : ByteArray := prog_17_method_50_code
def y_Integer_rotateLeft : MethodName := ⟨"java/lang/Integer", "rotateLeft", "(II)I"⟩
theorem d_Integer_rotateLeft_0 : decode b_Integer_rotateLeft 0 = .ok (.iload_n 0, 1) := by decide +kernel
theorem d_Integer_rotateLeft_1 : decode b_Integer_rotateLeft 1 = .ok (.iload_n 1, 1) := by decide +kernel
theorem d_Integer_rotateLeft_2 : decode b_Integer_rotateLeft 2 = .ok (.ishl, 1) := by decide +kernel
theorem d_Integer_rotateLeft_3 : decode b_Integer_rotateLeft 3 = .ok (.iload_n 0, 1) := by decide +kernel
theorem d_Integer_rotateLeft_4 : decode b_Integer_rotateLeft 4 = .ok (.iload_n 1, 1) := by decide +kernel
theorem d_Integer_rotateLeft_5 : decode b_Integer_rotateLeft 5 = .ok (.ineg, 1) := by decide +kernel
theorem d_Integer_rotateLeft_6 : decode b_Integer_rotateLeft 6 = .ok (.iushr, 1) := by decide +kernel
theorem d_Integer_rotateLeft_7 : decode b_Integer_rotateLeft 7 = .ok (.ior, 1) := by decide +kernel
theorem d_Integer_rotateLeft_8 : decode b_Integer_rotateLeft 8 = .ok (.ireturn, 1) := by decide +kernel
abbrev b_Long_rotateLeft : ByteArray := prog_18_method_51_code
def y_Long_rotateLeft : MethodName := ⟨"java/lang/Long", "rotateLeft", "(JI)J"⟩
theorem d_Long_rotateLeft_0 : decode b_Long_rotateLeft 0 = .ok (.lload_n 0, 1) := by decide +kernel
theorem d_Long_rotateLeft_1 : decode b_Long_rotateLeft 1 = .ok (.iload_n 2, 1) := by decide +kernel
theorem d_Long_rotateLeft_2 : decode b_Long_rotateLeft 2 = .ok (.lshl, 1) := by decide +kernel
theorem d_Long_rotateLeft_3 : decode b_Long_rotateLeft 3 = .ok (.lload_n 0, 1) := by decide +kernel
theorem d_Long_rotateLeft_4 : decode b_Long_rotateLeft 4 = .ok (.iload_n 2, 1) := by decide +kernel
theorem d_Long_rotateLeft_5 : decode b_Long_rotateLeft 5 = .ok (.ineg, 1) := by decide +kernel
theorem d_Long_rotateLeft_6 : decode b_Long_rotateLeft 6 = .ok (.lushr, 1) := by decide +kernel
theorem d_Long_rotateLeft_7 : decode b_Long_rotateLeft 7 = .ok (.lor, 1) := by decide +kernel
theorem d_Long_rotateLeft_8 : decode b_Long_rotateLeft 8 = .ok (.lreturn, 1) := by decide +kernel
abbrev b_Wholes_combined : ByteArray := prog_9_method_5_code
def y_Wholes_combined : MethodName := ⟨"BitArithmetic$Wholes", "combined", "(IJJ)J"⟩
theorem d_Wholes_combined_0 : decode b_Wholes_combined 0 = .ok (.iload_n 0, 1) := by decide +kernel
theorem d_Wholes_combined_1 : decode b_Wholes_combined 1 = .ok (.tableswitch 71 106 114 #[51, 55, 59, 71, 71, 71, 71, 63, 67], 51) := by decide +kernel
theorem d_Wholes_combined_52 : decode b_Wholes_combined 52 = .ok (.lload_n 1, 1) := by decide +kernel
theorem d_Wholes_combined_53 : decode b_Wholes_combined 53 = .ok (.lload_n 3, 1) := by decide +kernel
theorem d_Wholes_combined_54 : decode b_Wholes_combined 54 = .ok (.ladd, 1) := by decide +kernel
theorem d_Wholes_combined_55 : decode b_Wholes_combined 55 = .ok (.lreturn, 1) := by decide +kernel
theorem d_Wholes_combined_56 : decode b_Wholes_combined 56 = .ok (.lload_n 1, 1) := by decide +kernel
theorem d_Wholes_combined_57 : decode b_Wholes_combined 57 = .ok (.lload_n 3, 1) := by decide +kernel
theorem d_Wholes_combined_58 : decode b_Wholes_combined 58 = .ok (.lsub, 1) := by decide +kernel
theorem d_Wholes_combined_59 : decode b_Wholes_combined 59 = .ok (.lreturn, 1) := by decide +kernel
theorem d_Wholes_combined_60 : decode b_Wholes_combined 60 = .ok (.lload_n 1, 1) := by decide +kernel
theorem d_Wholes_combined_61 : decode b_Wholes_combined 61 = .ok (.lload_n 3, 1) := by decide +kernel
theorem d_Wholes_combined_62 : decode b_Wholes_combined 62 = .ok (.lmul, 1) := by decide +kernel
theorem d_Wholes_combined_63 : decode b_Wholes_combined 63 = .ok (.lreturn, 1) := by decide +kernel
theorem d_Wholes_combined_64 : decode b_Wholes_combined 64 = .ok (.lload_n 1, 1) := by decide +kernel
theorem d_Wholes_combined_65 : decode b_Wholes_combined 65 = .ok (.lload_n 3, 1) := by decide +kernel
theorem d_Wholes_combined_66 : decode b_Wholes_combined 66 = .ok (.land, 1) := by decide +kernel
theorem d_Wholes_combined_67 : decode b_Wholes_combined 67 = .ok (.lreturn, 1) := by decide +kernel
theorem d_Wholes_combined_68 : decode b_Wholes_combined 68 = .ok (.lload_n 1, 1) := by decide +kernel
theorem d_Wholes_combined_69 : decode b_Wholes_combined 69 = .ok (.lload_n 3, 1) := by decide +kernel
theorem d_Wholes_combined_70 : decode b_Wholes_combined 70 = .ok (.lor, 1) := by decide +kernel
theorem d_Wholes_combined_71 : decode b_Wholes_combined 71 = .ok (.lreturn, 1) := by decide +kernel
theorem d_Wholes_combined_72 : decode b_Wholes_combined 72 = .ok (.lload_n 1, 1) := by decide +kernel
theorem d_Wholes_combined_73 : decode b_Wholes_combined 73 = .ok (.lload_n 3, 1) := by decide +kernel
theorem d_Wholes_combined_74 : decode b_Wholes_combined 74 = .ok (.lxor, 1) := by decide +kernel
theorem d_Wholes_combined_75 : decode b_Wholes_combined 75 = .ok (.lreturn, 1) := by decide +kernel
abbrev b_Floats_test : ByteArray := prog_4_method_2_code
def y_Floats_test : MethodName := ⟨"BitArithmetic$Floats", "test", "(ILBitArithmetic$Form;JJ)Z"⟩
theorem d_Floats_test_0 : decode b_Floats_test 0 = .ok (.aload_n 1, 1) := by decide +kernel
theorem d_Floats_test_1 : decode b_Floats_test 1 = .ok (.lload_n 2, 1) := by decide +kernel
theorem d_Floats_test_2 : decode b_Floats_test 2 = .ok (.invokevirtual 7, 3) := by decide +kernel
theorem d_Floats_test_5 : decode b_Floats_test 5 = .ok (.ifCond .ne 12, 3) := by decide +kernel
theorem d_Floats_test_8 : decode b_Floats_test 8 = .ok (.aload_n 1, 1) := by decide +kernel
theorem d_Floats_test_9 : decode b_Floats_test 9 = .ok (.lload 4, 2) := by decide +kernel
theorem d_Floats_test_11 : decode b_Floats_test 11 = .ok (.invokevirtual 7, 3) := by decide +kernel
theorem d_Floats_test_14 : decode b_Floats_test 14 = .ok (.ifCond .eq 15, 3) := by decide +kernel
theorem d_Floats_test_17 : decode b_Floats_test 17 = .ok (.iload_n 0, 1) := by decide +kernel
theorem d_Floats_test_18 : decode b_Floats_test 18 = .ok (.bipush 92, 2) := by decide +kernel
theorem d_Floats_test_20 : decode b_Floats_test 20 = .ok (.if_icmp .ne 7, 3) := by decide +kernel
theorem d_Floats_test_23 : decode b_Floats_test 23 = .ok (.iconst 1, 1) := by decide +kernel
theorem d_Floats_test_24 : decode b_Floats_test 24 = .ok (.goto 4, 3) := by decide +kernel
theorem d_Floats_test_27 : decode b_Floats_test 27 = .ok (.iconst 0, 1) := by decide +kernel
theorem d_Floats_test_28 : decode b_Floats_test 28 = .ok (.ireturn, 1) := by decide +kernel
theorem d_Floats_test_29 : decode b_Floats_test 29 = .ok (.aload_n 1, 1) := by decide +kernel
theorem d_Floats_test_30 : decode b_Floats_test 30 = .ok (.lload_n 2, 1) := by decide +kernel
theorem d_Floats_test_31 : decode b_Floats_test 31 = .ok (.invokestatic 13, 3) := by decide +kernel
theorem d_Floats_test_34 : decode b_Floats_test 34 = .ok (.lstore 6, 2) := by decide +kernel
theorem d_Floats_test_36 : decode b_Floats_test 36 = .ok (.aload_n 1, 1) := by decide +kernel
theorem d_Floats_test_37 : decode b_Floats_test 37 = .ok (.lload 4, 2) := by decide +kernel
theorem d_Floats_test_39 : decode b_Floats_test 39 = .ok (.invokestatic 13, 3) := by decide +kernel
theorem d_Floats_test_42 : decode b_Floats_test 42 = .ok (.lstore 8, 2) := by decide +kernel
theorem d_Floats_test_44 : decode b_Floats_test 44 = .ok (.iload_n 0, 1) := by decide +kernel
theorem d_Floats_test_45 : decode b_Floats_test 45 = .ok (.tableswitch 105 91 95 #[35, 49, 63, 77, 91], 35) := by decide +kernel
theorem d_Floats_test_80 : decode b_Floats_test 80 = .ok (.lload 6, 2) := by decide +kernel
theorem d_Floats_test_82 : decode b_Floats_test 82 = .ok (.lload 8, 2) := by decide +kernel
theorem d_Floats_test_84 : decode b_Floats_test 84 = .ok (.lcmp, 1) := by decide +kernel
theorem d_Floats_test_85 : decode b_Floats_test 85 = .ok (.ifCond .ne 7, 3) := by decide +kernel
theorem d_Floats_test_88 : decode b_Floats_test 88 = .ok (.iconst 1, 1) := by decide +kernel
theorem d_Floats_test_89 : decode b_Floats_test 89 = .ok (.goto 4, 3) := by decide +kernel
theorem d_Floats_test_92 : decode b_Floats_test 92 = .ok (.iconst 0, 1) := by decide +kernel
theorem d_Floats_test_93 : decode b_Floats_test 93 = .ok (.ireturn, 1) := by decide +kernel
theorem d_Floats_test_94 : decode b_Floats_test 94 = .ok (.lload 6, 2) := by decide +kernel
theorem d_Floats_test_96 : decode b_Floats_test 96 = .ok (.lload 8, 2) := by decide +kernel
theorem d_Floats_test_98 : decode b_Floats_test 98 = .ok (.lcmp, 1) := by decide +kernel
theorem d_Floats_test_99 : decode b_Floats_test 99 = .ok (.ifCond .eq 7, 3) := by decide +kernel
theorem d_Floats_test_102 : decode b_Floats_test 102 = .ok (.iconst 1, 1) := by decide +kernel
theorem d_Floats_test_103 : decode b_Floats_test 103 = .ok (.goto 4, 3) := by decide +kernel
theorem d_Floats_test_106 : decode b_Floats_test 106 = .ok (.iconst 0, 1) := by decide +kernel
theorem d_Floats_test_107 : decode b_Floats_test 107 = .ok (.ireturn, 1) := by decide +kernel
theorem d_Floats_test_108 : decode b_Floats_test 108 = .ok (.lload 6, 2) := by decide +kernel
theorem d_Floats_test_110 : decode b_Floats_test 110 = .ok (.lload 8, 2) := by decide +kernel
theorem d_Floats_test_112 : decode b_Floats_test 112 = .ok (.lcmp, 1) := by decide +kernel
theorem d_Floats_test_113 : decode b_Floats_test 113 = .ok (.ifCond .ge 7, 3) := by decide +kernel
theorem d_Floats_test_116 : decode b_Floats_test 116 = .ok (.iconst 1, 1) := by decide +kernel
theorem d_Floats_test_117 : decode b_Floats_test 117 = .ok (.goto 4, 3) := by decide +kernel
theorem d_Floats_test_120 : decode b_Floats_test 120 = .ok (.iconst 0, 1) := by decide +kernel
theorem d_Floats_test_121 : decode b_Floats_test 121 = .ok (.ireturn, 1) := by decide +kernel
theorem d_Floats_test_122 : decode b_Floats_test 122 = .ok (.lload 6, 2) := by decide +kernel
theorem d_Floats_test_124 : decode b_Floats_test 124 = .ok (.lload 8, 2) := by decide +kernel
theorem d_Floats_test_126 : decode b_Floats_test 126 = .ok (.lcmp, 1) := by decide +kernel
theorem d_Floats_test_127 : decode b_Floats_test 127 = .ok (.ifCond .le 7, 3) := by decide +kernel
theorem d_Floats_test_130 : decode b_Floats_test 130 = .ok (.iconst 1, 1) := by decide +kernel
theorem d_Floats_test_131 : decode b_Floats_test 131 = .ok (.goto 4, 3) := by decide +kernel
theorem d_Floats_test_134 : decode b_Floats_test 134 = .ok (.iconst 0, 1) := by decide +kernel
theorem d_Floats_test_135 : decode b_Floats_test 135 = .ok (.ireturn, 1) := by decide +kernel
theorem d_Floats_test_136 : decode b_Floats_test 136 = .ok (.lload 6, 2) := by decide +kernel
theorem d_Floats_test_138 : decode b_Floats_test 138 = .ok (.lload 8, 2) := by decide +kernel
theorem d_Floats_test_140 : decode b_Floats_test 140 = .ok (.lcmp, 1) := by decide +kernel
theorem d_Floats_test_141 : decode b_Floats_test 141 = .ok (.ifCond .gt 7, 3) := by decide +kernel
theorem d_Floats_test_144 : decode b_Floats_test 144 = .ok (.iconst 1, 1) := by decide +kernel
theorem d_Floats_test_145 : decode b_Floats_test 145 = .ok (.goto 4, 3) := by decide +kernel
theorem d_Floats_test_148 : decode b_Floats_test 148 = .ok (.iconst 0, 1) := by decide +kernel
theorem d_Floats_test_149 : decode b_Floats_test 149 = .ok (.ireturn, 1) := by decide +kernel
theorem d_Floats_test_150 : decode b_Floats_test 150 = .ok (.lload 6, 2) := by decide +kernel
theorem d_Floats_test_152 : decode b_Floats_test 152 = .ok (.lload 8, 2) := by decide +kernel
theorem d_Floats_test_154 : decode b_Floats_test 154 = .ok (.lcmp, 1) := by decide +kernel
theorem d_Floats_test_155 : decode b_Floats_test 155 = .ok (.ifCond .lt 7, 3) := by decide +kernel
theorem d_Floats_test_158 : decode b_Floats_test 158 = .ok (.iconst 1, 1) := by decide +kernel
theorem d_Floats_test_159 : decode b_Floats_test 159 = .ok (.goto 4, 3) := by decide +kernel
theorem d_Floats_test_162 : decode b_Floats_test 162 = .ok (.iconst 0, 1) := by decide +kernel
theorem d_Floats_test_163 : decode b_Floats_test 163 = .ok (.ireturn, 1) := by decide +kernel
abbrev b_Floats_asWhole : ByteArray := prog_4_method_3_code
def y_Floats_asWhole : MethodName := ⟨"BitArithmetic$Floats", "asWhole", "(LBitArithmetic$Form;J)J"⟩
theorem d_Floats_asWhole_0 : decode b_Floats_asWhole 0 = .ok (.aload_n 0, 1) := by decide +kernel
theorem d_Floats_asWhole_1 : decode b_Floats_asWhole 1 = .ok (.lload_n 1, 1) := by decide +kernel
theorem d_Floats_asWhole_2 : decode b_Floats_asWhole 2 = .ok (.invokevirtual 19, 3) := by decide +kernel
theorem d_Floats_asWhole_5 : decode b_Floats_asWhole 5 = .ok (.lconst 0, 1) := by decide +kernel
theorem d_Floats_asWhole_6 : decode b_Floats_asWhole 6 = .ok (.lcmp, 1) := by decide +kernel
theorem d_Floats_asWhole_7 : decode b_Floats_asWhole 7 = .ok (.ifCond .ne 7, 3) := by decide +kernel
theorem d_Floats_asWhole_10 : decode b_Floats_asWhole 10 = .ok (.lload_n 1, 1) := by decide +kernel
theorem d_Floats_asWhole_11 : decode b_Floats_asWhole 11 = .ok (.goto 9, 3) := by decide +kernel
theorem d_Floats_asWhole_14 : decode b_Floats_asWhole 14 = .ok (.aload_n 0, 1) := by decide +kernel
theorem d_Floats_asWhole_15 : decode b_Floats_asWhole 15 = .ok (.lload_n 1, 1) := by decide +kernel
theorem d_Floats_asWhole_16 : decode b_Floats_asWhole 16 = .ok (.invokevirtual 23, 3) := by decide +kernel
theorem d_Floats_asWhole_19 : decode b_Floats_asWhole 19 = .ok (.lneg, 1) := by decide +kernel
theorem d_Floats_asWhole_20 : decode b_Floats_asWhole 20 = .ok (.lreturn, 1) := by decide +kernel
abbrev b_Floats_calculate : ByteArray := prog_4_method_4_code
def y_Floats_calculate : MethodName := ⟨"BitArithmetic$Floats", "calculate", "(ILBitArithmetic$Form;JJ)J"⟩
theorem d_Floats_calculate_0 : decode b_Floats_calculate 0 = .ok (.iload_n 0, 1) := by decide +kernel
theorem d_Floats_calculate_1 : decode b_Floats_calculate 1 = .ok (.lookupswitch 61 #[(139, 35), (140, 41), (152, 48)], 35) := by decide +kernel
theorem d_Floats_calculate_36 : decode b_Floats_calculate 36 = .ok (.aload_n 1, 1) := by decide +kernel
theorem d_Floats_calculate_37 : decode b_Floats_calculate 37 = .ok (.lload_n 2, 1) := by decide +kernel
theorem d_Floats_calculate_38 : decode b_Floats_calculate 38 = .ok (.invokevirtual 23, 3) := by decide +kernel
theorem d_Floats_calculate_41 : decode b_Floats_calculate 41 = .ok (.lreturn, 1) := by decide +kernel
theorem d_Floats_calculate_42 : decode b_Floats_calculate 42 = .ok (.lload_n 2, 1) := by decide +kernel
theorem d_Floats_calculate_43 : decode b_Floats_calculate 43 = .ok (.aload_n 1, 1) := by decide +kernel
theorem d_Floats_calculate_44 : decode b_Floats_calculate 44 = .ok (.getfield 26, 3) := by decide +kernel
theorem d_Floats_calculate_47 : decode b_Floats_calculate 47 = .ok (.lxor, 1) := by decide +kernel
theorem d_Floats_calculate_48 : decode b_Floats_calculate 48 = .ok (.lreturn, 1) := by decide +kernel
theorem d_Floats_calculate_49 : decode b_Floats_calculate 49 = .ok (.aload_n 1, 1) := by decide +kernel
theorem d_Floats_calculate_50 : decode b_Floats_calculate 50 = .ok (.lload_n 2, 1) := by decide +kernel
theorem d_Floats_calculate_51 : decode b_Floats_calculate 51 = .ok (.invokevirtual 23, 3) := by decide +kernel
theorem d_Floats_calculate_54 : decode b_Floats_calculate 54 = .ok (.aload_n 1, 1) := by decide +kernel
theorem d_Floats_calculate_55 : decode b_Floats_calculate 55 = .ok (.lload 4, 2) := by decide +kernel
theorem d_Floats_calculate_57 : decode b_Floats_calculate 57 = .ok (.invokevirtual 19, 3) := by decide +kernel
theorem d_Floats_calculate_60 : decode b_Floats_calculate 60 = .ok (.lor, 1) := by decide +kernel
theorem d_Floats_calculate_61 : decode b_Floats_calculate 61 = .ok (.lreturn, 1) := by decide +kernel
theorem d_Floats_calculate_62 : decode b_Floats_calculate 62 = .ok (.iload_n 0, 1) := by decide +kernel
theorem d_Floats_calculate_63 : decode b_Floats_calculate 63 = .ok (.sipush 146, 3) := by decide +kernel
theorem d_Floats_calculate_66 : decode b_Floats_calculate 66 = .ok (.if_icmp .lt 7, 3) := by decide +kernel
theorem d_Floats_calculate_69 : decode b_Floats_calculate 69 = .ok (.iconst 1, 1) := by decide +kernel
theorem d_Floats_calculate_70 : decode b_Floats_calculate 70 = .ok (.goto 4, 3) := by decide +kernel
theorem d_Floats_calculate_73 : decode b_Floats_calculate 73 = .ok (.iconst 0, 1) := by decide +kernel
theorem d_Floats_calculate_74 : decode b_Floats_calculate 74 = .ok (.istore 6, 2) := by decide +kernel
theorem d_Floats_calculate_76 : decode b_Floats_calculate 76 = .ok (.aload_n 1, 1) := by decide +kernel
theorem d_Floats_calculate_77 : decode b_Floats_calculate 77 = .ok (.lload_n 2, 1) := by decide +kernel
theorem d_Floats_calculate_78 : decode b_Floats_calculate 78 = .ok (.invokevirtual 7, 3) := by decide +kernel
theorem d_Floats_calculate_81 : decode b_Floats_calculate 81 = .ok (.ifCond .ne 17, 3) := by decide +kernel
theorem d_Floats_calculate_84 : decode b_Floats_calculate 84 = .ok (.iload 6, 2) := by decide +kernel
theorem d_Floats_calculate_86 : decode b_Floats_calculate 86 = .ok (.ifCond .eq 17, 3) := by decide +kernel
theorem d_Floats_calculate_89 : decode b_Floats_calculate 89 = .ok (.aload_n 1, 1) := by decide +kernel
theorem d_Floats_calculate_90 : decode b_Floats_calculate 90 = .ok (.lload 4, 2) := by decide +kernel
theorem d_Floats_calculate_92 : decode b_Floats_calculate 92 = .ok (.invokevirtual 7, 3) := by decide +kernel
theorem d_Floats_calculate_95 : decode b_Floats_calculate 95 = .ok (.ifCond .eq 8, 3) := by decide +kernel
theorem d_Floats_calculate_98 : decode b_Floats_calculate 98 = .ok (.aload_n 1, 1) := by decide +kernel
theorem d_Floats_calculate_99 : decode b_Floats_calculate 99 = .ok (.getfield 30, 3) := by decide +kernel
theorem d_Floats_calculate_102 : decode b_Floats_calculate 102 = .ok (.lreturn, 1) := by decide +kernel
theorem d_Floats_calculate_103 : decode b_Floats_calculate 103 = .ok (.iload_n 0, 1) := by decide +kernel
theorem d_Floats_calculate_104 : decode b_Floats_calculate 104 = .ok (.tableswitch 121 145 151 #[44, 50, 58, 71, 79, 87, 104], 44) := by decide +kernel
theorem d_Floats_calculate_148 : decode b_Floats_calculate 148 = .ok (.aload_n 1, 1) := by decide +kernel
theorem d_Floats_calculate_149 : decode b_Floats_calculate 149 = .ok (.lload_n 2, 1) := by decide +kernel
theorem d_Floats_calculate_150 : decode b_Floats_calculate 150 = .ok (.invokestatic 33, 3) := by decide +kernel
theorem d_Floats_calculate_153 : decode b_Floats_calculate 153 = .ok (.lreturn, 1) := by decide +kernel
theorem d_Floats_calculate_154 : decode b_Floats_calculate 154 = .ok (.aload_n 1, 1) := by decide +kernel
theorem d_Floats_calculate_155 : decode b_Floats_calculate 155 = .ok (.lload_n 2, 1) := by decide +kernel
theorem d_Floats_calculate_156 : decode b_Floats_calculate 156 = .ok (.lload 4, 2) := by decide +kernel
theorem d_Floats_calculate_158 : decode b_Floats_calculate 158 = .ok (.invokestatic 36, 3) := by decide +kernel
theorem d_Floats_calculate_161 : decode b_Floats_calculate 161 = .ok (.lreturn, 1) := by decide +kernel
theorem d_Floats_calculate_162 : decode b_Floats_calculate 162 = .ok (.aload_n 1, 1) := by decide +kernel
theorem d_Floats_calculate_163 : decode b_Floats_calculate 163 = .ok (.lload_n 2, 1) := by decide +kernel
theorem d_Floats_calculate_164 : decode b_Floats_calculate 164 = .ok (.lload 4, 2) := by decide +kernel
theorem d_Floats_calculate_166 : decode b_Floats_calculate 166 = .ok (.aload_n 1, 1) := by decide +kernel
theorem d_Floats_calculate_167 : decode b_Floats_calculate 167 = .ok (.getfield 26, 3) := by decide +kernel
theorem d_Floats_calculate_170 : decode b_Floats_calculate 170 = .ok (.lxor, 1) := by decide +kernel
theorem d_Floats_calculate_171 : decode b_Floats_calculate 171 = .ok (.invokestatic 36, 3) := by decide +kernel
theorem d_Floats_calculate_174 : decode b_Floats_calculate 174 = .ok (.lreturn, 1) := by decide +kernel
theorem d_Floats_calculate_175 : decode b_Floats_calculate 175 = .ok (.aload_n 1, 1) := by decide +kernel
theorem d_Floats_calculate_176 : decode b_Floats_calculate 176 = .ok (.lload_n 2, 1) := by decide +kernel
theorem d_Floats_calculate_177 : decode b_Floats_calculate 177 = .ok (.lload 4, 2) := by decide +kernel
theorem d_Floats_calculate_179 : decode b_Floats_calculate 179 = .ok (.invokestatic 40, 3) := by decide +kernel
theorem d_Floats_calculate_182 : decode b_Floats_calculate 182 = .ok (.lreturn, 1) := by decide +kernel
theorem d_Floats_calculate_183 : decode b_Floats_calculate 183 = .ok (.aload_n 1, 1) := by decide +kernel
theorem d_Floats_calculate_184 : decode b_Floats_calculate 184 = .ok (.lload_n 2, 1) := by decide +kernel
theorem d_Floats_calculate_185 : decode b_Floats_calculate 185 = .ok (.lload 4, 2) := by decide +kernel
theorem d_Floats_calculate_187 : decode b_Floats_calculate 187 = .ok (.invokestatic 43, 3) := by decide +kernel
theorem d_Floats_calculate_190 : decode b_Floats_calculate 190 = .ok (.lreturn, 1) := by decide +kernel
theorem d_Floats_calculate_191 : decode b_Floats_calculate 191 = .ok (.aload_n 1, 1) := by decide +kernel
theorem d_Floats_calculate_192 : decode b_Floats_calculate 192 = .ok (.lload 4, 2) := by decide +kernel
theorem d_Floats_calculate_194 : decode b_Floats_calculate 194 = .ok (.lload_n 2, 1) := by decide +kernel
theorem d_Floats_calculate_195 : decode b_Floats_calculate 195 = .ok (.invokestatic 46, 3) := by decide +kernel
theorem d_Floats_calculate_198 : decode b_Floats_calculate 198 = .ok (.ifCond .eq 8, 3) := by decide +kernel
theorem d_Floats_calculate_201 : decode b_Floats_calculate 201 = .ok (.lload 4, 2) := by decide +kernel
theorem d_Floats_calculate_203 : decode b_Floats_calculate 203 = .ok (.goto 4, 3) := by decide +kernel
theorem d_Floats_calculate_206 : decode b_Floats_calculate 206 = .ok (.lload_n 2, 1) := by decide +kernel
theorem d_Floats_calculate_207 : decode b_Floats_calculate 207 = .ok (.lreturn, 1) := by decide +kernel
theorem d_Floats_calculate_208 : decode b_Floats_calculate 208 = .ok (.aload_n 1, 1) := by decide +kernel
theorem d_Floats_calculate_209 : decode b_Floats_calculate 209 = .ok (.lload_n 2, 1) := by decide +kernel
theorem d_Floats_calculate_210 : decode b_Floats_calculate 210 = .ok (.lload 4, 2) := by decide +kernel
theorem d_Floats_calculate_212 : decode b_Floats_calculate 212 = .ok (.invokestatic 46, 3) := by decide +kernel
theorem d_Floats_calculate_215 : decode b_Floats_calculate 215 = .ok (.ifCond .eq 8, 3) := by decide +kernel
theorem d_Floats_calculate_218 : decode b_Floats_calculate 218 = .ok (.lload 4, 2) := by decide +kernel
theorem d_Floats_calculate_220 : decode b_Floats_calculate 220 = .ok (.goto 4, 3) := by decide +kernel
theorem d_Floats_calculate_223 : decode b_Floats_calculate 223 = .ok (.lload_n 2, 1) := by decide +kernel
theorem d_Floats_calculate_224 : decode b_Floats_calculate 224 = .ok (.lreturn, 1) := by decide +kernel
theorem d_Floats_calculate_225 : decode b_Floats_calculate 225 = .ok (.iload_n 0, 1) := by decide +kernel
theorem d_Floats_calculate_226 : decode b_Floats_calculate 226 = .ok (.aload_n 1, 1) := by decide +kernel
theorem d_Floats_calculate_227 : decode b_Floats_calculate 227 = .ok (.lload_n 2, 1) := by decide +kernel
theorem d_Floats_calculate_228 : decode b_Floats_calculate 228 = .ok (.invokestatic 50, 3) := by decide +kernel
theorem d_Floats_calculate_231 : decode b_Floats_calculate 231 = .ok (.lreturn, 1) := by decide +kernel
abbrev b_Floats_root : ByteArray := prog_4_method_13_code
def y_Floats_root : MethodName := ⟨"BitArithmetic$Floats", "root", "(LBitArithmetic$Form;J)J"⟩
theorem d_Floats_root_0 : decode b_Floats_root 0 = .ok (.aload_n 0, 1) := by decide +kernel
theorem d_Floats_root_1 : decode b_Floats_root 1 = .ok (.lload_n 1, 1) := by decide +kernel
theorem d_Floats_root_2 : decode b_Floats_root 2 = .ok (.invokevirtual 56, 3) := by decide +kernel
theorem d_Floats_root_5 : decode b_Floats_root 5 = .ok (.ifCond .eq 5, 3) := by decide +kernel
theorem d_Floats_root_8 : decode b_Floats_root 8 = .ok (.lload_n 1, 1) := by decide +kernel
theorem d_Floats_root_9 : decode b_Floats_root 9 = .ok (.lreturn, 1) := by decide +kernel
theorem d_Floats_root_10 : decode b_Floats_root 10 = .ok (.aload_n 0, 1) := by decide +kernel
theorem d_Floats_root_11 : decode b_Floats_root 11 = .ok (.lload_n 1, 1) := by decide +kernel
theorem d_Floats_root_12 : decode b_Floats_root 12 = .ok (.invokevirtual 19, 3) := by decide +kernel
theorem d_Floats_root_15 : decode b_Floats_root 15 = .ok (.lconst 0, 1) := by decide +kernel
theorem d_Floats_root_16 : decode b_Floats_root 16 = .ok (.lcmp, 1) := by decide +kernel
theorem d_Floats_root_17 : decode b_Floats_root 17 = .ok (.ifCond .eq 8, 3) := by decide +kernel
theorem d_Floats_root_20 : decode b_Floats_root 20 = .ok (.aload_n 0, 1) := by decide +kernel
theorem d_Floats_root_21 : decode b_Floats_root 21 = .ok (.getfield 30, 3) := by decide +kernel
theorem d_Floats_root_24 : decode b_Floats_root 24 = .ok (.lreturn, 1) := by decide +kernel
theorem d_Floats_root_25 : decode b_Floats_root 25 = .ok (.aload_n 0, 1) := by decide +kernel
theorem d_Floats_root_26 : decode b_Floats_root 26 = .ok (.lload_n 1, 1) := by decide +kernel
theorem d_Floats_root_27 : decode b_Floats_root 27 = .ok (.invokevirtual 59, 3) := by decide +kernel
theorem d_Floats_root_30 : decode b_Floats_root 30 = .ok (.ifCond .eq 5, 3) := by decide +kernel
theorem d_Floats_root_33 : decode b_Floats_root 33 = .ok (.lload_n 1, 1) := by decide +kernel
theorem d_Floats_root_34 : decode b_Floats_root 34 = .ok (.lreturn, 1) := by decide +kernel
theorem d_Floats_root_35 : decode b_Floats_root 35 = .ok (.aload_n 0, 1) := by decide +kernel
theorem d_Floats_root_36 : decode b_Floats_root 36 = .ok (.lload_n 1, 1) := by decide +kernel
theorem d_Floats_root_37 : decode b_Floats_root 37 = .ok (.invokestatic 97, 3) := by decide +kernel
theorem d_Floats_root_40 : decode b_Floats_root 40 = .ok (.iconst 1, 1) := by decide +kernel
theorem d_Floats_root_41 : decode b_Floats_root 41 = .ok (.iand, 1) := by decide +kernel
theorem d_Floats_root_42 : decode b_Floats_root 42 = .ok (.istore_n 3, 1) := by decide +kernel
theorem d_Floats_root_43 : decode b_Floats_root 43 = .ok (.aload_n 0, 1) := by decide +kernel
theorem d_Floats_root_44 : decode b_Floats_root 44 = .ok (.lload_n 1, 1) := by decide +kernel
theorem d_Floats_root_45 : decode b_Floats_root 45 = .ok (.invokestatic 85, 3) := by decide +kernel
theorem d_Floats_root_48 : decode b_Floats_root 48 = .ok (.iload_n 3, 1) := by decide +kernel
theorem d_Floats_root_49 : decode b_Floats_root 49 = .ok (.lshl, 1) := by decide +kernel
theorem d_Floats_root_50 : decode b_Floats_root 50 = .ok (.lstore 4, 2) := by decide +kernel
theorem d_Floats_root_52 : decode b_Floats_root 52 = .ok (.aload_n 0, 1) := by decide +kernel
theorem d_Floats_root_53 : decode b_Floats_root 53 = .ok (.lload_n 1, 1) := by decide +kernel
theorem d_Floats_root_54 : decode b_Floats_root 54 = .ok (.invokestatic 97, 3) := by decide +kernel
theorem d_Floats_root_57 : decode b_Floats_root 57 = .ok (.iload_n 3, 1) := by decide +kernel
theorem d_Floats_root_58 : decode b_Floats_root 58 = .ok (.isub, 1) := by decide +kernel
theorem d_Floats_root_59 : decode b_Floats_root 59 = .ok (.iconst 1, 1) := by decide +kernel
theorem d_Floats_root_60 : decode b_Floats_root 60 = .ok (.ishr, 1) := by decide +kernel
theorem d_Floats_root_61 : decode b_Floats_root 61 = .ok (.istore 6, 2) := by decide +kernel
theorem d_Floats_root_63 : decode b_Floats_root 63 = .ok (.aload_n 0, 1) := by decide +kernel
theorem d_Floats_root_64 : decode b_Floats_root 64 = .ok (.lconst 0, 1) := by decide +kernel
theorem d_Floats_root_65 : decode b_Floats_root 65 = .ok (.lload 4, 2) := by decide +kernel
theorem d_Floats_root_67 : decode b_Floats_root 67 = .ok (.invokestatic 109, 3) := by decide +kernel
theorem d_Floats_root_70 : decode b_Floats_root 70 = .ok (.iload 6, 2) := by decide +kernel
theorem d_Floats_root_72 : decode b_Floats_root 72 = .ok (.bipush 24, 2) := by decide +kernel
theorem d_Floats_root_74 : decode b_Floats_root 74 = .ok (.isub, 1) := by decide +kernel
theorem d_Floats_root_75 : decode b_Floats_root 75 = .ok (.invokevirtual 78, 3) := by decide +kernel
theorem d_Floats_root_78 : decode b_Floats_root 78 = .ok (.lreturn, 1) := by decide +kernel
abbrev b_Floats_raisedScale : ByteArray := prog_4_method_12_code
def y_Floats_raisedScale : MethodName := ⟨"BitArithmetic$Floats", "raisedScale", "(LBitArithmetic$Form;J)I"⟩
theorem d_Floats_raisedScale_0 : decode b_Floats_raisedScale 0 = .ok (.aload_n 0, 1) := by decide +kernel
theorem d_Floats_raisedScale_1 : decode b_Floats_raisedScale 1 = .ok (.lload_n 1, 1) := by decide +kernel
theorem d_Floats_raisedScale_2 : decode b_Floats_raisedScale 2 = .ok (.invokevirtual 65, 3) := by decide +kernel
theorem d_Floats_raisedScale_5 : decode b_Floats_raisedScale 5 = .ok (.aload_n 0, 1) := by decide +kernel
theorem d_Floats_raisedScale_6 : decode b_Floats_raisedScale 6 = .ok (.lload_n 1, 1) := by decide +kernel
theorem d_Floats_raisedScale_7 : decode b_Floats_raisedScale 7 = .ok (.invokevirtual 69, 3) := by decide +kernel
theorem d_Floats_raisedScale_10 : decode b_Floats_raisedScale 10 = .ok (.invokestatic 104, 3) := by decide +kernel
theorem d_Floats_raisedScale_13 : decode b_Floats_raisedScale 13 = .ok (.iconst 2, 1) := by decide +kernel
theorem d_Floats_raisedScale_14 : decode b_Floats_raisedScale 14 = .ok (.isub, 1) := by decide +kernel
theorem d_Floats_raisedScale_15 : decode b_Floats_raisedScale 15 = .ok (.isub, 1) := by decide +kernel
theorem d_Floats_raisedScale_16 : decode b_Floats_raisedScale 16 = .ok (.ireturn, 1) := by decide +kernel
abbrev b_Floats_raised : ByteArray := prog_4_method_11_code
def y_Floats_raised : MethodName := ⟨"BitArithmetic$Floats", "raised", "(LBitArithmetic$Form;J)J"⟩
theorem d_Floats_raised_0 : decode b_Floats_raised 0 = .ok (.aload_n 0, 1) := by decide +kernel
theorem d_Floats_raised_1 : decode b_Floats_raised 1 = .ok (.lload_n 1, 1) := by decide +kernel
theorem d_Floats_raised_2 : decode b_Floats_raised 2 = .ok (.invokevirtual 69, 3) := by decide +kernel
theorem d_Floats_raised_5 : decode b_Floats_raised 5 = .ok (.lstore_n 3, 1) := by decide +kernel
theorem d_Floats_raised_6 : decode b_Floats_raised 6 = .ok (.lload_n 3, 1) := by decide +kernel
theorem d_Floats_raised_7 : decode b_Floats_raised 7 = .ok (.lload_n 3, 1) := by decide +kernel
theorem d_Floats_raised_8 : decode b_Floats_raised 8 = .ok (.invokestatic 104, 3) := by decide +kernel
theorem d_Floats_raised_11 : decode b_Floats_raised 11 = .ok (.iconst 2, 1) := by decide +kernel
theorem d_Floats_raised_12 : decode b_Floats_raised 12 = .ok (.isub, 1) := by decide +kernel
theorem d_Floats_raised_13 : decode b_Floats_raised 13 = .ok (.lshl, 1) := by decide +kernel
theorem d_Floats_raised_14 : decode b_Floats_raised 14 = .ok (.lreturn, 1) := by decide +kernel
abbrev b_Floats_longRoot : ByteArray := prog_4_method_14_code
def y_Floats_longRoot : MethodName := ⟨"BitArithmetic$Floats", "longRoot", "(J)J"⟩
theorem d_Floats_longRoot_0 : decode b_Floats_longRoot 0 = .ok (.lconst 0, 1) := by decide +kernel
theorem d_Floats_longRoot_1 : decode b_Floats_longRoot 1 = .ok (.lstore_n 2, 1) := by decide +kernel
theorem d_Floats_longRoot_2 : decode b_Floats_longRoot 2 = .ok (.lconst 0, 1) := by decide +kernel
theorem d_Floats_longRoot_3 : decode b_Floats_longRoot 3 = .ok (.lstore 4, 2) := by decide +kernel
theorem d_Floats_longRoot_5 : decode b_Floats_longRoot 5 = .ok (.lload_n 0, 1) := by decide +kernel
theorem d_Floats_longRoot_6 : decode b_Floats_longRoot 6 = .ok (.lstore 6, 2) := by decide +kernel
theorem d_Floats_longRoot_8 : decode b_Floats_longRoot 8 = .ok (.iconst 0, 1) := by decide +kernel
theorem d_Floats_longRoot_9 : decode b_Floats_longRoot 9 = .ok (.istore 8, 2) := by decide +kernel
theorem d_Floats_longRoot_11 : decode b_Floats_longRoot 11 = .ok (.iload 8, 2) := by decide +kernel
theorem d_Floats_longRoot_13 : decode b_Floats_longRoot 13 = .ok (.bipush 56, 2) := by decide +kernel
theorem d_Floats_longRoot_15 : decode b_Floats_longRoot 15 = .ok (.if_icmp .ge 57, 3) := by decide +kernel
theorem d_Floats_longRoot_18 : decode b_Floats_longRoot 18 = .ok (.lload 4, 2) := by decide +kernel
theorem d_Floats_longRoot_20 : decode b_Floats_longRoot 20 = .ok (.iconst 2, 1) := by decide +kernel
theorem d_Floats_longRoot_21 : decode b_Floats_longRoot 21 = .ok (.lshl, 1) := by decide +kernel
theorem d_Floats_longRoot_22 : decode b_Floats_longRoot 22 = .ok (.lload 6, 2) := by decide +kernel
theorem d_Floats_longRoot_24 : decode b_Floats_longRoot 24 = .ok (.bipush 62, 2) := by decide +kernel
theorem d_Floats_longRoot_26 : decode b_Floats_longRoot 26 = .ok (.lushr, 1) := by decide +kernel
theorem d_Floats_longRoot_27 : decode b_Floats_longRoot 27 = .ok (.lor, 1) := by decide +kernel
theorem d_Floats_longRoot_28 : decode b_Floats_longRoot 28 = .ok (.lstore 4, 2) := by decide +kernel
theorem d_Floats_longRoot_30 : decode b_Floats_longRoot 30 = .ok (.lload 6, 2) := by decide +kernel
theorem d_Floats_longRoot_32 : decode b_Floats_longRoot 32 = .ok (.iconst 2, 1) := by decide +kernel
theorem d_Floats_longRoot_33 : decode b_Floats_longRoot 33 = .ok (.lshl, 1) := by decide +kernel
theorem d_Floats_longRoot_34 : decode b_Floats_longRoot 34 = .ok (.lstore 6, 2) := by decide +kernel
theorem d_Floats_longRoot_36 : decode b_Floats_longRoot 36 = .ok (.lload_n 2, 1) := by decide +kernel
theorem d_Floats_longRoot_37 : decode b_Floats_longRoot 37 = .ok (.iconst 2, 1) := by decide +kernel
theorem d_Floats_longRoot_38 : decode b_Floats_longRoot 38 = .ok (.lshl, 1) := by decide +kernel
theorem d_Floats_longRoot_39 : decode b_Floats_longRoot 39 = .ok (.lconst 1, 1) := by decide +kernel
theorem d_Floats_longRoot_40 : decode b_Floats_longRoot 40 = .ok (.lor, 1) := by decide +kernel
theorem d_Floats_longRoot_41 : decode b_Floats_longRoot 41 = .ok (.lstore 9, 2) := by decide +kernel
theorem d_Floats_longRoot_43 : decode b_Floats_longRoot 43 = .ok (.lload_n 2, 1) := by decide +kernel
theorem d_Floats_longRoot_44 : decode b_Floats_longRoot 44 = .ok (.iconst 1, 1) := by decide +kernel
theorem d_Floats_longRoot_45 : decode b_Floats_longRoot 45 = .ok (.lshl, 1) := by decide +kernel
theorem d_Floats_longRoot_46 : decode b_Floats_longRoot 46 = .ok (.lstore_n 2, 1) := by decide +kernel
theorem d_Floats_longRoot_47 : decode b_Floats_longRoot 47 = .ok (.lload 4, 2) := by decide +kernel
theorem d_Floats_longRoot_49 : decode b_Floats_longRoot 49 = .ok (.lload 9, 2) := by decide +kernel
theorem d_Floats_longRoot_51 : decode b_Floats_longRoot 51 = .ok (.lcmp, 1) := by decide +kernel
theorem d_Floats_longRoot_52 : decode b_Floats_longRoot 52 = .ok (.ifCond .lt 14, 3) := by decide +kernel
theorem d_Floats_longRoot_55 : decode b_Floats_longRoot 55 = .ok (.lload 4, 2) := by decide +kernel
theorem d_Floats_longRoot_57 : decode b_Floats_longRoot 57 = .ok (.lload 9, 2) := by decide +kernel
theorem d_Floats_longRoot_59 : decode b_Floats_longRoot 59 = .ok (.lsub, 1) := by decide +kernel
theorem d_Floats_longRoot_60 : decode b_Floats_longRoot 60 = .ok (.lstore 4, 2) := by decide +kernel
theorem d_Floats_longRoot_62 : decode b_Floats_longRoot 62 = .ok (.lload_n 2, 1) := by decide +kernel
theorem d_Floats_longRoot_63 : decode b_Floats_longRoot 63 = .ok (.lconst 1, 1) := by decide +kernel
theorem d_Floats_longRoot_64 : decode b_Floats_longRoot 64 = .ok (.lor, 1) := by decide +kernel
theorem d_Floats_longRoot_65 : decode b_Floats_longRoot 65 = .ok (.lstore_n 2, 1) := by decide +kernel
theorem d_Floats_longRoot_66 : decode b_Floats_longRoot 66 = .ok (.iinc 8 1, 3) := by decide +kernel
theorem d_Floats_longRoot_69 : decode b_Floats_longRoot 69 = .ok (.goto (-58), 3) := by decide +kernel
theorem d_Floats_longRoot_72 : decode b_Floats_longRoot 72 = .ok (.lload_n 2, 1) := by decide +kernel
theorem d_Floats_longRoot_73 : decode b_Floats_longRoot 73 = .ok (.lload 4, 2) := by decide +kernel
theorem d_Floats_longRoot_75 : decode b_Floats_longRoot 75 = .ok (.invokestatic 94, 3) := by decide +kernel
theorem d_Floats_longRoot_78 : decode b_Floats_longRoot 78 = .ok (.lreturn, 1) := by decide +kernel
abbrev b_Bits_marked : ByteArray := prog_2_method_5_code
def y_Bits_marked : MethodName := ⟨"BitArithmetic$Bits", "marked", "(JJ)J"⟩
theorem d_Bits_marked_0 : decode b_Bits_marked 0 = .ok (.lload_n 2, 1) := by decide +kernel
theorem d_Bits_marked_1 : decode b_Bits_marked 1 = .ok (.lconst 0, 1) := by decide +kernel
theorem d_Bits_marked_2 : decode b_Bits_marked 2 = .ok (.lcmp, 1) := by decide +kernel
theorem d_Bits_marked_3 : decode b_Bits_marked 3 = .ok (.ifCond .ne 7, 3) := by decide +kernel
theorem d_Bits_marked_6 : decode b_Bits_marked 6 = .ok (.lload_n 0, 1) := by decide +kernel
theorem d_Bits_marked_7 : decode b_Bits_marked 7 = .ok (.goto 6, 3) := by decide +kernel
theorem d_Bits_marked_10 : decode b_Bits_marked 10 = .ok (.lload_n 0, 1) := by decide +kernel
theorem d_Bits_marked_11 : decode b_Bits_marked 11 = .ok (.lconst 1, 1) := by decide +kernel
theorem d_Bits_marked_12 : decode b_Bits_marked 12 = .ok (.lor, 1) := by decide +kernel
theorem d_Bits_marked_13 : decode b_Bits_marked 13 = .ok (.lreturn, 1) := by decide +kernel
abbrev b_Floats_sum : ByteArray := prog_4_method_6_code
def y_Floats_sum : MethodName := ⟨"BitArithmetic$Floats", "sum", "(LBitArithmetic$Form;JJ)J"⟩
theorem d_Floats_sum_0 : decode b_Floats_sum 0 = .ok (.aload_n 0, 1) := by decide +kernel
theorem d_Floats_sum_1 : decode b_Floats_sum 1 = .ok (.lload_n 1, 1) := by decide +kernel
theorem d_Floats_sum_2 : decode b_Floats_sum 2 = .ok (.invokevirtual 59, 3) := by decide +kernel
theorem d_Floats_sum_5 : decode b_Floats_sum 5 = .ok (.ifCond .eq 26, 3) := by decide +kernel
theorem d_Floats_sum_8 : decode b_Floats_sum 8 = .ok (.aload_n 0, 1) := by decide +kernel
theorem d_Floats_sum_9 : decode b_Floats_sum 9 = .ok (.lload_n 3, 1) := by decide +kernel
theorem d_Floats_sum_10 : decode b_Floats_sum 10 = .ok (.invokevirtual 59, 3) := by decide +kernel
theorem d_Floats_sum_13 : decode b_Floats_sum 13 = .ok (.ifCond .eq 16, 3) := by decide +kernel
theorem d_Floats_sum_16 : decode b_Floats_sum 16 = .ok (.lload_n 1, 1) := by decide +kernel
theorem d_Floats_sum_17 : decode b_Floats_sum 17 = .ok (.lload_n 3, 1) := by decide +kernel
theorem d_Floats_sum_18 : decode b_Floats_sum 18 = .ok (.lcmp, 1) := by decide +kernel
theorem d_Floats_sum_19 : decode b_Floats_sum 19 = .ok (.ifCond .eq 10, 3) := by decide +kernel
theorem d_Floats_sum_22 : decode b_Floats_sum 22 = .ok (.aload_n 0, 1) := by decide +kernel
theorem d_Floats_sum_23 : decode b_Floats_sum 23 = .ok (.getfield 30, 3) := by decide +kernel
theorem d_Floats_sum_26 : decode b_Floats_sum 26 = .ok (.goto 4, 3) := by decide +kernel
theorem d_Floats_sum_29 : decode b_Floats_sum 29 = .ok (.lload_n 1, 1) := by decide +kernel
theorem d_Floats_sum_30 : decode b_Floats_sum 30 = .ok (.lreturn, 1) := by decide +kernel
theorem d_Floats_sum_31 : decode b_Floats_sum 31 = .ok (.aload_n 0, 1) := by decide +kernel
theorem d_Floats_sum_32 : decode b_Floats_sum 32 = .ok (.lload_n 3, 1) := by decide +kernel
theorem d_Floats_sum_33 : decode b_Floats_sum 33 = .ok (.invokevirtual 59, 3) := by decide +kernel
theorem d_Floats_sum_36 : decode b_Floats_sum 36 = .ok (.ifCond .eq 5, 3) := by decide +kernel
theorem d_Floats_sum_39 : decode b_Floats_sum 39 = .ok (.lload_n 3, 1) := by decide +kernel
theorem d_Floats_sum_40 : decode b_Floats_sum 40 = .ok (.lreturn, 1) := by decide +kernel
theorem d_Floats_sum_41 : decode b_Floats_sum 41 = .ok (.aload_n 0, 1) := by decide +kernel
theorem d_Floats_sum_42 : decode b_Floats_sum 42 = .ok (.lload_n 1, 1) := by decide +kernel
theorem d_Floats_sum_43 : decode b_Floats_sum 43 = .ok (.invokevirtual 23, 3) := by decide +kernel
theorem d_Floats_sum_46 : decode b_Floats_sum 46 = .ok (.aload_n 0, 1) := by decide +kernel
theorem d_Floats_sum_47 : decode b_Floats_sum 47 = .ok (.lload_n 3, 1) := by decide +kernel
theorem d_Floats_sum_48 : decode b_Floats_sum 48 = .ok (.invokevirtual 23, 3) := by decide +kernel
theorem d_Floats_sum_51 : decode b_Floats_sum 51 = .ok (.lcmp, 1) := by decide +kernel
theorem d_Floats_sum_52 : decode b_Floats_sum 52 = .ok (.ifCond .lt 7, 3) := by decide +kernel
theorem d_Floats_sum_55 : decode b_Floats_sum 55 = .ok (.iconst 1, 1) := by decide +kernel
theorem d_Floats_sum_56 : decode b_Floats_sum 56 = .ok (.goto 4, 3) := by decide +kernel
theorem d_Floats_sum_59 : decode b_Floats_sum 59 = .ok (.iconst 0, 1) := by decide +kernel
theorem d_Floats_sum_60 : decode b_Floats_sum 60 = .ok (.istore 5, 2) := by decide +kernel
theorem d_Floats_sum_62 : decode b_Floats_sum 62 = .ok (.iload 5, 2) := by decide +kernel
theorem d_Floats_sum_64 : decode b_Floats_sum 64 = .ok (.ifCond .eq 12, 3) := by decide +kernel
theorem d_Floats_sum_67 : decode b_Floats_sum 67 = .ok (.aload_n 0, 1) := by decide +kernel
theorem d_Floats_sum_68 : decode b_Floats_sum 68 = .ok (.lload_n 1, 1) := by decide +kernel
theorem d_Floats_sum_69 : decode b_Floats_sum 69 = .ok (.lload_n 3, 1) := by decide +kernel
theorem d_Floats_sum_70 : decode b_Floats_sum 70 = .ok (.invokestatic 62, 3) := by decide +kernel
theorem d_Floats_sum_73 : decode b_Floats_sum 73 = .ok (.goto 9, 3) := by decide +kernel
theorem d_Floats_sum_76 : decode b_Floats_sum 76 = .ok (.aload_n 0, 1) := by decide +kernel
theorem d_Floats_sum_77 : decode b_Floats_sum 77 = .ok (.lload_n 3, 1) := by decide +kernel
theorem d_Floats_sum_78 : decode b_Floats_sum 78 = .ok (.lload_n 1, 1) := by decide +kernel
theorem d_Floats_sum_79 : decode b_Floats_sum 79 = .ok (.invokestatic 62, 3) := by decide +kernel
theorem d_Floats_sum_82 : decode b_Floats_sum 82 = .ok (.lreturn, 1) := by decide +kernel
abbrev b_Floats_finiteSum : ByteArray := prog_4_method_7_code
def y_Floats_finiteSum : MethodName := ⟨"BitArithmetic$Floats", "finiteSum", "(LBitArithmetic$Form;JJ)J"⟩
theorem d_Floats_finiteSum_0 : decode b_Floats_finiteSum 0 = .ok (.aload_n 0, 1) := by decide +kernel
theorem d_Floats_finiteSum_1 : decode b_Floats_finiteSum 1 = .ok (.lload_n 1, 1) := by decide +kernel
theorem d_Floats_finiteSum_2 : decode b_Floats_finiteSum 2 = .ok (.invokevirtual 65, 3) := by decide +kernel
theorem d_Floats_finiteSum_5 : decode b_Floats_finiteSum 5 = .ok (.istore 5, 2) := by decide +kernel
theorem d_Floats_finiteSum_7 : decode b_Floats_finiteSum 7 = .ok (.aload_n 0, 1) := by decide +kernel
theorem d_Floats_finiteSum_8 : decode b_Floats_finiteSum 8 = .ok (.lload_n 1, 1) := by decide +kernel
theorem d_Floats_finiteSum_9 : decode b_Floats_finiteSum 9 = .ok (.invokevirtual 69, 3) := by decide +kernel
theorem d_Floats_finiteSum_12 : decode b_Floats_finiteSum 12 = .ok (.bipush 10, 2) := by decide +kernel
theorem d_Floats_finiteSum_14 : decode b_Floats_finiteSum 14 = .ok (.lshl, 1) := by decide +kernel
theorem d_Floats_finiteSum_15 : decode b_Floats_finiteSum 15 = .ok (.lstore 6, 2) := by decide +kernel
theorem d_Floats_finiteSum_17 : decode b_Floats_finiteSum 17 = .ok (.aload_n 0, 1) := by decide +kernel
theorem d_Floats_finiteSum_18 : decode b_Floats_finiteSum 18 = .ok (.lload_n 3, 1) := by decide +kernel
theorem d_Floats_finiteSum_19 : decode b_Floats_finiteSum 19 = .ok (.invokevirtual 69, 3) := by decide +kernel
theorem d_Floats_finiteSum_22 : decode b_Floats_finiteSum 22 = .ok (.bipush 10, 2) := by decide +kernel
theorem d_Floats_finiteSum_24 : decode b_Floats_finiteSum 24 = .ok (.lshl, 1) := by decide +kernel
theorem d_Floats_finiteSum_25 : decode b_Floats_finiteSum 25 = .ok (.iload 5, 2) := by decide +kernel
theorem d_Floats_finiteSum_27 : decode b_Floats_finiteSum 27 = .ok (.aload_n 0, 1) := by decide +kernel
theorem d_Floats_finiteSum_28 : decode b_Floats_finiteSum 28 = .ok (.lload_n 3, 1) := by decide +kernel
theorem d_Floats_finiteSum_29 : decode b_Floats_finiteSum 29 = .ok (.invokevirtual 65, 3) := by decide +kernel
theorem d_Floats_finiteSum_32 : decode b_Floats_finiteSum 32 = .ok (.isub, 1) := by decide +kernel
theorem d_Floats_finiteSum_33 : decode b_Floats_finiteSum 33 = .ok (.invokestatic 72, 3) := by decide +kernel
theorem d_Floats_finiteSum_36 : decode b_Floats_finiteSum 36 = .ok (.lstore 8, 2) := by decide +kernel
theorem d_Floats_finiteSum_38 : decode b_Floats_finiteSum 38 = .ok (.aload_n 0, 1) := by decide +kernel
theorem d_Floats_finiteSum_39 : decode b_Floats_finiteSum 39 = .ok (.lload_n 1, 1) := by decide +kernel
theorem d_Floats_finiteSum_40 : decode b_Floats_finiteSum 40 = .ok (.invokevirtual 19, 3) := by decide +kernel
theorem d_Floats_finiteSum_43 : decode b_Floats_finiteSum 43 = .ok (.aload_n 0, 1) := by decide +kernel
theorem d_Floats_finiteSum_44 : decode b_Floats_finiteSum 44 = .ok (.lload_n 3, 1) := by decide +kernel
theorem d_Floats_finiteSum_45 : decode b_Floats_finiteSum 45 = .ok (.invokevirtual 19, 3) := by decide +kernel
theorem d_Floats_finiteSum_48 : decode b_Floats_finiteSum 48 = .ok (.lcmp, 1) := by decide +kernel
theorem d_Floats_finiteSum_49 : decode b_Floats_finiteSum 49 = .ok (.ifCond .ne 11, 3) := by decide +kernel
theorem d_Floats_finiteSum_52 : decode b_Floats_finiteSum 52 = .ok (.lload 6, 2) := by decide +kernel
theorem d_Floats_finiteSum_54 : decode b_Floats_finiteSum 54 = .ok (.lload 8, 2) := by decide +kernel
theorem d_Floats_finiteSum_56 : decode b_Floats_finiteSum 56 = .ok (.ladd, 1) := by decide +kernel
theorem d_Floats_finiteSum_57 : decode b_Floats_finiteSum 57 = .ok (.goto 8, 3) := by decide +kernel
theorem d_Floats_finiteSum_60 : decode b_Floats_finiteSum 60 = .ok (.lload 6, 2) := by decide +kernel
theorem d_Floats_finiteSum_62 : decode b_Floats_finiteSum 62 = .ok (.lload 8, 2) := by decide +kernel
theorem d_Floats_finiteSum_64 : decode b_Floats_finiteSum 64 = .ok (.lsub, 1) := by decide +kernel
theorem d_Floats_finiteSum_65 : decode b_Floats_finiteSum 65 = .ok (.lstore 10, 2) := by decide +kernel
theorem d_Floats_finiteSum_67 : decode b_Floats_finiteSum 67 = .ok (.lload 10, 2) := by decide +kernel
theorem d_Floats_finiteSum_69 : decode b_Floats_finiteSum 69 = .ok (.lconst 0, 1) := by decide +kernel
theorem d_Floats_finiteSum_70 : decode b_Floats_finiteSum 70 = .ok (.lcmp, 1) := by decide +kernel
theorem d_Floats_finiteSum_71 : decode b_Floats_finiteSum 71 = .ok (.ifCond .ne 11, 3) := by decide +kernel
theorem d_Floats_finiteSum_74 : decode b_Floats_finiteSum 74 = .ok (.aload_n 0, 1) := by decide +kernel
theorem d_Floats_finiteSum_75 : decode b_Floats_finiteSum 75 = .ok (.lload_n 1, 1) := by decide +kernel
theorem d_Floats_finiteSum_76 : decode b_Floats_finiteSum 76 = .ok (.lload_n 3, 1) := by decide +kernel
theorem d_Floats_finiteSum_77 : decode b_Floats_finiteSum 77 = .ok (.land, 1) := by decide +kernel
theorem d_Floats_finiteSum_78 : decode b_Floats_finiteSum 78 = .ok (.invokevirtual 19, 3) := by decide +kernel
theorem d_Floats_finiteSum_81 : decode b_Floats_finiteSum 81 = .ok (.lreturn, 1) := by decide +kernel
theorem d_Floats_finiteSum_82 : decode b_Floats_finiteSum 82 = .ok (.aload_n 0, 1) := by decide +kernel
theorem d_Floats_finiteSum_83 : decode b_Floats_finiteSum 83 = .ok (.aload_n 0, 1) := by decide +kernel
theorem d_Floats_finiteSum_84 : decode b_Floats_finiteSum 84 = .ok (.lload_n 1, 1) := by decide +kernel
theorem d_Floats_finiteSum_85 : decode b_Floats_finiteSum 85 = .ok (.invokevirtual 19, 3) := by decide +kernel
theorem d_Floats_finiteSum_88 : decode b_Floats_finiteSum 88 = .ok (.lload 10, 2) := by decide +kernel
theorem d_Floats_finiteSum_90 : decode b_Floats_finiteSum 90 = .ok (.iload 5, 2) := by decide +kernel
theorem d_Floats_finiteSum_92 : decode b_Floats_finiteSum 92 = .ok (.bipush 10, 2) := by decide +kernel
theorem d_Floats_finiteSum_94 : decode b_Floats_finiteSum 94 = .ok (.isub, 1) := by decide +kernel
theorem d_Floats_finiteSum_95 : decode b_Floats_finiteSum 95 = .ok (.invokevirtual 78, 3) := by decide +kernel
theorem d_Floats_finiteSum_98 : decode b_Floats_finiteSum 98 = .ok (.lreturn, 1) := by decide +kernel
abbrev b_Bits_movedDown : ByteArray := prog_2_method_4_code
def y_Bits_movedDown : MethodName := ⟨"BitArithmetic$Bits", "movedDown", "(JI)J"⟩
theorem d_Bits_movedDown_0 : decode b_Bits_movedDown 0 = .ok (.iload_n 2, 1) := by decide +kernel
theorem d_Bits_movedDown_1 : decode b_Bits_movedDown 1 = .ok (.ifCond .gt 5, 3) := by decide +kernel
theorem d_Bits_movedDown_4 : decode b_Bits_movedDown 4 = .ok (.lload_n 0, 1) := by decide +kernel
theorem d_Bits_movedDown_5 : decode b_Bits_movedDown 5 = .ok (.lreturn, 1) := by decide +kernel
theorem d_Bits_movedDown_6 : decode b_Bits_movedDown 6 = .ok (.iload_n 2, 1) := by decide +kernel
theorem d_Bits_movedDown_7 : decode b_Bits_movedDown 7 = .ok (.bipush 64, 2) := by decide +kernel
theorem d_Bits_movedDown_9 : decode b_Bits_movedDown 9 = .ok (.if_icmp .lt 9, 3) := by decide +kernel
theorem d_Bits_movedDown_12 : decode b_Bits_movedDown 12 = .ok (.lconst 0, 1) := by decide +kernel
theorem d_Bits_movedDown_13 : decode b_Bits_movedDown 13 = .ok (.lload_n 0, 1) := by decide +kernel
theorem d_Bits_movedDown_14 : decode b_Bits_movedDown 14 = .ok (.invokestatic 9, 3) := by decide +kernel
theorem d_Bits_movedDown_17 : decode b_Bits_movedDown 17 = .ok (.lreturn, 1) := by decide +kernel
theorem d_Bits_movedDown_18 : decode b_Bits_movedDown 18 = .ok (.lload_n 0, 1) := by decide +kernel
theorem d_Bits_movedDown_19 : decode b_Bits_movedDown 19 = .ok (.iload_n 2, 1) := by decide +kernel
theorem d_Bits_movedDown_20 : decode b_Bits_movedDown 20 = .ok (.lushr, 1) := by decide +kernel
theorem d_Bits_movedDown_21 : decode b_Bits_movedDown 21 = .ok (.lload_n 0, 1) := by decide +kernel
theorem d_Bits_movedDown_22 : decode b_Bits_movedDown 22 = .ok (.bipush 64, 2) := by decide +kernel
theorem d_Bits_movedDown_24 : decode b_Bits_movedDown 24 = .ok (.iload_n 2, 1) := by decide +kernel
theorem d_Bits_movedDown_25 : decode b_Bits_movedDown 25 = .ok (.isub, 1) := by decide +kernel
theorem d_Bits_movedDown_26 : decode b_Bits_movedDown 26 = .ok (.lshl, 1) := by decide +kernel
theorem d_Bits_movedDown_27 : decode b_Bits_movedDown 27 = .ok (.invokestatic 9, 3) := by decide +kernel
theorem d_Bits_movedDown_30 : decode b_Bits_movedDown 30 = .ok (.lreturn, 1) := by decide +kernel
abbrev b_Floats_product : ByteArray := prog_4_method_8_code
def y_Floats_product : MethodName := ⟨"BitArithmetic$Floats", "product", "(LBitArithmetic$Form;JJ)J"⟩
theorem d_Floats_product_0 : decode b_Floats_product 0 = .ok (.aload_n 0, 1) := by decide +kernel
theorem d_Floats_product_1 : decode b_Floats_product 1 = .ok (.lload_n 1, 1) := by decide +kernel
theorem d_Floats_product_2 : decode b_Floats_product 2 = .ok (.lload_n 3, 1) := by decide +kernel
theorem d_Floats_product_3 : decode b_Floats_product 3 = .ok (.lxor, 1) := by decide +kernel
theorem d_Floats_product_4 : decode b_Floats_product 4 = .ok (.invokevirtual 19, 3) := by decide +kernel
theorem d_Floats_product_7 : decode b_Floats_product 7 = .ok (.lstore 5, 2) := by decide +kernel
theorem d_Floats_product_9 : decode b_Floats_product 9 = .ok (.aload_n 0, 1) := by decide +kernel
theorem d_Floats_product_10 : decode b_Floats_product 10 = .ok (.lload_n 1, 1) := by decide +kernel
theorem d_Floats_product_11 : decode b_Floats_product 11 = .ok (.invokevirtual 56, 3) := by decide +kernel
theorem d_Floats_product_14 : decode b_Floats_product 14 = .ok (.ifCond .ne 11, 3) := by decide +kernel
theorem d_Floats_product_17 : decode b_Floats_product 17 = .ok (.aload_n 0, 1) := by decide +kernel
theorem d_Floats_product_18 : decode b_Floats_product 18 = .ok (.lload_n 3, 1) := by decide +kernel
theorem d_Floats_product_19 : decode b_Floats_product 19 = .ok (.invokevirtual 56, 3) := by decide +kernel
theorem d_Floats_product_22 : decode b_Floats_product 22 = .ok (.ifCond .eq 7, 3) := by decide +kernel
theorem d_Floats_product_25 : decode b_Floats_product 25 = .ok (.iconst 1, 1) := by decide +kernel
theorem d_Floats_product_26 : decode b_Floats_product 26 = .ok (.goto 4, 3) := by decide +kernel
theorem d_Floats_product_29 : decode b_Floats_product 29 = .ok (.iconst 0, 1) := by decide +kernel
theorem d_Floats_product_30 : decode b_Floats_product 30 = .ok (.istore 7, 2) := by decide +kernel
theorem d_Floats_product_32 : decode b_Floats_product 32 = .ok (.aload_n 0, 1) := by decide +kernel
theorem d_Floats_product_33 : decode b_Floats_product 33 = .ok (.lload_n 1, 1) := by decide +kernel
theorem d_Floats_product_34 : decode b_Floats_product 34 = .ok (.invokevirtual 59, 3) := by decide +kernel
theorem d_Floats_product_37 : decode b_Floats_product 37 = .ok (.ifCond .ne 11, 3) := by decide +kernel
theorem d_Floats_product_40 : decode b_Floats_product 40 = .ok (.aload_n 0, 1) := by decide +kernel
theorem d_Floats_product_41 : decode b_Floats_product 41 = .ok (.lload_n 3, 1) := by decide +kernel
theorem d_Floats_product_42 : decode b_Floats_product 42 = .ok (.invokevirtual 59, 3) := by decide +kernel
theorem d_Floats_product_45 : decode b_Floats_product 45 = .ok (.ifCond .eq 23, 3) := by decide +kernel
theorem d_Floats_product_48 : decode b_Floats_product 48 = .ok (.iload 7, 2) := by decide +kernel
theorem d_Floats_product_50 : decode b_Floats_product 50 = .ok (.ifCond .eq 10, 3) := by decide +kernel
theorem d_Floats_product_53 : decode b_Floats_product 53 = .ok (.aload_n 0, 1) := by decide +kernel
theorem d_Floats_product_54 : decode b_Floats_product 54 = .ok (.getfield 30, 3) := by decide +kernel
theorem d_Floats_product_57 : decode b_Floats_product 57 = .ok (.goto 10, 3) := by decide +kernel
theorem d_Floats_product_60 : decode b_Floats_product 60 = .ok (.lload 5, 2) := by decide +kernel
theorem d_Floats_product_62 : decode b_Floats_product 62 = .ok (.aload_n 0, 1) := by decide +kernel
theorem d_Floats_product_63 : decode b_Floats_product 63 = .ok (.getfield 82, 3) := by decide +kernel
theorem d_Floats_product_66 : decode b_Floats_product 66 = .ok (.lor, 1) := by decide +kernel
theorem d_Floats_product_67 : decode b_Floats_product 67 = .ok (.lreturn, 1) := by decide +kernel
theorem d_Floats_product_68 : decode b_Floats_product 68 = .ok (.iload 7, 2) := by decide +kernel
theorem d_Floats_product_70 : decode b_Floats_product 70 = .ok (.ifCond .eq 6, 3) := by decide +kernel
theorem d_Floats_product_73 : decode b_Floats_product 73 = .ok (.lload 5, 2) := by decide +kernel
theorem d_Floats_product_75 : decode b_Floats_product 75 = .ok (.lreturn, 1) := by decide +kernel
theorem d_Floats_product_76 : decode b_Floats_product 76 = .ok (.aload_n 0, 1) := by decide +kernel
theorem d_Floats_product_77 : decode b_Floats_product 77 = .ok (.lload_n 1, 1) := by decide +kernel
theorem d_Floats_product_78 : decode b_Floats_product 78 = .ok (.invokestatic 85, 3) := by decide +kernel
theorem d_Floats_product_81 : decode b_Floats_product 81 = .ok (.lstore 8, 2) := by decide +kernel
theorem d_Floats_product_83 : decode b_Floats_product 83 = .ok (.aload_n 0, 1) := by decide +kernel
theorem d_Floats_product_84 : decode b_Floats_product 84 = .ok (.lload_n 3, 1) := by decide +kernel
theorem d_Floats_product_85 : decode b_Floats_product 85 = .ok (.invokestatic 85, 3) := by decide +kernel
theorem d_Floats_product_88 : decode b_Floats_product 88 = .ok (.lstore 10, 2) := by decide +kernel
theorem d_Floats_product_90 : decode b_Floats_product 90 = .ok (.lload 8, 2) := by decide +kernel
theorem d_Floats_product_92 : decode b_Floats_product 92 = .ok (.lload 10, 2) := by decide +kernel
theorem d_Floats_product_94 : decode b_Floats_product 94 = .ok (.invokestatic 88, 3) := by decide +kernel
theorem d_Floats_product_97 : decode b_Floats_product 97 = .ok (.lload 8, 2) := by decide +kernel
theorem d_Floats_product_99 : decode b_Floats_product 99 = .ok (.lload 10, 2) := by decide +kernel
theorem d_Floats_product_101 : decode b_Floats_product 101 = .ok (.lmul, 1) := by decide +kernel
theorem d_Floats_product_102 : decode b_Floats_product 102 = .ok (.invokestatic 94, 3) := by decide +kernel
theorem d_Floats_product_105 : decode b_Floats_product 105 = .ok (.lstore 12, 2) := by decide +kernel
theorem d_Floats_product_107 : decode b_Floats_product 107 = .ok (.aload_n 0, 1) := by decide +kernel
theorem d_Floats_product_108 : decode b_Floats_product 108 = .ok (.lload 5, 2) := by decide +kernel
theorem d_Floats_product_110 : decode b_Floats_product 110 = .ok (.lload 12, 2) := by decide +kernel
theorem d_Floats_product_112 : decode b_Floats_product 112 = .ok (.aload_n 0, 1) := by decide +kernel
theorem d_Floats_product_113 : decode b_Floats_product 113 = .ok (.lload_n 1, 1) := by decide +kernel
theorem d_Floats_product_114 : decode b_Floats_product 114 = .ok (.invokestatic 97, 3) := by decide +kernel
theorem d_Floats_product_117 : decode b_Floats_product 117 = .ok (.aload_n 0, 1) := by decide +kernel
theorem d_Floats_product_118 : decode b_Floats_product 118 = .ok (.lload_n 3, 1) := by decide +kernel
theorem d_Floats_product_119 : decode b_Floats_product 119 = .ok (.invokestatic 97, 3) := by decide +kernel
theorem d_Floats_product_122 : decode b_Floats_product 122 = .ok (.iadd, 1) := by decide +kernel
theorem d_Floats_product_123 : decode b_Floats_product 123 = .ok (.bipush 64, 2) := by decide +kernel
theorem d_Floats_product_125 : decode b_Floats_product 125 = .ok (.iadd, 1) := by decide +kernel
theorem d_Floats_product_126 : decode b_Floats_product 126 = .ok (.invokevirtual 78, 3) := by decide +kernel
theorem d_Floats_product_129 : decode b_Floats_product 129 = .ok (.lreturn, 1) := by decide +kernel
abbrev b_Math_multiplyHigh : ByteArray := prog_19_method_45_code
def y_Math_multiplyHigh : MethodName := ⟨"java/lang/Math", "multiplyHigh", "(JJ)J"⟩
theorem d_Math_multiplyHigh_0 : decode b_Math_multiplyHigh 0 = .ok (.lload_n 0, 1) := by decide +kernel
theorem d_Math_multiplyHigh_1 : decode b_Math_multiplyHigh 1 = .ok (.bipush 32, 2) := by decide +kernel
theorem d_Math_multiplyHigh_3 : decode b_Math_multiplyHigh 3 = .ok (.lshr, 1) := by decide +kernel
theorem d_Math_multiplyHigh_4 : decode b_Math_multiplyHigh 4 = .ok (.lstore 4, 2) := by decide +kernel
theorem d_Math_multiplyHigh_6 : decode b_Math_multiplyHigh 6 = .ok (.lload_n 0, 1) := by decide +kernel
theorem d_Math_multiplyHigh_7 : decode b_Math_multiplyHigh 7 = .ok (.ldc2_w 138, 3) := by decide +kernel
theorem d_Math_multiplyHigh_10 : decode b_Math_multiplyHigh 10 = .ok (.land, 1) := by decide +kernel
theorem d_Math_multiplyHigh_11 : decode b_Math_multiplyHigh 11 = .ok (.lstore 6, 2) := by decide +kernel
theorem d_Math_multiplyHigh_13 : decode b_Math_multiplyHigh 13 = .ok (.lload_n 2, 1) := by decide +kernel
theorem d_Math_multiplyHigh_14 : decode b_Math_multiplyHigh 14 = .ok (.bipush 32, 2) := by decide +kernel
theorem d_Math_multiplyHigh_16 : decode b_Math_multiplyHigh 16 = .ok (.lshr, 1) := by decide +kernel
theorem d_Math_multiplyHigh_17 : decode b_Math_multiplyHigh 17 = .ok (.lstore 8, 2) := by decide +kernel
theorem d_Math_multiplyHigh_19 : decode b_Math_multiplyHigh 19 = .ok (.lload_n 2, 1) := by decide +kernel
theorem d_Math_multiplyHigh_20 : decode b_Math_multiplyHigh 20 = .ok (.ldc2_w 138, 3) := by decide +kernel
theorem d_Math_multiplyHigh_23 : decode b_Math_multiplyHigh 23 = .ok (.land, 1) := by decide +kernel
theorem d_Math_multiplyHigh_24 : decode b_Math_multiplyHigh 24 = .ok (.lstore 10, 2) := by decide +kernel
theorem d_Math_multiplyHigh_26 : decode b_Math_multiplyHigh 26 = .ok (.lload 6, 2) := by decide +kernel
theorem d_Math_multiplyHigh_28 : decode b_Math_multiplyHigh 28 = .ok (.lload 10, 2) := by decide +kernel
theorem d_Math_multiplyHigh_30 : decode b_Math_multiplyHigh 30 = .ok (.lmul, 1) := by decide +kernel
theorem d_Math_multiplyHigh_31 : decode b_Math_multiplyHigh 31 = .ok (.lstore 12, 2) := by decide +kernel
theorem d_Math_multiplyHigh_33 : decode b_Math_multiplyHigh 33 = .ok (.lload 4, 2) := by decide +kernel
theorem d_Math_multiplyHigh_35 : decode b_Math_multiplyHigh 35 = .ok (.lload 10, 2) := by decide +kernel
theorem d_Math_multiplyHigh_37 : decode b_Math_multiplyHigh 37 = .ok (.lmul, 1) := by decide +kernel
theorem d_Math_multiplyHigh_38 : decode b_Math_multiplyHigh 38 = .ok (.lload 12, 2) := by decide +kernel
theorem d_Math_multiplyHigh_40 : decode b_Math_multiplyHigh 40 = .ok (.bipush 32, 2) := by decide +kernel
theorem d_Math_multiplyHigh_42 : decode b_Math_multiplyHigh 42 = .ok (.lushr, 1) := by decide +kernel
theorem d_Math_multiplyHigh_43 : decode b_Math_multiplyHigh 43 = .ok (.ladd, 1) := by decide +kernel
theorem d_Math_multiplyHigh_44 : decode b_Math_multiplyHigh 44 = .ok (.lstore 14, 2) := by decide +kernel
theorem d_Math_multiplyHigh_46 : decode b_Math_multiplyHigh 46 = .ok (.lload 14, 2) := by decide +kernel
theorem d_Math_multiplyHigh_48 : decode b_Math_multiplyHigh 48 = .ok (.ldc2_w 138, 3) := by decide +kernel
theorem d_Math_multiplyHigh_51 : decode b_Math_multiplyHigh 51 = .ok (.land, 1) := by decide +kernel
theorem d_Math_multiplyHigh_52 : decode b_Math_multiplyHigh 52 = .ok (.lstore 16, 2) := by decide +kernel
theorem d_Math_multiplyHigh_54 : decode b_Math_multiplyHigh 54 = .ok (.lload 14, 2) := by decide +kernel
theorem d_Math_multiplyHigh_56 : decode b_Math_multiplyHigh 56 = .ok (.bipush 32, 2) := by decide +kernel
theorem d_Math_multiplyHigh_58 : decode b_Math_multiplyHigh 58 = .ok (.lshr, 1) := by decide +kernel
theorem d_Math_multiplyHigh_59 : decode b_Math_multiplyHigh 59 = .ok (.lstore 18, 2) := by decide +kernel
theorem d_Math_multiplyHigh_61 : decode b_Math_multiplyHigh 61 = .ok (.lload 16, 2) := by decide +kernel
theorem d_Math_multiplyHigh_63 : decode b_Math_multiplyHigh 63 = .ok (.lload 6, 2) := by decide +kernel
theorem d_Math_multiplyHigh_65 : decode b_Math_multiplyHigh 65 = .ok (.lload 8, 2) := by decide +kernel
theorem d_Math_multiplyHigh_67 : decode b_Math_multiplyHigh 67 = .ok (.lmul, 1) := by decide +kernel
theorem d_Math_multiplyHigh_68 : decode b_Math_multiplyHigh 68 = .ok (.ladd, 1) := by decide +kernel
theorem d_Math_multiplyHigh_69 : decode b_Math_multiplyHigh 69 = .ok (.lstore 16, 2) := by decide +kernel
theorem d_Math_multiplyHigh_71 : decode b_Math_multiplyHigh 71 = .ok (.lload 4, 2) := by decide +kernel
theorem d_Math_multiplyHigh_73 : decode b_Math_multiplyHigh 73 = .ok (.lload 8, 2) := by decide +kernel
theorem d_Math_multiplyHigh_75 : decode b_Math_multiplyHigh 75 = .ok (.lmul, 1) := by decide +kernel
theorem d_Math_multiplyHigh_76 : decode b_Math_multiplyHigh 76 = .ok (.lload 18, 2) := by decide +kernel
theorem d_Math_multiplyHigh_78 : decode b_Math_multiplyHigh 78 = .ok (.ladd, 1) := by decide +kernel
theorem d_Math_multiplyHigh_79 : decode b_Math_multiplyHigh 79 = .ok (.lload 16, 2) := by decide +kernel
theorem d_Math_multiplyHigh_81 : decode b_Math_multiplyHigh 81 = .ok (.bipush 32, 2) := by decide +kernel
theorem d_Math_multiplyHigh_83 : decode b_Math_multiplyHigh 83 = .ok (.lshr, 1) := by decide +kernel
theorem d_Math_multiplyHigh_84 : decode b_Math_multiplyHigh 84 = .ok (.ladd, 1) := by decide +kernel
theorem d_Math_multiplyHigh_85 : decode b_Math_multiplyHigh 85 = .ok (.lreturn, 1) := by decide +kernel
abbrev b_Floats_quotient : ByteArray := prog_4_method_9_code
def y_Floats_quotient : MethodName := ⟨"BitArithmetic$Floats", "quotient", "(LBitArithmetic$Form;JJ)J"⟩
theorem d_Floats_quotient_0 : decode b_Floats_quotient 0 = .ok (.aload_n 0, 1) := by decide +kernel
theorem d_Floats_quotient_1 : decode b_Floats_quotient 1 = .ok (.lload_n 1, 1) := by decide +kernel
theorem d_Floats_quotient_2 : decode b_Floats_quotient 2 = .ok (.lload_n 3, 1) := by decide +kernel
theorem d_Floats_quotient_3 : decode b_Floats_quotient 3 = .ok (.lxor, 1) := by decide +kernel
theorem d_Floats_quotient_4 : decode b_Floats_quotient 4 = .ok (.invokevirtual 19, 3) := by decide +kernel
theorem d_Floats_quotient_7 : decode b_Floats_quotient 7 = .ok (.lstore 5, 2) := by decide +kernel
theorem d_Floats_quotient_9 : decode b_Floats_quotient 9 = .ok (.aload_n 0, 1) := by decide +kernel
theorem d_Floats_quotient_10 : decode b_Floats_quotient 10 = .ok (.lload_n 1, 1) := by decide +kernel
theorem d_Floats_quotient_11 : decode b_Floats_quotient 11 = .ok (.invokevirtual 56, 3) := by decide +kernel
theorem d_Floats_quotient_14 : decode b_Floats_quotient 14 = .ok (.ifCond .eq 15, 3) := by decide +kernel
theorem d_Floats_quotient_17 : decode b_Floats_quotient 17 = .ok (.aload_n 0, 1) := by decide +kernel
theorem d_Floats_quotient_18 : decode b_Floats_quotient 18 = .ok (.lload_n 3, 1) := by decide +kernel
theorem d_Floats_quotient_19 : decode b_Floats_quotient 19 = .ok (.invokevirtual 56, 3) := by decide +kernel
theorem d_Floats_quotient_22 : decode b_Floats_quotient 22 = .ok (.ifCond .eq 7, 3) := by decide +kernel
theorem d_Floats_quotient_25 : decode b_Floats_quotient 25 = .ok (.iconst 1, 1) := by decide +kernel
theorem d_Floats_quotient_26 : decode b_Floats_quotient 26 = .ok (.goto 4, 3) := by decide +kernel
theorem d_Floats_quotient_29 : decode b_Floats_quotient 29 = .ok (.iconst 0, 1) := by decide +kernel
theorem d_Floats_quotient_30 : decode b_Floats_quotient 30 = .ok (.istore 7, 2) := by decide +kernel
theorem d_Floats_quotient_32 : decode b_Floats_quotient 32 = .ok (.aload_n 0, 1) := by decide +kernel
theorem d_Floats_quotient_33 : decode b_Floats_quotient 33 = .ok (.lload_n 1, 1) := by decide +kernel
theorem d_Floats_quotient_34 : decode b_Floats_quotient 34 = .ok (.invokevirtual 59, 3) := by decide +kernel
theorem d_Floats_quotient_37 : decode b_Floats_quotient 37 = .ok (.ifCond .eq 15, 3) := by decide +kernel
theorem d_Floats_quotient_40 : decode b_Floats_quotient 40 = .ok (.aload_n 0, 1) := by decide +kernel
theorem d_Floats_quotient_41 : decode b_Floats_quotient 41 = .ok (.lload_n 3, 1) := by decide +kernel
theorem d_Floats_quotient_42 : decode b_Floats_quotient 42 = .ok (.invokevirtual 59, 3) := by decide +kernel
theorem d_Floats_quotient_45 : decode b_Floats_quotient 45 = .ok (.ifCond .eq 7, 3) := by decide +kernel
theorem d_Floats_quotient_48 : decode b_Floats_quotient 48 = .ok (.iconst 1, 1) := by decide +kernel
theorem d_Floats_quotient_49 : decode b_Floats_quotient 49 = .ok (.goto 4, 3) := by decide +kernel
theorem d_Floats_quotient_52 : decode b_Floats_quotient 52 = .ok (.iconst 0, 1) := by decide +kernel
theorem d_Floats_quotient_53 : decode b_Floats_quotient 53 = .ok (.istore 8, 2) := by decide +kernel
theorem d_Floats_quotient_55 : decode b_Floats_quotient 55 = .ok (.iload 7, 2) := by decide +kernel
theorem d_Floats_quotient_57 : decode b_Floats_quotient 57 = .ok (.ifCond .ne 8, 3) := by decide +kernel
theorem d_Floats_quotient_60 : decode b_Floats_quotient 60 = .ok (.iload 8, 2) := by decide +kernel
theorem d_Floats_quotient_62 : decode b_Floats_quotient 62 = .ok (.ifCond .eq 8, 3) := by decide +kernel
theorem d_Floats_quotient_65 : decode b_Floats_quotient 65 = .ok (.aload_n 0, 1) := by decide +kernel
theorem d_Floats_quotient_66 : decode b_Floats_quotient 66 = .ok (.getfield 30, 3) := by decide +kernel
theorem d_Floats_quotient_69 : decode b_Floats_quotient 69 = .ok (.lreturn, 1) := by decide +kernel
theorem d_Floats_quotient_70 : decode b_Floats_quotient 70 = .ok (.aload_n 0, 1) := by decide +kernel
theorem d_Floats_quotient_71 : decode b_Floats_quotient 71 = .ok (.lload_n 1, 1) := by decide +kernel
theorem d_Floats_quotient_72 : decode b_Floats_quotient 72 = .ok (.invokevirtual 59, 3) := by decide +kernel
theorem d_Floats_quotient_75 : decode b_Floats_quotient 75 = .ok (.ifCond .ne 11, 3) := by decide +kernel
theorem d_Floats_quotient_78 : decode b_Floats_quotient 78 = .ok (.aload_n 0, 1) := by decide +kernel
theorem d_Floats_quotient_79 : decode b_Floats_quotient 79 = .ok (.lload_n 3, 1) := by decide +kernel
theorem d_Floats_quotient_80 : decode b_Floats_quotient 80 = .ok (.invokevirtual 56, 3) := by decide +kernel
theorem d_Floats_quotient_83 : decode b_Floats_quotient 83 = .ok (.ifCond .eq 11, 3) := by decide +kernel
theorem d_Floats_quotient_86 : decode b_Floats_quotient 86 = .ok (.lload 5, 2) := by decide +kernel
theorem d_Floats_quotient_88 : decode b_Floats_quotient 88 = .ok (.aload_n 0, 1) := by decide +kernel
theorem d_Floats_quotient_89 : decode b_Floats_quotient 89 = .ok (.getfield 82, 3) := by decide +kernel
theorem d_Floats_quotient_92 : decode b_Floats_quotient 92 = .ok (.lor, 1) := by decide +kernel
theorem d_Floats_quotient_93 : decode b_Floats_quotient 93 = .ok (.lreturn, 1) := by decide +kernel
theorem d_Floats_quotient_94 : decode b_Floats_quotient 94 = .ok (.aload_n 0, 1) := by decide +kernel
theorem d_Floats_quotient_95 : decode b_Floats_quotient 95 = .ok (.lload_n 3, 1) := by decide +kernel
theorem d_Floats_quotient_96 : decode b_Floats_quotient 96 = .ok (.invokevirtual 59, 3) := by decide +kernel
theorem d_Floats_quotient_99 : decode b_Floats_quotient 99 = .ok (.ifCond .ne 11, 3) := by decide +kernel
theorem d_Floats_quotient_102 : decode b_Floats_quotient 102 = .ok (.aload_n 0, 1) := by decide +kernel
theorem d_Floats_quotient_103 : decode b_Floats_quotient 103 = .ok (.lload_n 1, 1) := by decide +kernel
theorem d_Floats_quotient_104 : decode b_Floats_quotient 104 = .ok (.invokevirtual 56, 3) := by decide +kernel
theorem d_Floats_quotient_107 : decode b_Floats_quotient 107 = .ok (.ifCond .eq 6, 3) := by decide +kernel
theorem d_Floats_quotient_110 : decode b_Floats_quotient 110 = .ok (.lload 5, 2) := by decide +kernel
theorem d_Floats_quotient_112 : decode b_Floats_quotient 112 = .ok (.lreturn, 1) := by decide +kernel
theorem d_Floats_quotient_113 : decode b_Floats_quotient 113 = .ok (.aload_n 0, 1) := by decide +kernel
theorem d_Floats_quotient_114 : decode b_Floats_quotient 114 = .ok (.lload_n 1, 1) := by decide +kernel
theorem d_Floats_quotient_115 : decode b_Floats_quotient 115 = .ok (.invokestatic 97, 3) := by decide +kernel
theorem d_Floats_quotient_118 : decode b_Floats_quotient 118 = .ok (.aload_n 0, 1) := by decide +kernel
theorem d_Floats_quotient_119 : decode b_Floats_quotient 119 = .ok (.lload_n 3, 1) := by decide +kernel
theorem d_Floats_quotient_120 : decode b_Floats_quotient 120 = .ok (.invokestatic 97, 3) := by decide +kernel
theorem d_Floats_quotient_123 : decode b_Floats_quotient 123 = .ok (.isub, 1) := by decide +kernel
theorem d_Floats_quotient_124 : decode b_Floats_quotient 124 = .ok (.bipush 59, 2) := by decide +kernel
theorem d_Floats_quotient_126 : decode b_Floats_quotient 126 = .ok (.isub, 1) := by decide +kernel
theorem d_Floats_quotient_127 : decode b_Floats_quotient 127 = .ok (.istore 9, 2) := by decide +kernel
theorem d_Floats_quotient_129 : decode b_Floats_quotient 129 = .ok (.aload_n 0, 1) := by decide +kernel
theorem d_Floats_quotient_130 : decode b_Floats_quotient 130 = .ok (.lload 5, 2) := by decide +kernel
theorem d_Floats_quotient_132 : decode b_Floats_quotient 132 = .ok (.aload_n 0, 1) := by decide +kernel
theorem d_Floats_quotient_133 : decode b_Floats_quotient 133 = .ok (.lload_n 1, 1) := by decide +kernel
theorem d_Floats_quotient_134 : decode b_Floats_quotient 134 = .ok (.invokestatic 85, 3) := by decide +kernel
theorem d_Floats_quotient_137 : decode b_Floats_quotient 137 = .ok (.aload_n 0, 1) := by decide +kernel
theorem d_Floats_quotient_138 : decode b_Floats_quotient 138 = .ok (.lload_n 3, 1) := by decide +kernel
theorem d_Floats_quotient_139 : decode b_Floats_quotient 139 = .ok (.invokestatic 85, 3) := by decide +kernel
theorem d_Floats_quotient_142 : decode b_Floats_quotient 142 = .ok (.invokestatic 101, 3) := by decide +kernel
theorem d_Floats_quotient_145 : decode b_Floats_quotient 145 = .ok (.iload 9, 2) := by decide +kernel
theorem d_Floats_quotient_147 : decode b_Floats_quotient 147 = .ok (.invokevirtual 78, 3) := by decide +kernel
theorem d_Floats_quotient_150 : decode b_Floats_quotient 150 = .ok (.lreturn, 1) := by decide +kernel
abbrev b_Floats_longDivision : ByteArray := prog_4_method_10_code
def y_Floats_longDivision : MethodName := ⟨"BitArithmetic$Floats", "longDivision", "(JJ)J"⟩
theorem d_Floats_longDivision_0 : decode b_Floats_longDivision 0 = .ok (.lconst 0, 1) := by decide +kernel
theorem d_Floats_longDivision_1 : decode b_Floats_longDivision 1 = .ok (.lstore 4, 2) := by decide +kernel
theorem d_Floats_longDivision_3 : decode b_Floats_longDivision 3 = .ok (.lload_n 0, 1) := by decide +kernel
theorem d_Floats_longDivision_4 : decode b_Floats_longDivision 4 = .ok (.lstore 6, 2) := by decide +kernel
theorem d_Floats_longDivision_6 : decode b_Floats_longDivision 6 = .ok (.iconst 0, 1) := by decide +kernel
theorem d_Floats_longDivision_7 : decode b_Floats_longDivision 7 = .ok (.istore 8, 2) := by decide +kernel
theorem d_Floats_longDivision_9 : decode b_Floats_longDivision 9 = .ok (.iload 8, 2) := by decide +kernel
theorem d_Floats_longDivision_11 : decode b_Floats_longDivision 11 = .ok (.bipush 60, 2) := by decide +kernel
theorem d_Floats_longDivision_13 : decode b_Floats_longDivision 13 = .ok (.if_icmp .ge 40, 3) := by decide +kernel
theorem d_Floats_longDivision_16 : decode b_Floats_longDivision 16 = .ok (.lload 4, 2) := by decide +kernel
theorem d_Floats_longDivision_18 : decode b_Floats_longDivision 18 = .ok (.iconst 1, 1) := by decide +kernel
theorem d_Floats_longDivision_19 : decode b_Floats_longDivision 19 = .ok (.lshl, 1) := by decide +kernel
theorem d_Floats_longDivision_20 : decode b_Floats_longDivision 20 = .ok (.lstore 4, 2) := by decide +kernel
theorem d_Floats_longDivision_22 : decode b_Floats_longDivision 22 = .ok (.lload 6, 2) := by decide +kernel
theorem d_Floats_longDivision_24 : decode b_Floats_longDivision 24 = .ok (.lload_n 2, 1) := by decide +kernel
theorem d_Floats_longDivision_25 : decode b_Floats_longDivision 25 = .ok (.lcmp, 1) := by decide +kernel
theorem d_Floats_longDivision_26 : decode b_Floats_longDivision 26 = .ok (.ifCond .lt 15, 3) := by decide +kernel
theorem d_Floats_longDivision_29 : decode b_Floats_longDivision 29 = .ok (.lload 6, 2) := by decide +kernel
theorem d_Floats_longDivision_31 : decode b_Floats_longDivision 31 = .ok (.lload_n 2, 1) := by decide +kernel
theorem d_Floats_longDivision_32 : decode b_Floats_longDivision 32 = .ok (.lsub, 1) := by decide +kernel
theorem d_Floats_longDivision_33 : decode b_Floats_longDivision 33 = .ok (.lstore 6, 2) := by decide +kernel
theorem d_Floats_longDivision_35 : decode b_Floats_longDivision 35 = .ok (.lload 4, 2) := by decide +kernel
theorem d_Floats_longDivision_37 : decode b_Floats_longDivision 37 = .ok (.lconst 1, 1) := by decide +kernel
theorem d_Floats_longDivision_38 : decode b_Floats_longDivision 38 = .ok (.lor, 1) := by decide +kernel
theorem d_Floats_longDivision_39 : decode b_Floats_longDivision 39 = .ok (.lstore 4, 2) := by decide +kernel
theorem d_Floats_longDivision_41 : decode b_Floats_longDivision 41 = .ok (.lload 6, 2) := by decide +kernel
theorem d_Floats_longDivision_43 : decode b_Floats_longDivision 43 = .ok (.iconst 1, 1) := by decide +kernel
theorem d_Floats_longDivision_44 : decode b_Floats_longDivision 44 = .ok (.lshl, 1) := by decide +kernel
theorem d_Floats_longDivision_45 : decode b_Floats_longDivision 45 = .ok (.lstore 6, 2) := by decide +kernel
theorem d_Floats_longDivision_47 : decode b_Floats_longDivision 47 = .ok (.iinc 8 1, 3) := by decide +kernel
theorem d_Floats_longDivision_50 : decode b_Floats_longDivision 50 = .ok (.goto (-41), 3) := by decide +kernel
theorem d_Floats_longDivision_53 : decode b_Floats_longDivision 53 = .ok (.lload 4, 2) := by decide +kernel
theorem d_Floats_longDivision_55 : decode b_Floats_longDivision 55 = .ok (.lload 6, 2) := by decide +kernel
theorem d_Floats_longDivision_57 : decode b_Floats_longDivision 57 = .ok (.invokestatic 94, 3) := by decide +kernel
theorem d_Floats_longDivision_60 : decode b_Floats_longDivision 60 = .ok (.lreturn, 1) := by decide +kernel
abbrev b_Floats_isBelow : ByteArray := prog_4_method_5_code
def y_Floats_isBelow : MethodName := ⟨"BitArithmetic$Floats", "isBelow", "(LBitArithmetic$Form;JJ)Z"⟩
theorem d_Floats_isBelow_0 : decode b_Floats_isBelow 0 = .ok (.aload_n 0, 1) := by decide +kernel
theorem d_Floats_isBelow_1 : decode b_Floats_isBelow 1 = .ok (.lload_n 1, 1) := by decide +kernel
theorem d_Floats_isBelow_2 : decode b_Floats_isBelow 2 = .ok (.invokevirtual 56, 3) := by decide +kernel
theorem d_Floats_isBelow_5 : decode b_Floats_isBelow 5 = .ok (.ifCond .eq 37, 3) := by decide +kernel
theorem d_Floats_isBelow_8 : decode b_Floats_isBelow 8 = .ok (.aload_n 0, 1) := by decide +kernel
theorem d_Floats_isBelow_9 : decode b_Floats_isBelow 9 = .ok (.lload_n 3, 1) := by decide +kernel
theorem d_Floats_isBelow_10 : decode b_Floats_isBelow 10 = .ok (.invokevirtual 56, 3) := by decide +kernel
theorem d_Floats_isBelow_13 : decode b_Floats_isBelow 13 = .ok (.ifCond .eq 29, 3) := by decide +kernel
theorem d_Floats_isBelow_16 : decode b_Floats_isBelow 16 = .ok (.aload_n 0, 1) := by decide +kernel
theorem d_Floats_isBelow_17 : decode b_Floats_isBelow 17 = .ok (.lload_n 1, 1) := by decide +kernel
theorem d_Floats_isBelow_18 : decode b_Floats_isBelow 18 = .ok (.invokevirtual 19, 3) := by decide +kernel
theorem d_Floats_isBelow_21 : decode b_Floats_isBelow 21 = .ok (.lconst 0, 1) := by decide +kernel
theorem d_Floats_isBelow_22 : decode b_Floats_isBelow 22 = .ok (.lcmp, 1) := by decide +kernel
theorem d_Floats_isBelow_23 : decode b_Floats_isBelow 23 = .ok (.ifCond .eq 17, 3) := by decide +kernel
theorem d_Floats_isBelow_26 : decode b_Floats_isBelow 26 = .ok (.aload_n 0, 1) := by decide +kernel
theorem d_Floats_isBelow_27 : decode b_Floats_isBelow 27 = .ok (.lload_n 3, 1) := by decide +kernel
theorem d_Floats_isBelow_28 : decode b_Floats_isBelow 28 = .ok (.invokevirtual 19, 3) := by decide +kernel
theorem d_Floats_isBelow_31 : decode b_Floats_isBelow 31 = .ok (.lconst 0, 1) := by decide +kernel
theorem d_Floats_isBelow_32 : decode b_Floats_isBelow 32 = .ok (.lcmp, 1) := by decide +kernel
theorem d_Floats_isBelow_33 : decode b_Floats_isBelow 33 = .ok (.ifCond .ne 7, 3) := by decide +kernel
theorem d_Floats_isBelow_36 : decode b_Floats_isBelow 36 = .ok (.iconst 1, 1) := by decide +kernel
theorem d_Floats_isBelow_37 : decode b_Floats_isBelow 37 = .ok (.goto 4, 3) := by decide +kernel
theorem d_Floats_isBelow_40 : decode b_Floats_isBelow 40 = .ok (.iconst 0, 1) := by decide +kernel
theorem d_Floats_isBelow_41 : decode b_Floats_isBelow 41 = .ok (.ireturn, 1) := by decide +kernel
theorem d_Floats_isBelow_42 : decode b_Floats_isBelow 42 = .ok (.aload_n 0, 1) := by decide +kernel
theorem d_Floats_isBelow_43 : decode b_Floats_isBelow 43 = .ok (.lload_n 1, 1) := by decide +kernel
theorem d_Floats_isBelow_44 : decode b_Floats_isBelow 44 = .ok (.invokestatic 13, 3) := by decide +kernel
theorem d_Floats_isBelow_47 : decode b_Floats_isBelow 47 = .ok (.aload_n 0, 1) := by decide +kernel
theorem d_Floats_isBelow_48 : decode b_Floats_isBelow 48 = .ok (.lload_n 3, 1) := by decide +kernel
theorem d_Floats_isBelow_49 : decode b_Floats_isBelow 49 = .ok (.invokestatic 13, 3) := by decide +kernel
theorem d_Floats_isBelow_52 : decode b_Floats_isBelow 52 = .ok (.lcmp, 1) := by decide +kernel
theorem d_Floats_isBelow_53 : decode b_Floats_isBelow 53 = .ok (.ifCond .ge 7, 3) := by decide +kernel
theorem d_Floats_isBelow_56 : decode b_Floats_isBelow 56 = .ok (.iconst 1, 1) := by decide +kernel
theorem d_Floats_isBelow_57 : decode b_Floats_isBelow 57 = .ok (.goto 4, 3) := by decide +kernel
theorem d_Floats_isBelow_60 : decode b_Floats_isBelow 60 = .ok (.iconst 0, 1) := by decide +kernel
theorem d_Floats_isBelow_61 : decode b_Floats_isBelow 61 = .ok (.ireturn, 1) := by decide +kernel
abbrev b_Steps_toWhole : ByteArray := prog_8_method_2_code
def y_Steps_toWhole : MethodName := ⟨"BitArithmetic$Steps", "toWhole", "(ILBitArithmetic$Form;J)J"⟩
theorem d_Steps_toWhole_0 : decode b_Steps_toWhole 0 = .ok (.aload_n 1, 1) := by decide +kernel
theorem d_Steps_toWhole_1 : decode b_Steps_toWhole 1 = .ok (.getfield 7, 3) := by decide +kernel
theorem d_Steps_toWhole_4 : decode b_Steps_toWhole 4 = .ok (.aload_n 1, 1) := by decide +kernel
theorem d_Steps_toWhole_5 : decode b_Steps_toWhole 5 = .ok (.lload_n 2, 1) := by decide +kernel
theorem d_Steps_toWhole_6 : decode b_Steps_toWhole 6 = .ok (.invokevirtual 13, 3) := by decide +kernel
theorem d_Steps_toWhole_9 : decode b_Steps_toWhole 9 = .ok (.aload_n 1, 1) := by decide +kernel
theorem d_Steps_toWhole_10 : decode b_Steps_toWhole 10 = .ok (.getfield 17, 3) := by decide +kernel
theorem d_Steps_toWhole_13 : decode b_Steps_toWhole 13 = .ok (.isub, 1) := by decide +kernel
theorem d_Steps_toWhole_14 : decode b_Steps_toWhole 14 = .ok (.isub, 1) := by decide +kernel
theorem d_Steps_toWhole_15 : decode b_Steps_toWhole 15 = .ok (.istore 4, 2) := by decide +kernel
theorem d_Steps_toWhole_17 : decode b_Steps_toWhole 17 = .ok (.iload 4, 2) := by decide +kernel
theorem d_Steps_toWhole_19 : decode b_Steps_toWhole 19 = .ok (.ifCond .le 11, 3) := by decide +kernel
theorem d_Steps_toWhole_22 : decode b_Steps_toWhole 22 = .ok (.aload_n 1, 1) := by decide +kernel
theorem d_Steps_toWhole_23 : decode b_Steps_toWhole 23 = .ok (.lload_n 2, 1) := by decide +kernel
theorem d_Steps_toWhole_24 : decode b_Steps_toWhole 24 = .ok (.invokevirtual 20, 3) := by decide +kernel
theorem d_Steps_toWhole_27 : decode b_Steps_toWhole 27 = .ok (.ifCond .eq 5, 3) := by decide +kernel
theorem d_Steps_toWhole_30 : decode b_Steps_toWhole 30 = .ok (.lload_n 2, 1) := by decide +kernel
theorem d_Steps_toWhole_31 : decode b_Steps_toWhole 31 = .ok (.lreturn, 1) := by decide +kernel
theorem d_Steps_toWhole_32 : decode b_Steps_toWhole 32 = .ok (.iload 4, 2) := by decide +kernel
theorem d_Steps_toWhole_34 : decode b_Steps_toWhole 34 = .ok (.aload_n 1, 1) := by decide +kernel
theorem d_Steps_toWhole_35 : decode b_Steps_toWhole 35 = .ok (.getfield 7, 3) := by decide +kernel
theorem d_Steps_toWhole_38 : decode b_Steps_toWhole 38 = .ok (.if_icmp .le 12, 3) := by decide +kernel
theorem d_Steps_toWhole_41 : decode b_Steps_toWhole 41 = .ok (.iload_n 0, 1) := by decide +kernel
theorem d_Steps_toWhole_42 : decode b_Steps_toWhole 42 = .ok (.aload_n 1, 1) := by decide +kernel
theorem d_Steps_toWhole_43 : decode b_Steps_toWhole 43 = .ok (.lload_n 2, 1) := by decide +kernel
theorem d_Steps_toWhole_44 : decode b_Steps_toWhole 44 = .ok (.invokestatic 24, 3) := by decide +kernel
theorem d_Steps_toWhole_47 : decode b_Steps_toWhole 47 = .ok (.goto 11, 3) := by decide +kernel
theorem d_Steps_toWhole_50 : decode b_Steps_toWhole 50 = .ok (.iload_n 0, 1) := by decide +kernel
theorem d_Steps_toWhole_51 : decode b_Steps_toWhole 51 = .ok (.aload_n 1, 1) := by decide +kernel
theorem d_Steps_toWhole_52 : decode b_Steps_toWhole 52 = .ok (.lload_n 2, 1) := by decide +kernel
theorem d_Steps_toWhole_53 : decode b_Steps_toWhole 53 = .ok (.iload 4, 2) := by decide +kernel
theorem d_Steps_toWhole_55 : decode b_Steps_toWhole 55 = .ok (.invokestatic 30, 3) := by decide +kernel
theorem d_Steps_toWhole_58 : decode b_Steps_toWhole 58 = .ok (.lreturn, 1) := by decide +kernel
abbrev b_Steps_belowOne : ByteArray := prog_8_method_3_code
def y_Steps_belowOne : MethodName := ⟨"BitArithmetic$Steps", "belowOne", "(ILBitArithmetic$Form;J)J"⟩
theorem d_Steps_belowOne_0 : decode b_Steps_belowOne 0 = .ok (.aload_n 1, 1) := by decide +kernel
theorem d_Steps_belowOne_1 : decode b_Steps_belowOne 1 = .ok (.lload_n 2, 1) := by decide +kernel
theorem d_Steps_belowOne_2 : decode b_Steps_belowOne 2 = .ok (.invokevirtual 34, 3) := by decide +kernel
theorem d_Steps_belowOne_5 : decode b_Steps_belowOne 5 = .ok (.lstore 4, 2) := by decide +kernel
theorem d_Steps_belowOne_7 : decode b_Steps_belowOne 7 = .ok (.aload_n 1, 1) := by decide +kernel
theorem d_Steps_belowOne_8 : decode b_Steps_belowOne 8 = .ok (.getfield 17, 3) := by decide +kernel
theorem d_Steps_belowOne_11 : decode b_Steps_belowOne 11 = .ok (.i2l, 1) := by decide +kernel
theorem d_Steps_belowOne_12 : decode b_Steps_belowOne 12 = .ok (.aload_n 1, 1) := by decide +kernel
theorem d_Steps_belowOne_13 : decode b_Steps_belowOne 13 = .ok (.getfield 7, 3) := by decide +kernel
theorem d_Steps_belowOne_16 : decode b_Steps_belowOne 16 = .ok (.lshl, 1) := by decide +kernel
theorem d_Steps_belowOne_17 : decode b_Steps_belowOne 17 = .ok (.lstore 6, 2) := by decide +kernel
theorem d_Steps_belowOne_19 : decode b_Steps_belowOne 19 = .ok (.aload_n 1, 1) := by decide +kernel
theorem d_Steps_belowOne_20 : decode b_Steps_belowOne 20 = .ok (.getfield 17, 3) := by decide +kernel
theorem d_Steps_belowOne_23 : decode b_Steps_belowOne 23 = .ok (.iconst 1, 1) := by decide +kernel
theorem d_Steps_belowOne_24 : decode b_Steps_belowOne 24 = .ok (.isub, 1) := by decide +kernel
theorem d_Steps_belowOne_25 : decode b_Steps_belowOne 25 = .ok (.i2l, 1) := by decide +kernel
theorem d_Steps_belowOne_26 : decode b_Steps_belowOne 26 = .ok (.aload_n 1, 1) := by decide +kernel
theorem d_Steps_belowOne_27 : decode b_Steps_belowOne 27 = .ok (.getfield 7, 3) := by decide +kernel
theorem d_Steps_belowOne_30 : decode b_Steps_belowOne 30 = .ok (.lshl, 1) := by decide +kernel
theorem d_Steps_belowOne_31 : decode b_Steps_belowOne 31 = .ok (.lstore 8, 2) := by decide +kernel
theorem d_Steps_belowOne_33 : decode b_Steps_belowOne 33 = .ok (.iload_n 0, 1) := by decide +kernel
theorem d_Steps_belowOne_34 : decode b_Steps_belowOne 34 = .ok (.sipush 144, 3) := by decide +kernel
theorem d_Steps_belowOne_37 : decode b_Steps_belowOne 37 = .ok (.if_icmp .ne 22, 3) := by decide +kernel
theorem d_Steps_belowOne_40 : decode b_Steps_belowOne 40 = .ok (.aload_n 1, 1) := by decide +kernel
theorem d_Steps_belowOne_41 : decode b_Steps_belowOne 41 = .ok (.lload_n 2, 1) := by decide +kernel
theorem d_Steps_belowOne_42 : decode b_Steps_belowOne 42 = .ok (.invokevirtual 38, 3) := by decide +kernel
theorem d_Steps_belowOne_45 : decode b_Steps_belowOne 45 = .ok (.lload 8, 2) := by decide +kernel
theorem d_Steps_belowOne_47 : decode b_Steps_belowOne 47 = .ok (.lcmp, 1) := by decide +kernel
theorem d_Steps_belowOne_48 : decode b_Steps_belowOne 48 = .ok (.ifCond .le 7, 3) := by decide +kernel
theorem d_Steps_belowOne_51 : decode b_Steps_belowOne 51 = .ok (.iconst 1, 1) := by decide +kernel
theorem d_Steps_belowOne_52 : decode b_Steps_belowOne 52 = .ok (.goto 13, 3) := by decide +kernel
theorem d_Steps_belowOne_55 : decode b_Steps_belowOne 55 = .ok (.iconst 0, 1) := by decide +kernel
theorem d_Steps_belowOne_56 : decode b_Steps_belowOne 56 = .ok (.goto 9, 3) := by decide +kernel
theorem d_Steps_belowOne_59 : decode b_Steps_belowOne 59 = .ok (.iload_n 0, 1) := by decide +kernel
theorem d_Steps_belowOne_60 : decode b_Steps_belowOne 60 = .ok (.lload 4, 2) := by decide +kernel
theorem d_Steps_belowOne_62 : decode b_Steps_belowOne 62 = .ok (.invokestatic 41, 3) := by decide +kernel
theorem d_Steps_belowOne_65 : decode b_Steps_belowOne 65 = .ok (.istore 10, 2) := by decide +kernel
theorem d_Steps_belowOne_67 : decode b_Steps_belowOne 67 = .ok (.iload 10, 2) := by decide +kernel
theorem d_Steps_belowOne_69 : decode b_Steps_belowOne 69 = .ok (.ifCond .eq 11, 3) := by decide +kernel
theorem d_Steps_belowOne_72 : decode b_Steps_belowOne 72 = .ok (.lload 4, 2) := by decide +kernel
theorem d_Steps_belowOne_74 : decode b_Steps_belowOne 74 = .ok (.lload 6, 2) := by decide +kernel
theorem d_Steps_belowOne_76 : decode b_Steps_belowOne 76 = .ok (.lor, 1) := by decide +kernel
theorem d_Steps_belowOne_77 : decode b_Steps_belowOne 77 = .ok (.goto 5, 3) := by decide +kernel
theorem d_Steps_belowOne_80 : decode b_Steps_belowOne 80 = .ok (.lload 4, 2) := by decide +kernel
theorem d_Steps_belowOne_82 : decode b_Steps_belowOne 82 = .ok (.lreturn, 1) := by decide +kernel
abbrev b_Steps_goesAway : ByteArray := prog_8_method_6_code
def y_Steps_goesAway : MethodName := ⟨"BitArithmetic$Steps", "goesAway", "(IJ)Z"⟩
theorem d_Steps_goesAway_0 : decode b_Steps_goesAway 0 = .ok (.iload_n 0, 1) := by decide +kernel
theorem d_Steps_goesAway_1 : decode b_Steps_goesAway 1 = .ok (.sipush 141, 3) := by decide +kernel
theorem d_Steps_goesAway_4 : decode b_Steps_goesAway 4 = .ok (.if_icmp .ne 9, 3) := by decide +kernel
theorem d_Steps_goesAway_7 : decode b_Steps_goesAway 7 = .ok (.lload_n 1, 1) := by decide +kernel
theorem d_Steps_goesAway_8 : decode b_Steps_goesAway 8 = .ok (.lconst 0, 1) := by decide +kernel
theorem d_Steps_goesAway_9 : decode b_Steps_goesAway 9 = .ok (.lcmp, 1) := by decide +kernel
theorem d_Steps_goesAway_10 : decode b_Steps_goesAway 10 = .ok (.ifCond .eq 16, 3) := by decide +kernel
theorem d_Steps_goesAway_13 : decode b_Steps_goesAway 13 = .ok (.iload_n 0, 1) := by decide +kernel
theorem d_Steps_goesAway_14 : decode b_Steps_goesAway 14 = .ok (.sipush 142, 3) := by decide +kernel
theorem d_Steps_goesAway_17 : decode b_Steps_goesAway 17 = .ok (.if_icmp .ne 13, 3) := by decide +kernel
theorem d_Steps_goesAway_20 : decode b_Steps_goesAway 20 = .ok (.lload_n 1, 1) := by decide +kernel
theorem d_Steps_goesAway_21 : decode b_Steps_goesAway 21 = .ok (.lconst 0, 1) := by decide +kernel
theorem d_Steps_goesAway_22 : decode b_Steps_goesAway 22 = .ok (.lcmp, 1) := by decide +kernel
theorem d_Steps_goesAway_23 : decode b_Steps_goesAway 23 = .ok (.ifCond .eq 7, 3) := by decide +kernel
theorem d_Steps_goesAway_26 : decode b_Steps_goesAway 26 = .ok (.iconst 1, 1) := by decide +kernel
theorem d_Steps_goesAway_27 : decode b_Steps_goesAway 27 = .ok (.goto 4, 3) := by decide +kernel
theorem d_Steps_goesAway_30 : decode b_Steps_goesAway 30 = .ok (.iconst 0, 1) := by decide +kernel
theorem d_Steps_goesAway_31 : decode b_Steps_goesAway 31 = .ok (.ireturn, 1) := by decide +kernel
abbrev b_Steps_fromOneOn : ByteArray := prog_8_method_4_code
def y_Steps_fromOneOn : MethodName := ⟨"BitArithmetic$Steps", "fromOneOn", "(ILBitArithmetic$Form;JI)J"⟩
theorem d_Steps_fromOneOn_0 : decode b_Steps_fromOneOn 0 = .ok (.lconst 1, 1) := by decide +kernel
theorem d_Steps_fromOneOn_1 : decode b_Steps_fromOneOn 1 = .ok (.iload 4, 2) := by decide +kernel
theorem d_Steps_fromOneOn_3 : decode b_Steps_fromOneOn 3 = .ok (.lshl, 1) := by decide +kernel
theorem d_Steps_fromOneOn_4 : decode b_Steps_fromOneOn 4 = .ok (.lstore 5, 2) := by decide +kernel
theorem d_Steps_fromOneOn_6 : decode b_Steps_fromOneOn 6 = .ok (.lload_n 2, 1) := by decide +kernel
theorem d_Steps_fromOneOn_7 : decode b_Steps_fromOneOn 7 = .ok (.lload 5, 2) := by decide +kernel
theorem d_Steps_fromOneOn_9 : decode b_Steps_fromOneOn 9 = .ok (.lconst 1, 1) := by decide +kernel
theorem d_Steps_fromOneOn_10 : decode b_Steps_fromOneOn 10 = .ok (.lsub, 1) := by decide +kernel
theorem d_Steps_fromOneOn_11 : decode b_Steps_fromOneOn 11 = .ok (.land, 1) := by decide +kernel
theorem d_Steps_fromOneOn_12 : decode b_Steps_fromOneOn 12 = .ok (.lstore 7, 2) := by decide +kernel
theorem d_Steps_fromOneOn_14 : decode b_Steps_fromOneOn 14 = .ok (.lload_n 2, 1) := by decide +kernel
theorem d_Steps_fromOneOn_15 : decode b_Steps_fromOneOn 15 = .ok (.lload 7, 2) := by decide +kernel
theorem d_Steps_fromOneOn_17 : decode b_Steps_fromOneOn 17 = .ok (.lsub, 1) := by decide +kernel
theorem d_Steps_fromOneOn_18 : decode b_Steps_fromOneOn 18 = .ok (.lstore 9, 2) := by decide +kernel
theorem d_Steps_fromOneOn_20 : decode b_Steps_fromOneOn 20 = .ok (.lload 7, 2) := by decide +kernel
theorem d_Steps_fromOneOn_22 : decode b_Steps_fromOneOn 22 = .ok (.lconst 0, 1) := by decide +kernel
theorem d_Steps_fromOneOn_23 : decode b_Steps_fromOneOn 23 = .ok (.lcmp, 1) := by decide +kernel
theorem d_Steps_fromOneOn_24 : decode b_Steps_fromOneOn 24 = .ok (.ifCond .ne 5, 3) := by decide +kernel
theorem d_Steps_fromOneOn_27 : decode b_Steps_fromOneOn 27 = .ok (.lload_n 2, 1) := by decide +kernel
theorem d_Steps_fromOneOn_28 : decode b_Steps_fromOneOn 28 = .ok (.lreturn, 1) := by decide +kernel
theorem d_Steps_fromOneOn_29 : decode b_Steps_fromOneOn 29 = .ok (.iload_n 0, 1) := by decide +kernel
theorem d_Steps_fromOneOn_30 : decode b_Steps_fromOneOn 30 = .ok (.sipush 144, 3) := by decide +kernel
theorem d_Steps_fromOneOn_33 : decode b_Steps_fromOneOn 33 = .ok (.if_icmp .ne 15, 3) := by decide +kernel
theorem d_Steps_fromOneOn_36 : decode b_Steps_fromOneOn 36 = .ok (.lload 9, 2) := by decide +kernel
theorem d_Steps_fromOneOn_38 : decode b_Steps_fromOneOn 38 = .ok (.lload 7, 2) := by decide +kernel
theorem d_Steps_fromOneOn_40 : decode b_Steps_fromOneOn 40 = .ok (.lload 5, 2) := by decide +kernel
theorem d_Steps_fromOneOn_42 : decode b_Steps_fromOneOn 42 = .ok (.invokestatic 45, 3) := by decide +kernel
theorem d_Steps_fromOneOn_45 : decode b_Steps_fromOneOn 45 = .ok (.goto 12, 3) := by decide +kernel
theorem d_Steps_fromOneOn_48 : decode b_Steps_fromOneOn 48 = .ok (.iload_n 0, 1) := by decide +kernel
theorem d_Steps_fromOneOn_49 : decode b_Steps_fromOneOn 49 = .ok (.aload_n 1, 1) := by decide +kernel
theorem d_Steps_fromOneOn_50 : decode b_Steps_fromOneOn 50 = .ok (.lload_n 2, 1) := by decide +kernel
theorem d_Steps_fromOneOn_51 : decode b_Steps_fromOneOn 51 = .ok (.invokevirtual 34, 3) := by decide +kernel
theorem d_Steps_fromOneOn_54 : decode b_Steps_fromOneOn 54 = .ok (.invokestatic 41, 3) := by decide +kernel
theorem d_Steps_fromOneOn_57 : decode b_Steps_fromOneOn 57 = .ok (.istore 11, 2) := by decide +kernel
theorem d_Steps_fromOneOn_59 : decode b_Steps_fromOneOn 59 = .ok (.iload 11, 2) := by decide +kernel
theorem d_Steps_fromOneOn_61 : decode b_Steps_fromOneOn 61 = .ok (.ifCond .eq 11, 3) := by decide +kernel
theorem d_Steps_fromOneOn_64 : decode b_Steps_fromOneOn 64 = .ok (.lload 9, 2) := by decide +kernel
theorem d_Steps_fromOneOn_66 : decode b_Steps_fromOneOn 66 = .ok (.lload 5, 2) := by decide +kernel
theorem d_Steps_fromOneOn_68 : decode b_Steps_fromOneOn 68 = .ok (.ladd, 1) := by decide +kernel
theorem d_Steps_fromOneOn_69 : decode b_Steps_fromOneOn 69 = .ok (.goto 5, 3) := by decide +kernel
theorem d_Steps_fromOneOn_72 : decode b_Steps_fromOneOn 72 = .ok (.lload 9, 2) := by decide +kernel
theorem d_Steps_fromOneOn_74 : decode b_Steps_fromOneOn 74 = .ok (.lreturn, 1) := by decide +kernel
abbrev b_Steps_isNearerAway : ByteArray := prog_8_method_5_code
def y_Steps_isNearerAway : MethodName := ⟨"BitArithmetic$Steps", "isNearerAway", "(JJJ)Z"⟩
theorem d_Steps_isNearerAway_0 : decode b_Steps_isNearerAway 0 = .ok (.lload 4, 2) := by decide +kernel
theorem d_Steps_isNearerAway_2 : decode b_Steps_isNearerAway 2 = .ok (.iconst 1, 1) := by decide +kernel
theorem d_Steps_isNearerAway_3 : decode b_Steps_isNearerAway 3 = .ok (.lushr, 1) := by decide +kernel
theorem d_Steps_isNearerAway_4 : decode b_Steps_isNearerAway 4 = .ok (.lstore 6, 2) := by decide +kernel
theorem d_Steps_isNearerAway_6 : decode b_Steps_isNearerAway 6 = .ok (.lload_n 2, 1) := by decide +kernel
theorem d_Steps_isNearerAway_7 : decode b_Steps_isNearerAway 7 = .ok (.lload 6, 2) := by decide +kernel
theorem d_Steps_isNearerAway_9 : decode b_Steps_isNearerAway 9 = .ok (.lcmp, 1) := by decide +kernel
theorem d_Steps_isNearerAway_10 : decode b_Steps_isNearerAway 10 = .ok (.ifCond .gt 19, 3) := by decide +kernel
theorem d_Steps_isNearerAway_13 : decode b_Steps_isNearerAway 13 = .ok (.lload_n 2, 1) := by decide +kernel
theorem d_Steps_isNearerAway_14 : decode b_Steps_isNearerAway 14 = .ok (.lload 6, 2) := by decide +kernel
theorem d_Steps_isNearerAway_16 : decode b_Steps_isNearerAway 16 = .ok (.lcmp, 1) := by decide +kernel
theorem d_Steps_isNearerAway_17 : decode b_Steps_isNearerAway 17 = .ok (.ifCond .ne 16, 3) := by decide +kernel
theorem d_Steps_isNearerAway_20 : decode b_Steps_isNearerAway 20 = .ok (.lload_n 0, 1) := by decide +kernel
theorem d_Steps_isNearerAway_21 : decode b_Steps_isNearerAway 21 = .ok (.lload 4, 2) := by decide +kernel
theorem d_Steps_isNearerAway_23 : decode b_Steps_isNearerAway 23 = .ok (.land, 1) := by decide +kernel
theorem d_Steps_isNearerAway_24 : decode b_Steps_isNearerAway 24 = .ok (.lconst 0, 1) := by decide +kernel
theorem d_Steps_isNearerAway_25 : decode b_Steps_isNearerAway 25 = .ok (.lcmp, 1) := by decide +kernel
theorem d_Steps_isNearerAway_26 : decode b_Steps_isNearerAway 26 = .ok (.ifCond .eq 7, 3) := by decide +kernel
theorem d_Steps_isNearerAway_29 : decode b_Steps_isNearerAway 29 = .ok (.iconst 1, 1) := by decide +kernel
theorem d_Steps_isNearerAway_30 : decode b_Steps_isNearerAway 30 = .ok (.goto 4, 3) := by decide +kernel
theorem d_Steps_isNearerAway_33 : decode b_Steps_isNearerAway 33 = .ok (.iconst 0, 1) := by decide +kernel
theorem d_Steps_isNearerAway_34 : decode b_Steps_isNearerAway 34 = .ok (.ireturn, 1) := by decide +kernel
abbrev b_Main_next : ByteArray := prog_1_method_3_code
def y_Main_next : MethodName := ⟨"BitArithmetic", "next", "(IJ)J"⟩
theorem d_Main_next_0 : decode b_Main_next 0 = .ok (.iload_n 1, 1) := by decide +kernel
theorem d_Main_next_1 : decode b_Main_next 1 = .ok (.aload_n 0, 1) := by decide +kernel
theorem d_Main_next_2 : decode b_Main_next 2 = .ok (.getfield 7, 3) := by decide +kernel
theorem d_Main_next_5 : decode b_Main_next 5 = .ok (.lload_n 2, 1) := by decide +kernel
theorem d_Main_next_6 : decode b_Main_next 6 = .ok (.invokestatic 13, 3) := by decide +kernel
theorem d_Main_next_9 : decode b_Main_next 9 = .ok (.lstore 4, 2) := by decide +kernel
theorem d_Main_next_11 : decode b_Main_next 11 = .ok (.aload_n 0, 1) := by decide +kernel
theorem d_Main_next_12 : decode b_Main_next 12 = .ok (.lload 4, 2) := by decide +kernel
theorem d_Main_next_14 : decode b_Main_next 14 = .ok (.putfield 7, 3) := by decide +kernel
theorem d_Main_next_17 : decode b_Main_next 17 = .ok (.lload 4, 2) := by decide +kernel
theorem d_Main_next_19 : decode b_Main_next 19 = .ok (.lreturn, 1) := by decide +kernel
abbrev b_Main_into : ByteArray := prog_1_method_4_code
def y_Main_into : MethodName := ⟨"BitArithmetic", "into", "(IJ)J"⟩
theorem d_Main_into_0 : decode b_Main_into 0 = .ok (.iload_n 1, 1) := by decide +kernel
theorem d_Main_into_1 : decode b_Main_into 1 = .ok (.lload_n 2, 1) := by decide +kernel
theorem d_Main_into_2 : decode b_Main_into 2 = .ok (.aload_n 0, 1) := by decide +kernel
theorem d_Main_into_3 : decode b_Main_into 3 = .ok (.getfield 7, 3) := by decide +kernel
theorem d_Main_into_6 : decode b_Main_into 6 = .ok (.invokestatic 13, 3) := by decide +kernel
theorem d_Main_into_9 : decode b_Main_into 9 = .ok (.lstore 4, 2) := by decide +kernel
theorem d_Main_into_11 : decode b_Main_into 11 = .ok (.aload_n 0, 1) := by decide +kernel
theorem d_Main_into_12 : decode b_Main_into 12 = .ok (.lload 4, 2) := by decide +kernel
theorem d_Main_into_14 : decode b_Main_into 14 = .ok (.putfield 7, 3) := by decide +kernel
theorem d_Main_into_17 : decode b_Main_into 17 = .ok (.lload 4, 2) := by decide +kernel
theorem d_Main_into_19 : decode b_Main_into 19 = .ok (.lreturn, 1) := by decide +kernel
