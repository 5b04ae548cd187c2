abbrev b_Ref_init : ByteArray := prog_11_method_1_code
def y_Ref_init : MethodName := ⟨"BitArithmeticModel", "<init>", "()V"⟩
theorem d_Ref_init_0 : decode b_Ref_init 0 = .ok (.aload_n 0, 1) := by decide +kernel
theorem d_Ref_init_1 : decode b_Ref_init 1 = .ok (.invokespecial 1, 3) := by decide +kernel
theorem d_Ref_init_4 : decode b_Ref_init 4 = .ok (.aload_n 0, 1) := by decide +kernel
theorem d_Ref_init_5 : decode b_Ref_init 5 = .ok (.sipush 4400, 3) := by decide +kernel
theorem d_Ref_init_8 : decode b_Ref_init 8 = .ok (.newarray .byte, 2) := by decide +kernel
theorem d_Ref_init_10 : decode b_Ref_init 10 = .ok (.putfield 7, 3) := by decide +kernel
theorem d_Ref_init_13 : decode b_Ref_init 13 = .ok (.aload_n 0, 1) := by decide +kernel
theorem d_Ref_init_14 : decode b_Ref_init 14 = .ok (.iconst 1, 1) := by decide +kernel
theorem d_Ref_init_15 : decode b_Ref_init 15 = .ok (.putfield 13, 3) := by decide +kernel
theorem d_Ref_init_18 : decode b_Ref_init 18 = .ok (.aload_n 0, 1) := by decide +kernel
theorem d_Ref_init_19 : decode b_Ref_init 19 = .ok (.iconst 0, 1) := by decide +kernel
theorem d_Ref_init_20 : decode b_Ref_init 20 = .ok (.putfield 17, 3) := by decide +kernel
theorem d_Ref_init_23 : decode b_Ref_init 23 = .ok (.return_, 1) := by decide +kernel
abbrev b_Ref_thrown : ByteArray := prog_11_method_2_code
def y_Ref_thrown : MethodName := ⟨"BitArithmeticModel", "thrown", "()I"⟩
theorem d_Ref_thrown_0 : decode b_Ref_thrown 0 = .ok (.aload_n 0, 1) := by decide +kernel
theorem d_Ref_thrown_1 : decode b_Ref_thrown 1 = .ok (.getfield 20, 3) := by decide +kernel
theorem d_Ref_thrown_4 : decode b_Ref_thrown 4 = .ok (.ireturn, 1) := by decide +kernel
abbrev b_Ref_latest : ByteArray := prog_11_method_3_code
def y_Ref_latest : MethodName := ⟨"BitArithmeticModel", "latest", "()J"⟩
theorem d_Ref_latest_0 : decode b_Ref_latest 0 = .ok (.aload_n 0, 1) := by decide +kernel
theorem d_Ref_latest_1 : decode b_Ref_latest 1 = .ok (.iconst 0, 1) := by decide +kernel
theorem d_Ref_latest_2 : decode b_Ref_latest 2 = .ok (.putfield 20, 3) := by decide +kernel
theorem d_Ref_latest_5 : decode b_Ref_latest 5 = .ok (.aload_n 0, 1) := by decide +kernel
theorem d_Ref_latest_6 : decode b_Ref_latest 6 = .ok (.getfield 23, 3) := by decide +kernel
theorem d_Ref_latest_9 : decode b_Ref_latest 9 = .ok (.lreturn, 1) := by decide +kernel
abbrev b_Ref_kind : ByteArray := prog_11_method_8_code
def y_Ref_kind : MethodName := ⟨"BitArithmeticModel", "kind", "(II)I"⟩
theorem d_Ref_kind_0 : decode b_Ref_kind 0 = .ok (.aload_n 0, 1) := by decide +kernel
theorem d_Ref_kind_1 : decode b_Ref_kind 1 = .ok (.iconst 0, 1) := by decide +kernel
theorem d_Ref_kind_2 : decode b_Ref_kind 2 = .ok (.putfield 20, 3) := by decide +kernel
theorem d_Ref_kind_5 : decode b_Ref_kind 5 = .ok (.iload_n 1, 1) := by decide +kernel
theorem d_Ref_kind_6 : decode b_Ref_kind 6 = .ok (.bipush 69, 2) := by decide +kernel
theorem d_Ref_kind_8 : decode b_Ref_kind 8 = .ok (.sipush 191, 3) := by decide +kernel
theorem d_Ref_kind_11 : decode b_Ref_kind 11 = .ok (.invokestatic 31, 3) := by decide +kernel
theorem d_Ref_kind_14 : decode b_Ref_kind 14 = .ok (.ifCond .ne 5, 3) := by decide +kernel
theorem d_Ref_kind_17 : decode b_Ref_kind 17 = .ok (.iconst (-1), 1) := by decide +kernel
theorem d_Ref_kind_18 : decode b_Ref_kind 18 = .ok (.ireturn, 1) := by decide +kernel
theorem d_Ref_kind_19 : decode b_Ref_kind 19 = .ok (.iload_n 2, 1) := by decide +kernel
theorem d_Ref_kind_20 : decode b_Ref_kind 20 = .ok (.ifCond .ne 10, 3) := by decide +kernel
theorem d_Ref_kind_23 : decode b_Ref_kind 23 = .ok (.iload_n 1, 1) := by decide +kernel
theorem d_Ref_kind_24 : decode b_Ref_kind 24 = .ok (.invokestatic 27, 3) := by decide +kernel
theorem d_Ref_kind_27 : decode b_Ref_kind 27 = .ok (.goto 28, 3) := by decide +kernel
theorem d_Ref_kind_30 : decode b_Ref_kind 30 = .ok (.iload_n 2, 1) := by decide +kernel
theorem d_Ref_kind_31 : decode b_Ref_kind 31 = .ok (.iconst 1, 1) := by decide +kernel
theorem d_Ref_kind_32 : decode b_Ref_kind 32 = .ok (.if_icmp .ne 10, 3) := by decide +kernel
theorem d_Ref_kind_35 : decode b_Ref_kind 35 = .ok (.iload_n 1, 1) := by decide +kernel
theorem d_Ref_kind_36 : decode b_Ref_kind 36 = .ok (.invokestatic 35, 3) := by decide +kernel
theorem d_Ref_kind_39 : decode b_Ref_kind 39 = .ok (.goto 16, 3) := by decide +kernel
theorem d_Ref_kind_42 : decode b_Ref_kind 42 = .ok (.iload_n 2, 1) := by decide +kernel
theorem d_Ref_kind_43 : decode b_Ref_kind 43 = .ok (.iconst 2, 1) := by decide +kernel
theorem d_Ref_kind_44 : decode b_Ref_kind 44 = .ok (.if_icmp .ne 10, 3) := by decide +kernel
theorem d_Ref_kind_47 : decode b_Ref_kind 47 = .ok (.iload_n 1, 1) := by decide +kernel
theorem d_Ref_kind_48 : decode b_Ref_kind 48 = .ok (.invokestatic 38, 3) := by decide +kernel
theorem d_Ref_kind_51 : decode b_Ref_kind 51 = .ok (.goto 4, 3) := by decide +kernel
theorem d_Ref_kind_54 : decode b_Ref_kind 54 = .ok (.iconst (-1), 1) := by decide +kernel
theorem d_Ref_kind_55 : decode b_Ref_kind 55 = .ok (.ireturn, 1) := by decide +kernel
abbrev b_Ref_isIn : ByteArray := prog_11_method_4_code
def y_Ref_isIn : MethodName := ⟨"BitArithmeticModel", "isIn", "(III)Z"⟩
theorem d_Ref_isIn_0 : decode b_Ref_isIn 0 = .ok (.iload_n 0, 1) := by decide +kernel
theorem d_Ref_isIn_1 : decode b_Ref_isIn 1 = .ok (.iload_n 1, 1) := by decide +kernel
theorem d_Ref_isIn_2 : decode b_Ref_isIn 2 = .ok (.if_icmp .lt 12, 3) := by decide +kernel
theorem d_Ref_isIn_5 : decode b_Ref_isIn 5 = .ok (.iload_n 0, 1) := by decide +kernel
theorem d_Ref_isIn_6 : decode b_Ref_isIn 6 = .ok (.iload_n 2, 1) := by decide +kernel
theorem d_Ref_isIn_7 : decode b_Ref_isIn 7 = .ok (.if_icmp .gt 7, 3) := by decide +kernel
theorem d_Ref_isIn_10 : decode b_Ref_isIn 10 = .ok (.iconst 1, 1) := by decide +kernel
theorem d_Ref_isIn_11 : decode b_Ref_isIn 11 = .ok (.goto 4, 3) := by decide +kernel
theorem d_Ref_isIn_14 : decode b_Ref_isIn 14 = .ok (.iconst 0, 1) := by decide +kernel
theorem d_Ref_isIn_15 : decode b_Ref_isIn 15 = .ok (.ireturn, 1) := by decide +kernel
abbrev b_Ref_result : ByteArray := prog_11_method_5_code
def y_Ref_result : MethodName := ⟨"BitArithmeticModel", "result", "(I)I"⟩
theorem d_Ref_result_0 : decode b_Ref_result 0 = .ok (.iload_n 0, 1) := by decide +kernel
theorem d_Ref_result_1 : decode b_Ref_result 1 = .ok (.bipush 120, 2) := by decide +kernel
theorem d_Ref_result_3 : decode b_Ref_result 3 = .ok (.if_icmp .gt 5, 3) := by decide +kernel
theorem d_Ref_result_6 : decode b_Ref_result 6 = .ok (.iconst 0, 1) := by decide +kernel
theorem d_Ref_result_7 : decode b_Ref_result 7 = .ok (.ireturn, 1) := by decide +kernel
theorem d_Ref_result_8 : decode b_Ref_result 8 = .ok (.iload_n 0, 1) := by decide +kernel
theorem d_Ref_result_9 : decode b_Ref_result 9 = .ok (.sipush 166, 3) := by decide +kernel
theorem d_Ref_result_12 : decode b_Ref_result 12 = .ok (.if_icmp .gt 27, 3) := by decide +kernel
theorem d_Ref_result_15 : decode b_Ref_result 15 = .ok (.iload_n 0, 1) := by decide +kernel
theorem d_Ref_result_16 : decode b_Ref_result 16 = .ok (.sipush 138, 3) := by decide +kernel
theorem d_Ref_result_19 : decode b_Ref_result 19 = .ok (.if_icmp .gt 7, 3) := by decide +kernel
theorem d_Ref_result_22 : decode b_Ref_result 22 = .ok (.iconst 1, 1) := by decide +kernel
theorem d_Ref_result_23 : decode b_Ref_result 23 = .ok (.goto 15, 3) := by decide +kernel
theorem d_Ref_result_26 : decode b_Ref_result 26 = .ok (.iload_n 0, 1) := by decide +kernel
theorem d_Ref_result_27 : decode b_Ref_result 27 = .ok (.sipush 152, 3) := by decide +kernel
theorem d_Ref_result_30 : decode b_Ref_result 30 = .ok (.if_icmp .gt 7, 3) := by decide +kernel
theorem d_Ref_result_33 : decode b_Ref_result 33 = .ok (.iconst 2, 1) := by decide +kernel
theorem d_Ref_result_34 : decode b_Ref_result 34 = .ok (.goto 4, 3) := by decide +kernel
theorem d_Ref_result_37 : decode b_Ref_result 37 = .ok (.iconst 3, 1) := by decide +kernel
theorem d_Ref_result_38 : decode b_Ref_result 38 = .ok (.ireturn, 1) := by decide +kernel
theorem d_Ref_result_39 : decode b_Ref_result 39 = .ok (.iload_n 0, 1) := by decide +kernel
theorem d_Ref_result_40 : decode b_Ref_result 40 = .ok (.sipush 177, 3) := by decide +kernel
theorem d_Ref_result_43 : decode b_Ref_result 43 = .ok (.if_icmp .gt 16, 3) := by decide +kernel
theorem d_Ref_result_46 : decode b_Ref_result 46 = .ok (.iload_n 0, 1) := by decide +kernel
theorem d_Ref_result_47 : decode b_Ref_result 47 = .ok (.sipush 171, 3) := by decide +kernel
theorem d_Ref_result_50 : decode b_Ref_result 50 = .ok (.if_icmp .gt 7, 3) := by decide +kernel
theorem d_Ref_result_53 : decode b_Ref_result 53 = .ok (.iconst 0, 1) := by decide +kernel
theorem d_Ref_result_54 : decode b_Ref_result 54 = .ok (.goto 4, 3) := by decide +kernel
theorem d_Ref_result_57 : decode b_Ref_result 57 = .ok (.iconst 1, 1) := by decide +kernel
theorem d_Ref_result_58 : decode b_Ref_result 58 = .ok (.ireturn, 1) := by decide +kernel
theorem d_Ref_result_59 : decode b_Ref_result 59 = .ok (.iload_n 0, 1) := by decide +kernel
theorem d_Ref_result_60 : decode b_Ref_result 60 = .ok (.sipush 182, 3) := by decide +kernel
theorem d_Ref_result_63 : decode b_Ref_result 63 = .ok (.if_icmp .gt 7, 3) := by decide +kernel
theorem d_Ref_result_66 : decode b_Ref_result 66 = .ok (.iconst 2, 1) := by decide +kernel
theorem d_Ref_result_67 : decode b_Ref_result 67 = .ok (.goto 19, 3) := by decide +kernel
theorem d_Ref_result_70 : decode b_Ref_result 70 = .ok (.iload_n 0, 1) := by decide +kernel
theorem d_Ref_result_71 : decode b_Ref_result 71 = .ok (.sipush 187, 3) := by decide +kernel
theorem d_Ref_result_74 : decode b_Ref_result 74 = .ok (.if_icmp .gt 7, 3) := by decide +kernel
theorem d_Ref_result_77 : decode b_Ref_result 77 = .ok (.iconst 3, 1) := by decide +kernel
theorem d_Ref_result_78 : decode b_Ref_result 78 = .ok (.goto 8, 3) := by decide +kernel
theorem d_Ref_result_81 : decode b_Ref_result 81 = .ok (.iload_n 0, 1) := by decide +kernel
theorem d_Ref_result_82 : decode b_Ref_result 82 = .ok (.sipush 188, 3) := by decide +kernel
theorem d_Ref_result_85 : decode b_Ref_result 85 = .ok (.isub, 1) := by decide +kernel
theorem d_Ref_result_86 : decode b_Ref_result 86 = .ok (.ireturn, 1) := by decide +kernel
abbrev b_Ref_first : ByteArray := prog_11_method_6_code
def y_Ref_first : MethodName := ⟨"BitArithmeticModel", "first", "(I)I"⟩
theorem d_Ref_first_0 : decode b_Ref_first 0 = .ok (.iload_n 0, 1) := by decide +kernel
theorem d_Ref_first_1 : decode b_Ref_first 1 = .ok (.bipush 102, 2) := by decide +kernel
theorem d_Ref_first_3 : decode b_Ref_first 3 = .ok (.if_icmp .gt 35, 3) := by decide +kernel
theorem d_Ref_first_6 : decode b_Ref_first 6 = .ok (.iload_n 0, 1) := by decide +kernel
theorem d_Ref_first_7 : decode b_Ref_first 7 = .ok (.bipush 79, 2) := by decide +kernel
theorem d_Ref_first_9 : decode b_Ref_first 9 = .ok (.if_icmp .gt 7, 3) := by decide +kernel
theorem d_Ref_first_12 : decode b_Ref_first 12 = .ok (.iconst 0, 1) := by decide +kernel
theorem d_Ref_first_13 : decode b_Ref_first 13 = .ok (.goto 24, 3) := by decide +kernel
theorem d_Ref_first_16 : decode b_Ref_first 16 = .ok (.iload_n 0, 1) := by decide +kernel
theorem d_Ref_first_17 : decode b_Ref_first 17 = .ok (.bipush 90, 2) := by decide +kernel
theorem d_Ref_first_19 : decode b_Ref_first 19 = .ok (.if_icmp .gt 7, 3) := by decide +kernel
theorem d_Ref_first_22 : decode b_Ref_first 22 = .ok (.iconst 1, 1) := by decide +kernel
theorem d_Ref_first_23 : decode b_Ref_first 23 = .ok (.goto 14, 3) := by decide +kernel
theorem d_Ref_first_26 : decode b_Ref_first 26 = .ok (.iload_n 0, 1) := by decide +kernel
theorem d_Ref_first_27 : decode b_Ref_first 27 = .ok (.bipush 96, 2) := by decide +kernel
theorem d_Ref_first_29 : decode b_Ref_first 29 = .ok (.if_icmp .gt 7, 3) := by decide +kernel
theorem d_Ref_first_32 : decode b_Ref_first 32 = .ok (.iconst 2, 1) := by decide +kernel
theorem d_Ref_first_33 : decode b_Ref_first 33 = .ok (.goto 4, 3) := by decide +kernel
theorem d_Ref_first_36 : decode b_Ref_first 36 = .ok (.iconst 3, 1) := by decide +kernel
theorem d_Ref_first_37 : decode b_Ref_first 37 = .ok (.ireturn, 1) := by decide +kernel
theorem d_Ref_first_38 : decode b_Ref_first 38 = .ok (.iload_n 0, 1) := by decide +kernel
theorem d_Ref_first_39 : decode b_Ref_first 39 = .ok (.sipush 166, 3) := by decide +kernel
theorem d_Ref_first_42 : decode b_Ref_first 42 = .ok (.if_icmp .gt 8, 3) := by decide +kernel
theorem d_Ref_first_45 : decode b_Ref_first 45 = .ok (.iload_n 0, 1) := by decide +kernel
theorem d_Ref_first_46 : decode b_Ref_first 46 = .ok (.invokestatic 27, 3) := by decide +kernel
theorem d_Ref_first_49 : decode b_Ref_first 49 = .ok (.ireturn, 1) := by decide +kernel
theorem d_Ref_first_50 : decode b_Ref_first 50 = .ok (.iload_n 0, 1) := by decide +kernel
theorem d_Ref_first_51 : decode b_Ref_first 51 = .ok (.tableswitch 119 167 191 #[113, 115, 115, 117, 117, 119, 119, 115, 115, 117, 117, 119, 119, 113, 113, 117, 119, 119, 113, 113, 115, 115, 117, 119, 113], 113) := by decide +kernel
theorem d_Ref_first_164 : decode b_Ref_first 164 = .ok (.iconst 1, 1) := by decide +kernel
theorem d_Ref_first_165 : decode b_Ref_first 165 = .ok (.ireturn, 1) := by decide +kernel
theorem d_Ref_first_166 : decode b_Ref_first 166 = .ok (.iconst 2, 1) := by decide +kernel
theorem d_Ref_first_167 : decode b_Ref_first 167 = .ok (.ireturn, 1) := by decide +kernel
theorem d_Ref_first_168 : decode b_Ref_first 168 = .ok (.iconst 3, 1) := by decide +kernel
theorem d_Ref_first_169 : decode b_Ref_first 169 = .ok (.ireturn, 1) := by decide +kernel
theorem d_Ref_first_170 : decode b_Ref_first 170 = .ok (.iconst 0, 1) := by decide +kernel
theorem d_Ref_first_171 : decode b_Ref_first 171 = .ok (.ireturn, 1) := by decide +kernel
abbrev b_Ref_second : ByteArray := prog_11_method_7_code
def y_Ref_second : MethodName := ⟨"BitArithmeticModel", "second", "(I)I"⟩
theorem d_Ref_second_0 : decode b_Ref_second 0 = .ok (.iload_n 0, 1) := by decide +kernel
theorem d_Ref_second_1 : decode b_Ref_second 1 = .ok (.bipush 70, 2) := by decide +kernel
theorem d_Ref_second_3 : decode b_Ref_second 3 = .ok (.bipush 79, 2) := by decide +kernel
theorem d_Ref_second_5 : decode b_Ref_second 5 = .ok (.invokestatic 31, 3) := by decide +kernel
theorem d_Ref_second_8 : decode b_Ref_second 8 = .ok (.ifCond .ne 63, 3) := by decide +kernel
theorem d_Ref_second_11 : decode b_Ref_second 11 = .ok (.iload_n 0, 1) := by decide +kernel
theorem d_Ref_second_12 : decode b_Ref_second 12 = .ok (.bipush 81, 2) := by decide +kernel
theorem d_Ref_second_14 : decode b_Ref_second 14 = .ok (.bipush 102, 2) := by decide +kernel
theorem d_Ref_second_16 : decode b_Ref_second 16 = .ok (.invokestatic 31, 3) := by decide +kernel
theorem d_Ref_second_19 : decode b_Ref_second 19 = .ok (.ifCond .ne 52, 3) := by decide +kernel
theorem d_Ref_second_22 : decode b_Ref_second 22 = .ok (.iload_n 0, 1) := by decide +kernel
theorem d_Ref_second_23 : decode b_Ref_second 23 = .ok (.bipush 106, 2) := by decide +kernel
theorem d_Ref_second_25 : decode b_Ref_second 25 = .ok (.bipush 120, 2) := by decide +kernel
theorem d_Ref_second_27 : decode b_Ref_second 27 = .ok (.invokestatic 31, 3) := by decide +kernel
theorem d_Ref_second_30 : decode b_Ref_second 30 = .ok (.ifCond .ne 41, 3) := by decide +kernel
theorem d_Ref_second_33 : decode b_Ref_second 33 = .ok (.iload_n 0, 1) := by decide +kernel
theorem d_Ref_second_34 : decode b_Ref_second 34 = .ok (.bipush 124, 2) := by decide +kernel
theorem d_Ref_second_36 : decode b_Ref_second 36 = .ok (.sipush 138, 3) := by decide +kernel
theorem d_Ref_second_39 : decode b_Ref_second 39 = .ok (.invokestatic 31, 3) := by decide +kernel
theorem d_Ref_second_42 : decode b_Ref_second 42 = .ok (.ifCond .ne 29, 3) := by decide +kernel
theorem d_Ref_second_45 : decode b_Ref_second 45 = .ok (.iload_n 0, 1) := by decide +kernel
theorem d_Ref_second_46 : decode b_Ref_second 46 = .ok (.sipush 146, 3) := by decide +kernel
theorem d_Ref_second_49 : decode b_Ref_second 49 = .ok (.sipush 152, 3) := by decide +kernel
theorem d_Ref_second_52 : decode b_Ref_second 52 = .ok (.invokestatic 31, 3) := by decide +kernel
theorem d_Ref_second_55 : decode b_Ref_second 55 = .ok (.ifCond .ne 16, 3) := by decide +kernel
theorem d_Ref_second_58 : decode b_Ref_second 58 = .ok (.iload_n 0, 1) := by decide +kernel
theorem d_Ref_second_59 : decode b_Ref_second 59 = .ok (.sipush 160, 3) := by decide +kernel
theorem d_Ref_second_62 : decode b_Ref_second 62 = .ok (.sipush 166, 3) := by decide +kernel
theorem d_Ref_second_65 : decode b_Ref_second 65 = .ok (.invokestatic 31, 3) := by decide +kernel
theorem d_Ref_second_68 : decode b_Ref_second 68 = .ok (.ifCond .eq 7, 3) := by decide +kernel
theorem d_Ref_second_71 : decode b_Ref_second 71 = .ok (.iconst 1, 1) := by decide +kernel
theorem d_Ref_second_72 : decode b_Ref_second 72 = .ok (.goto 4, 3) := by decide +kernel
theorem d_Ref_second_75 : decode b_Ref_second 75 = .ok (.iconst 0, 1) := by decide +kernel
theorem d_Ref_second_76 : decode b_Ref_second 76 = .ok (.istore_n 1, 1) := by decide +kernel
theorem d_Ref_second_77 : decode b_Ref_second 77 = .ok (.iload_n 1, 1) := by decide +kernel
theorem d_Ref_second_78 : decode b_Ref_second 78 = .ok (.ifCond .eq 10, 3) := by decide +kernel
theorem d_Ref_second_81 : decode b_Ref_second 81 = .ok (.iload_n 0, 1) := by decide +kernel
theorem d_Ref_second_82 : decode b_Ref_second 82 = .ok (.invokestatic 35, 3) := by decide +kernel
theorem d_Ref_second_85 : decode b_Ref_second 85 = .ok (.goto 4, 3) := by decide +kernel
theorem d_Ref_second_88 : decode b_Ref_second 88 = .ok (.iconst (-1), 1) := by decide +kernel
theorem d_Ref_second_89 : decode b_Ref_second 89 = .ok (.ireturn, 1) := by decide +kernel
abbrev b_Ref_run : ByteArray := prog_11_method_49_code
def y_Ref_run : MethodName := ⟨"BitArithmeticModel", "run", "(IJJ)J"⟩
theorem d_Ref_run_0 : decode b_Ref_run 0 = .ok (.aload_n 0, 1) := by decide +kernel
theorem d_Ref_run_1 : decode b_Ref_run 1 = .ok (.iload_n 1, 1) := by decide +kernel
theorem d_Ref_run_2 : decode b_Ref_run 2 = .ok (.bipush 69, 2) := by decide +kernel
theorem d_Ref_run_4 : decode b_Ref_run 4 = .ok (.sipush 191, 3) := by decide +kernel
theorem d_Ref_run_7 : decode b_Ref_run 7 = .ok (.invokestatic 31, 3) := by decide +kernel
theorem d_Ref_run_10 : decode b_Ref_run 10 = .ok (.ifCond .eq 7, 3) := by decide +kernel
theorem d_Ref_run_13 : decode b_Ref_run 13 = .ok (.iconst 0, 1) := by decide +kernel
theorem d_Ref_run_14 : decode b_Ref_run 14 = .ok (.goto 4, 3) := by decide +kernel
theorem d_Ref_run_17 : decode b_Ref_run 17 = .ok (.iconst 1, 1) := by decide +kernel
theorem d_Ref_run_18 : decode b_Ref_run 18 = .ok (.putfield 20, 3) := by decide +kernel
theorem d_Ref_run_21 : decode b_Ref_run 21 = .ok (.aload_n 0, 1) := by decide +kernel
theorem d_Ref_run_22 : decode b_Ref_run 22 = .ok (.getfield 20, 3) := by decide +kernel
theorem d_Ref_run_25 : decode b_Ref_run 25 = .ok (.ifCond .le 5, 3) := by decide +kernel
theorem d_Ref_run_28 : decode b_Ref_run 28 = .ok (.lconst 0, 1) := by decide +kernel
theorem d_Ref_run_29 : decode b_Ref_run 29 = .ok (.lreturn, 1) := by decide +kernel
theorem d_Ref_run_30 : decode b_Ref_run 30 = .ok (.iload_n 1, 1) := by decide +kernel
theorem d_Ref_run_31 : decode b_Ref_run 31 = .ok (.invokestatic 35, 3) := by decide +kernel
theorem d_Ref_run_34 : decode b_Ref_run 34 = .ok (.iconst 2, 1) := by decide +kernel
theorem d_Ref_run_35 : decode b_Ref_run 35 = .ok (.irem, 1) := by decide +kernel
theorem d_Ref_run_36 : decode b_Ref_run 36 = .ok (.ifCond .ne 11, 3) := by decide +kernel
theorem d_Ref_run_39 : decode b_Ref_run 39 = .ok (.lload_n 2, 1) := by decide +kernel
theorem d_Ref_run_40 : decode b_Ref_run 40 = .ok (.ldc2_w 172, 3) := by decide +kernel
theorem d_Ref_run_43 : decode b_Ref_run 43 = .ok (.land, 1) := by decide +kernel
theorem d_Ref_run_44 : decode b_Ref_run 44 = .ok (.goto 4, 3) := by decide +kernel
theorem d_Ref_run_47 : decode b_Ref_run 47 = .ok (.lload_n 2, 1) := by decide +kernel
theorem d_Ref_run_48 : decode b_Ref_run 48 = .ok (.lstore 6, 2) := by decide +kernel
theorem d_Ref_run_50 : decode b_Ref_run 50 = .ok (.iload_n 1, 1) := by decide +kernel
theorem d_Ref_run_51 : decode b_Ref_run 51 = .ok (.invokestatic 35, 3) := by decide +kernel
theorem d_Ref_run_54 : decode b_Ref_run 54 = .ok (.iconst 2, 1) := by decide +kernel
theorem d_Ref_run_55 : decode b_Ref_run 55 = .ok (.irem, 1) := by decide +kernel
theorem d_Ref_run_56 : decode b_Ref_run 56 = .ok (.ifCond .ne 12, 3) := by decide +kernel
theorem d_Ref_run_59 : decode b_Ref_run 59 = .ok (.lload 4, 2) := by decide +kernel
theorem d_Ref_run_61 : decode b_Ref_run 61 = .ok (.ldc2_w 172, 3) := by decide +kernel
theorem d_Ref_run_64 : decode b_Ref_run 64 = .ok (.land, 1) := by decide +kernel
theorem d_Ref_run_65 : decode b_Ref_run 65 = .ok (.goto 5, 3) := by decide +kernel
theorem d_Ref_run_68 : decode b_Ref_run 68 = .ok (.lload 4, 2) := by decide +kernel
theorem d_Ref_run_70 : decode b_Ref_run 70 = .ok (.lstore 8, 2) := by decide +kernel
theorem d_Ref_run_72 : decode b_Ref_run 72 = .ok (.aload_n 0, 1) := by decide +kernel
theorem d_Ref_run_73 : decode b_Ref_run 73 = .ok (.iload_n 1, 1) := by decide +kernel
theorem d_Ref_run_74 : decode b_Ref_run 74 = .ok (.lload 6, 2) := by decide +kernel
theorem d_Ref_run_76 : decode b_Ref_run 76 = .ok (.lload 8, 2) := by decide +kernel
theorem d_Ref_run_78 : decode b_Ref_run 78 = .ok (.invokevirtual 222, 3) := by decide +kernel
theorem d_Ref_run_81 : decode b_Ref_run 81 = .ok (.lstore 10, 2) := by decide +kernel
theorem d_Ref_run_83 : decode b_Ref_run 83 = .ok (.aload_n 0, 1) := by decide +kernel
theorem d_Ref_run_84 : decode b_Ref_run 84 = .ok (.getfield 20, 3) := by decide +kernel
theorem d_Ref_run_87 : decode b_Ref_run 87 = .ok (.ifCond .le 5, 3) := by decide +kernel
theorem d_Ref_run_90 : decode b_Ref_run 90 = .ok (.lconst 0, 1) := by decide +kernel
theorem d_Ref_run_91 : decode b_Ref_run 91 = .ok (.lreturn, 1) := by decide +kernel
theorem d_Ref_run_92 : decode b_Ref_run 92 = .ok (.aload_n 0, 1) := by decide +kernel
theorem d_Ref_run_93 : decode b_Ref_run 93 = .ok (.iload_n 1, 1) := by decide +kernel
theorem d_Ref_run_94 : decode b_Ref_run 94 = .ok (.invokestatic 27, 3) := by decide +kernel
theorem d_Ref_run_97 : decode b_Ref_run 97 = .ok (.iconst 2, 1) := by decide +kernel
theorem d_Ref_run_98 : decode b_Ref_run 98 = .ok (.irem, 1) := by decide +kernel
theorem d_Ref_run_99 : decode b_Ref_run 99 = .ok (.ifCond .ne 12, 3) := by decide +kernel
theorem d_Ref_run_102 : decode b_Ref_run 102 = .ok (.lload 10, 2) := by decide +kernel
theorem d_Ref_run_104 : decode b_Ref_run 104 = .ok (.ldc2_w 172, 3) := by decide +kernel
theorem d_Ref_run_107 : decode b_Ref_run 107 = .ok (.land, 1) := by decide +kernel
theorem d_Ref_run_108 : decode b_Ref_run 108 = .ok (.goto 5, 3) := by decide +kernel
theorem d_Ref_run_111 : decode b_Ref_run 111 = .ok (.lload 10, 2) := by decide +kernel
theorem d_Ref_run_113 : decode b_Ref_run 113 = .ok (.putfield 23, 3) := by decide +kernel
theorem d_Ref_run_116 : decode b_Ref_run 116 = .ok (.aload_n 0, 1) := by decide +kernel
theorem d_Ref_run_117 : decode b_Ref_run 117 = .ok (.getfield 23, 3) := by decide +kernel
theorem d_Ref_run_120 : decode b_Ref_run 120 = .ok (.lreturn, 1) := by decide +kernel
abbrev b_Ref_answer : ByteArray := prog_11_method_48_code
def y_Ref_answer : MethodName := ⟨"BitArithmeticModel", "answer", "(IJJ)J"⟩
theorem d_Ref_answer_0 : decode b_Ref_answer 0 = .ok (.iload_n 1, 1) := by decide +kernel
theorem d_Ref_answer_1 : decode b_Ref_answer 1 = .ok (.sipush 167, 3) := by decide +kernel
theorem d_Ref_answer_4 : decode b_Ref_answer 4 = .ok (.if_icmp .lt 10, 3) := by decide +kernel
theorem d_Ref_answer_7 : decode b_Ref_answer 7 = .ok (.aload_n 0, 1) := by decide +kernel
theorem d_Ref_answer_8 : decode b_Ref_answer 8 = .ok (.iload_n 1, 1) := by decide +kernel
theorem d_Ref_answer_9 : decode b_Ref_answer 9 = .ok (.lload_n 2, 1) := by decide +kernel
theorem d_Ref_answer_10 : decode b_Ref_answer 10 = .ok (.invokevirtual 204, 3) := by decide +kernel
theorem d_Ref_answer_13 : decode b_Ref_answer 13 = .ok (.lreturn, 1) := by decide +kernel
theorem d_Ref_answer_14 : decode b_Ref_answer 14 = .ok (.iload_n 1, 1) := by decide +kernel
theorem d_Ref_answer_15 : decode b_Ref_answer 15 = .ok (.sipush 139, 3) := by decide +kernel
theorem d_Ref_answer_18 : decode b_Ref_answer 18 = .ok (.if_icmp .lt 47, 3) := by decide +kernel
theorem d_Ref_answer_21 : decode b_Ref_answer 21 = .ok (.aload_n 0, 1) := by decide +kernel
theorem d_Ref_answer_22 : decode b_Ref_answer 22 = .ok (.iload_n 1, 1) := by decide +kernel
theorem d_Ref_answer_23 : decode b_Ref_answer 23 = .ok (.sipush 153, 3) := by decide +kernel
theorem d_Ref_answer_26 : decode b_Ref_answer 26 = .ok (.if_icmp .ge 8, 3) := by decide +kernel
theorem d_Ref_answer_29 : decode b_Ref_answer 29 = .ok (.bipush 32, 2) := by decide +kernel
theorem d_Ref_answer_31 : decode b_Ref_answer 31 = .ok (.goto 5, 3) := by decide +kernel
theorem d_Ref_answer_34 : decode b_Ref_answer 34 = .ok (.bipush 64, 2) := by decide +kernel
theorem d_Ref_answer_36 : decode b_Ref_answer 36 = .ok (.invokevirtual 190, 3) := by decide +kernel
theorem d_Ref_answer_39 : decode b_Ref_answer 39 = .ok (.aload_n 0, 1) := by decide +kernel
theorem d_Ref_answer_40 : decode b_Ref_answer 40 = .ok (.iload_n 1, 1) := by decide +kernel
theorem d_Ref_answer_41 : decode b_Ref_answer 41 = .ok (.iload_n 1, 1) := by decide +kernel
theorem d_Ref_answer_42 : decode b_Ref_answer 42 = .ok (.sipush 153, 3) := by decide +kernel
theorem d_Ref_answer_45 : decode b_Ref_answer 45 = .ok (.if_icmp .ge 9, 3) := by decide +kernel
theorem d_Ref_answer_48 : decode b_Ref_answer 48 = .ok (.sipush 139, 3) := by decide +kernel
theorem d_Ref_answer_51 : decode b_Ref_answer 51 = .ok (.goto 6, 3) := by decide +kernel
theorem d_Ref_answer_54 : decode b_Ref_answer 54 = .ok (.sipush 153, 3) := by decide +kernel
theorem d_Ref_answer_57 : decode b_Ref_answer 57 = .ok (.isub, 1) := by decide +kernel
theorem d_Ref_answer_58 : decode b_Ref_answer 58 = .ok (.lload_n 2, 1) := by decide +kernel
theorem d_Ref_answer_59 : decode b_Ref_answer 59 = .ok (.lload 4, 2) := by decide +kernel
theorem d_Ref_answer_61 : decode b_Ref_answer 61 = .ok (.invokevirtual 207, 3) := by decide +kernel
theorem d_Ref_answer_64 : decode b_Ref_answer 64 = .ok (.lreturn, 1) := by decide +kernel
theorem d_Ref_answer_65 : decode b_Ref_answer 65 = .ok (.iload_n 1, 1) := by decide +kernel
theorem d_Ref_answer_66 : decode b_Ref_answer 66 = .ok (.bipush 103, 2) := by decide +kernel
theorem d_Ref_answer_68 : decode b_Ref_answer 68 = .ok (.if_icmp .lt 39, 3) := by decide +kernel
theorem d_Ref_answer_71 : decode b_Ref_answer 71 = .ok (.iload_n 1, 1) := by decide +kernel
theorem d_Ref_answer_72 : decode b_Ref_answer 72 = .ok (.bipush 121, 2) := by decide +kernel
theorem d_Ref_answer_74 : decode b_Ref_answer 74 = .ok (.if_icmp .ge 19, 3) := by decide +kernel
theorem d_Ref_answer_77 : decode b_Ref_answer 77 = .ok (.aload_n 0, 1) := by decide +kernel
theorem d_Ref_answer_78 : decode b_Ref_answer 78 = .ok (.iload_n 1, 1) := by decide +kernel
theorem d_Ref_answer_79 : decode b_Ref_answer 79 = .ok (.bipush 103, 2) := by decide +kernel
theorem d_Ref_answer_81 : decode b_Ref_answer 81 = .ok (.isub, 1) := by decide +kernel
theorem d_Ref_answer_82 : decode b_Ref_answer 82 = .ok (.bipush 32, 2) := by decide +kernel
theorem d_Ref_answer_84 : decode b_Ref_answer 84 = .ok (.lload_n 2, 1) := by decide +kernel
theorem d_Ref_answer_85 : decode b_Ref_answer 85 = .ok (.lload 4, 2) := by decide +kernel
theorem d_Ref_answer_87 : decode b_Ref_answer 87 = .ok (.invokevirtual 211, 3) := by decide +kernel
theorem d_Ref_answer_90 : decode b_Ref_answer 90 = .ok (.goto 16, 3) := by decide +kernel
theorem d_Ref_answer_93 : decode b_Ref_answer 93 = .ok (.aload_n 0, 1) := by decide +kernel
theorem d_Ref_answer_94 : decode b_Ref_answer 94 = .ok (.iload_n 1, 1) := by decide +kernel
theorem d_Ref_answer_95 : decode b_Ref_answer 95 = .ok (.bipush 121, 2) := by decide +kernel
theorem d_Ref_answer_97 : decode b_Ref_answer 97 = .ok (.isub, 1) := by decide +kernel
theorem d_Ref_answer_98 : decode b_Ref_answer 98 = .ok (.bipush 64, 2) := by decide +kernel
theorem d_Ref_answer_100 : decode b_Ref_answer 100 = .ok (.lload_n 2, 1) := by decide +kernel
theorem d_Ref_answer_101 : decode b_Ref_answer 101 = .ok (.lload 4, 2) := by decide +kernel
theorem d_Ref_answer_103 : decode b_Ref_answer 103 = .ok (.invokevirtual 211, 3) := by decide +kernel
theorem d_Ref_answer_106 : decode b_Ref_answer 106 = .ok (.lreturn, 1) := by decide +kernel
theorem d_Ref_answer_107 : decode b_Ref_answer 107 = .ok (.iload_n 1, 1) := by decide +kernel
theorem d_Ref_answer_108 : decode b_Ref_answer 108 = .ok (.bipush 91, 2) := by decide +kernel
theorem d_Ref_answer_110 : decode b_Ref_answer 110 = .ok (.if_icmp .lt 51, 3) := by decide +kernel
theorem d_Ref_answer_113 : decode b_Ref_answer 113 = .ok (.aload_n 0, 1) := by decide +kernel
theorem d_Ref_answer_114 : decode b_Ref_answer 114 = .ok (.iload_n 1, 1) := by decide +kernel
theorem d_Ref_answer_115 : decode b_Ref_answer 115 = .ok (.bipush 97, 2) := by decide +kernel
theorem d_Ref_answer_117 : decode b_Ref_answer 117 = .ok (.if_icmp .ge 8, 3) := by decide +kernel
theorem d_Ref_answer_120 : decode b_Ref_answer 120 = .ok (.bipush 32, 2) := by decide +kernel
theorem d_Ref_answer_122 : decode b_Ref_answer 122 = .ok (.goto 5, 3) := by decide +kernel
theorem d_Ref_answer_125 : decode b_Ref_answer 125 = .ok (.bipush 64, 2) := by decide +kernel
theorem d_Ref_answer_127 : decode b_Ref_answer 127 = .ok (.invokevirtual 190, 3) := by decide +kernel
theorem d_Ref_answer_130 : decode b_Ref_answer 130 = .ok (.aload_n 0, 1) := by decide +kernel
theorem d_Ref_answer_131 : decode b_Ref_answer 131 = .ok (.iload_n 1, 1) := by decide +kernel
theorem d_Ref_answer_132 : decode b_Ref_answer 132 = .ok (.iload_n 1, 1) := by decide +kernel
theorem d_Ref_answer_133 : decode b_Ref_answer 133 = .ok (.bipush 97, 2) := by decide +kernel
theorem d_Ref_answer_135 : decode b_Ref_answer 135 = .ok (.if_icmp .ge 8, 3) := by decide +kernel
theorem d_Ref_answer_138 : decode b_Ref_answer 138 = .ok (.bipush 91, 2) := by decide +kernel
theorem d_Ref_answer_140 : decode b_Ref_answer 140 = .ok (.goto 5, 3) := by decide +kernel
theorem d_Ref_answer_143 : decode b_Ref_answer 143 = .ok (.bipush 97, 2) := by decide +kernel
theorem d_Ref_answer_145 : decode b_Ref_answer 145 = .ok (.isub, 1) := by decide +kernel
theorem d_Ref_answer_146 : decode b_Ref_answer 146 = .ok (.lload_n 2, 1) := by decide +kernel
theorem d_Ref_answer_147 : decode b_Ref_answer 147 = .ok (.lload 4, 2) := by decide +kernel
theorem d_Ref_answer_149 : decode b_Ref_answer 149 = .ok (.invokevirtual 214, 3) := by decide +kernel
theorem d_Ref_answer_152 : decode b_Ref_answer 152 = .ok (.ifCond .eq 7, 3) := by decide +kernel
theorem d_Ref_answer_155 : decode b_Ref_answer 155 = .ok (.lconst 1, 1) := by decide +kernel
theorem d_Ref_answer_156 : decode b_Ref_answer 156 = .ok (.goto 4, 3) := by decide +kernel
theorem d_Ref_answer_159 : decode b_Ref_answer 159 = .ok (.lconst 0, 1) := by decide +kernel
theorem d_Ref_answer_160 : decode b_Ref_answer 160 = .ok (.lreturn, 1) := by decide +kernel
theorem d_Ref_answer_161 : decode b_Ref_answer 161 = .ok (.iload_n 1, 1) := by decide +kernel
theorem d_Ref_answer_162 : decode b_Ref_answer 162 = .ok (.bipush 69, 2) := by decide +kernel
theorem d_Ref_answer_164 : decode b_Ref_answer 164 = .ok (.if_icmp .eq 9, 3) := by decide +kernel
theorem d_Ref_answer_167 : decode b_Ref_answer 167 = .ok (.iload_n 1, 1) := by decide +kernel
theorem d_Ref_answer_168 : decode b_Ref_answer 168 = .ok (.bipush 80, 2) := by decide +kernel
theorem d_Ref_answer_170 : decode b_Ref_answer 170 = .ok (.if_icmp .ne 15, 3) := by decide +kernel
theorem d_Ref_answer_173 : decode b_Ref_answer 173 = .ok (.lload_n 2, 1) := by decide +kernel
theorem d_Ref_answer_174 : decode b_Ref_answer 174 = .ok (.lconst 0, 1) := by decide +kernel
theorem d_Ref_answer_175 : decode b_Ref_answer 175 = .ok (.lcmp, 1) := by decide +kernel
theorem d_Ref_answer_176 : decode b_Ref_answer 176 = .ok (.ifCond .ne 7, 3) := by decide +kernel
theorem d_Ref_answer_179 : decode b_Ref_answer 179 = .ok (.lconst 1, 1) := by decide +kernel
theorem d_Ref_answer_180 : decode b_Ref_answer 180 = .ok (.goto 4, 3) := by decide +kernel
theorem d_Ref_answer_183 : decode b_Ref_answer 183 = .ok (.lconst 0, 1) := by decide +kernel
theorem d_Ref_answer_184 : decode b_Ref_answer 184 = .ok (.lreturn, 1) := by decide +kernel
theorem d_Ref_answer_185 : decode b_Ref_answer 185 = .ok (.iload_n 1, 1) := by decide +kernel
theorem d_Ref_answer_186 : decode b_Ref_answer 186 = .ok (.iload_n 1, 1) := by decide +kernel
theorem d_Ref_answer_187 : decode b_Ref_answer 187 = .ok (.bipush 80, 2) := by decide +kernel
theorem d_Ref_answer_189 : decode b_Ref_answer 189 = .ok (.if_icmp .ge 8, 3) := by decide +kernel
theorem d_Ref_answer_192 : decode b_Ref_answer 192 = .ok (.bipush 70, 2) := by decide +kernel
theorem d_Ref_answer_194 : decode b_Ref_answer 194 = .ok (.goto 5, 3) := by decide +kernel
theorem d_Ref_answer_197 : decode b_Ref_answer 197 = .ok (.bipush 81, 2) := by decide +kernel
theorem d_Ref_answer_199 : decode b_Ref_answer 199 = .ok (.isub, 1) := by decide +kernel
theorem d_Ref_answer_200 : decode b_Ref_answer 200 = .ok (.iload_n 1, 1) := by decide +kernel
theorem d_Ref_answer_201 : decode b_Ref_answer 201 = .ok (.bipush 80, 2) := by decide +kernel
theorem d_Ref_answer_203 : decode b_Ref_answer 203 = .ok (.if_icmp .ge 8, 3) := by decide +kernel
theorem d_Ref_answer_206 : decode b_Ref_answer 206 = .ok (.bipush 32, 2) := by decide +kernel
theorem d_Ref_answer_208 : decode b_Ref_answer 208 = .ok (.goto 5, 3) := by decide +kernel
theorem d_Ref_answer_211 : decode b_Ref_answer 211 = .ok (.bipush 64, 2) := by decide +kernel
theorem d_Ref_answer_213 : decode b_Ref_answer 213 = .ok (.lload_n 2, 1) := by decide +kernel
theorem d_Ref_answer_214 : decode b_Ref_answer 214 = .ok (.lload 4, 2) := by decide +kernel
theorem d_Ref_answer_216 : decode b_Ref_answer 216 = .ok (.invokestatic 218, 3) := by decide +kernel
theorem d_Ref_answer_219 : decode b_Ref_answer 219 = .ok (.ifCond .eq 7, 3) := by decide +kernel
theorem d_Ref_answer_222 : decode b_Ref_answer 222 = .ok (.lconst 1, 1) := by decide +kernel
theorem d_Ref_answer_223 : decode b_Ref_answer 223 = .ok (.goto 4, 3) := by decide +kernel
theorem d_Ref_answer_226 : decode b_Ref_answer 226 = .ok (.lconst 0, 1) := by decide +kernel
theorem d_Ref_answer_227 : decode b_Ref_answer 227 = .ok (.lreturn, 1) := by decide +kernel
abbrev b_Ref_turnedInto : ByteArray := prog_11_method_47_code
def y_Ref_turnedInto : MethodName := ⟨"BitArithmeticModel", "turnedInto", "(IJ)J"⟩
theorem d_Ref_turnedInto_0 : decode b_Ref_turnedInto 0 = .ok (.iload_n 1, 1) := by decide +kernel
theorem d_Ref_turnedInto_1 : decode b_Ref_turnedInto 1 = .ok (.iconst 2, 1) := by decide +kernel
theorem d_Ref_turnedInto_2 : decode b_Ref_turnedInto 2 = .ok (.irem, 1) := by decide +kernel
theorem d_Ref_turnedInto_3 : decode b_Ref_turnedInto 3 = .ok (.ifCond .ne 7, 3) := by decide +kernel
theorem d_Ref_turnedInto_6 : decode b_Ref_turnedInto 6 = .ok (.iconst 1, 1) := by decide +kernel
theorem d_Ref_turnedInto_7 : decode b_Ref_turnedInto 7 = .ok (.goto 4, 3) := by decide +kernel
theorem d_Ref_turnedInto_10 : decode b_Ref_turnedInto 10 = .ok (.iconst 0, 1) := by decide +kernel
theorem d_Ref_turnedInto_11 : decode b_Ref_turnedInto 11 = .ok (.istore 4, 2) := by decide +kernel
theorem d_Ref_turnedInto_13 : decode b_Ref_turnedInto 13 = .ok (.iload_n 1, 1) := by decide +kernel
theorem d_Ref_turnedInto_14 : decode b_Ref_turnedInto 14 = .ok (.sipush 168, 3) := by decide +kernel
theorem d_Ref_turnedInto_17 : decode b_Ref_turnedInto 17 = .ok (.if_icmp .lt 10, 3) := by decide +kernel
theorem d_Ref_turnedInto_20 : decode b_Ref_turnedInto 20 = .ok (.iload_n 1, 1) := by decide +kernel
theorem d_Ref_turnedInto_21 : decode b_Ref_turnedInto 21 = .ok (.sipush 171, 3) := by decide +kernel
theorem d_Ref_turnedInto_24 : decode b_Ref_turnedInto 24 = .ok (.if_icmp .le 17, 3) := by decide +kernel
theorem d_Ref_turnedInto_27 : decode b_Ref_turnedInto 27 = .ok (.iload_n 1, 1) := by decide +kernel
theorem d_Ref_turnedInto_28 : decode b_Ref_turnedInto 28 = .ok (.sipush 174, 3) := by decide +kernel
theorem d_Ref_turnedInto_31 : decode b_Ref_turnedInto 31 = .ok (.if_icmp .lt 51, 3) := by decide +kernel
theorem d_Ref_turnedInto_34 : decode b_Ref_turnedInto 34 = .ok (.iload_n 1, 1) := by decide +kernel
theorem d_Ref_turnedInto_35 : decode b_Ref_turnedInto 35 = .ok (.sipush 177, 3) := by decide +kernel
theorem d_Ref_turnedInto_38 : decode b_Ref_turnedInto 38 = .ok (.if_icmp .gt 44, 3) := by decide +kernel
theorem d_Ref_turnedInto_41 : decode b_Ref_turnedInto 41 = .ok (.aload_n 0, 1) := by decide +kernel
theorem d_Ref_turnedInto_42 : decode b_Ref_turnedInto 42 = .ok (.iload_n 1, 1) := by decide +kernel
theorem d_Ref_turnedInto_43 : decode b_Ref_turnedInto 43 = .ok (.invokestatic 35, 3) := by decide +kernel
theorem d_Ref_turnedInto_46 : decode b_Ref_turnedInto 46 = .ok (.iconst 2, 1) := by decide +kernel
theorem d_Ref_turnedInto_47 : decode b_Ref_turnedInto 47 = .ok (.if_icmp .ne 8, 3) := by decide +kernel
theorem d_Ref_turnedInto_50 : decode b_Ref_turnedInto 50 = .ok (.bipush 32, 2) := by decide +kernel
theorem d_Ref_turnedInto_52 : decode b_Ref_turnedInto 52 = .ok (.goto 5, 3) := by decide +kernel
theorem d_Ref_turnedInto_55 : decode b_Ref_turnedInto 55 = .ok (.bipush 64, 2) := by decide +kernel
theorem d_Ref_turnedInto_57 : decode b_Ref_turnedInto 57 = .ok (.invokevirtual 190, 3) := by decide +kernel
theorem d_Ref_turnedInto_60 : decode b_Ref_turnedInto 60 = .ok (.aload_n 0, 1) := by decide +kernel
theorem d_Ref_turnedInto_61 : decode b_Ref_turnedInto 61 = .ok (.lload_n 2, 1) := by decide +kernel
theorem d_Ref_turnedInto_62 : decode b_Ref_turnedInto 62 = .ok (.iload_n 1, 1) := by decide +kernel
theorem d_Ref_turnedInto_63 : decode b_Ref_turnedInto 63 = .ok (.sipush 172, 3) := by decide +kernel
theorem d_Ref_turnedInto_66 : decode b_Ref_turnedInto 66 = .ok (.if_icmp .ge 8, 3) := by decide +kernel
theorem d_Ref_turnedInto_69 : decode b_Ref_turnedInto 69 = .ok (.bipush 32, 2) := by decide +kernel
theorem d_Ref_turnedInto_71 : decode b_Ref_turnedInto 71 = .ok (.goto 5, 3) := by decide +kernel
theorem d_Ref_turnedInto_74 : decode b_Ref_turnedInto 74 = .ok (.bipush 64, 2) := by decide +kernel
theorem d_Ref_turnedInto_76 : decode b_Ref_turnedInto 76 = .ok (.iload 4, 2) := by decide +kernel
theorem d_Ref_turnedInto_78 : decode b_Ref_turnedInto 78 = .ok (.invokevirtual 194, 3) := by decide +kernel
theorem d_Ref_turnedInto_81 : decode b_Ref_turnedInto 81 = .ok (.lreturn, 1) := by decide +kernel
theorem d_Ref_turnedInto_82 : decode b_Ref_turnedInto 82 = .ok (.iload_n 1, 1) := by decide +kernel
theorem d_Ref_turnedInto_83 : decode b_Ref_turnedInto 83 = .ok (.tableswitch 204 172 187 #[77, 77, 204, 204, 204, 204, 93, 93, 93, 93, 166, 128, 128, 128, 128, 166], 77) := by decide +kernel
theorem d_Ref_turnedInto_160 : decode b_Ref_turnedInto 160 = .ok (.iload 4, 2) := by decide +kernel
theorem d_Ref_turnedInto_162 : decode b_Ref_turnedInto 162 = .ok (.ifCond .eq 12, 3) := by decide +kernel
theorem d_Ref_turnedInto_165 : decode b_Ref_turnedInto 165 = .ok (.lload_n 2, 1) := by decide +kernel
theorem d_Ref_turnedInto_166 : decode b_Ref_turnedInto 166 = .ok (.bipush 32, 2) := by decide +kernel
theorem d_Ref_turnedInto_168 : decode b_Ref_turnedInto 168 = .ok (.invokestatic 168, 3) := by decide +kernel
theorem d_Ref_turnedInto_171 : decode b_Ref_turnedInto 171 = .ok (.goto 4, 3) := by decide +kernel
theorem d_Ref_turnedInto_174 : decode b_Ref_turnedInto 174 = .ok (.lload_n 2, 1) := by decide +kernel
theorem d_Ref_turnedInto_175 : decode b_Ref_turnedInto 175 = .ok (.lreturn, 1) := by decide +kernel
theorem d_Ref_turnedInto_176 : decode b_Ref_turnedInto 176 = .ok (.aload_n 0, 1) := by decide +kernel
theorem d_Ref_turnedInto_177 : decode b_Ref_turnedInto 177 = .ok (.bipush 32, 2) := by decide +kernel
theorem d_Ref_turnedInto_179 : decode b_Ref_turnedInto 179 = .ok (.invokevirtual 190, 3) := by decide +kernel
theorem d_Ref_turnedInto_182 : decode b_Ref_turnedInto 182 = .ok (.aload_n 0, 1) := by decide +kernel
theorem d_Ref_turnedInto_183 : decode b_Ref_turnedInto 183 = .ok (.iload 4, 2) := by decide +kernel
theorem d_Ref_turnedInto_185 : decode b_Ref_turnedInto 185 = .ok (.ifCond .eq 19, 3) := by decide +kernel
theorem d_Ref_turnedInto_188 : decode b_Ref_turnedInto 188 = .ok (.iload_n 1, 1) := by decide +kernel
theorem d_Ref_turnedInto_189 : decode b_Ref_turnedInto 189 = .ok (.sipush 180, 3) := by decide +kernel
theorem d_Ref_turnedInto_192 : decode b_Ref_turnedInto 192 = .ok (.if_icmp .ge 12, 3) := by decide +kernel
theorem d_Ref_turnedInto_195 : decode b_Ref_turnedInto 195 = .ok (.lload_n 2, 1) := by decide +kernel
theorem d_Ref_turnedInto_196 : decode b_Ref_turnedInto 196 = .ok (.bipush 32, 2) := by decide +kernel
theorem d_Ref_turnedInto_198 : decode b_Ref_turnedInto 198 = .ok (.invokestatic 168, 3) := by decide +kernel
theorem d_Ref_turnedInto_201 : decode b_Ref_turnedInto 201 = .ok (.goto 4, 3) := by decide +kernel
theorem d_Ref_turnedInto_204 : decode b_Ref_turnedInto 204 = .ok (.lload_n 2, 1) := by decide +kernel
theorem d_Ref_turnedInto_205 : decode b_Ref_turnedInto 205 = .ok (.iload 4, 2) := by decide +kernel
theorem d_Ref_turnedInto_207 : decode b_Ref_turnedInto 207 = .ok (.invokevirtual 198, 3) := by decide +kernel
theorem d_Ref_turnedInto_210 : decode b_Ref_turnedInto 210 = .ok (.lreturn, 1) := by decide +kernel
theorem d_Ref_turnedInto_211 : decode b_Ref_turnedInto 211 = .ok (.aload_n 0, 1) := by decide +kernel
theorem d_Ref_turnedInto_212 : decode b_Ref_turnedInto 212 = .ok (.bipush 64, 2) := by decide +kernel
theorem d_Ref_turnedInto_214 : decode b_Ref_turnedInto 214 = .ok (.invokevirtual 190, 3) := by decide +kernel
theorem d_Ref_turnedInto_217 : decode b_Ref_turnedInto 217 = .ok (.aload_n 0, 1) := by decide +kernel
theorem d_Ref_turnedInto_218 : decode b_Ref_turnedInto 218 = .ok (.iload_n 1, 1) := by decide +kernel
theorem d_Ref_turnedInto_219 : decode b_Ref_turnedInto 219 = .ok (.sipush 183, 3) := by decide +kernel
theorem d_Ref_turnedInto_222 : decode b_Ref_turnedInto 222 = .ok (.if_icmp .ne 12, 3) := by decide +kernel
theorem d_Ref_turnedInto_225 : decode b_Ref_turnedInto 225 = .ok (.lload_n 2, 1) := by decide +kernel
theorem d_Ref_turnedInto_226 : decode b_Ref_turnedInto 226 = .ok (.bipush 32, 2) := by decide +kernel
theorem d_Ref_turnedInto_228 : decode b_Ref_turnedInto 228 = .ok (.invokestatic 168, 3) := by decide +kernel
theorem d_Ref_turnedInto_231 : decode b_Ref_turnedInto 231 = .ok (.goto 4, 3) := by decide +kernel
theorem d_Ref_turnedInto_234 : decode b_Ref_turnedInto 234 = .ok (.lload_n 2, 1) := by decide +kernel
theorem d_Ref_turnedInto_235 : decode b_Ref_turnedInto 235 = .ok (.iload 4, 2) := by decide +kernel
theorem d_Ref_turnedInto_237 : decode b_Ref_turnedInto 237 = .ok (.ifCond .ne 7, 3) := by decide +kernel
theorem d_Ref_turnedInto_240 : decode b_Ref_turnedInto 240 = .ok (.iconst 1, 1) := by decide +kernel
theorem d_Ref_turnedInto_241 : decode b_Ref_turnedInto 241 = .ok (.goto 4, 3) := by decide +kernel
theorem d_Ref_turnedInto_244 : decode b_Ref_turnedInto 244 = .ok (.iconst 0, 1) := by decide +kernel
theorem d_Ref_turnedInto_245 : decode b_Ref_turnedInto 245 = .ok (.invokevirtual 198, 3) := by decide +kernel
theorem d_Ref_turnedInto_248 : decode b_Ref_turnedInto 248 = .ok (.lreturn, 1) := by decide +kernel
theorem d_Ref_turnedInto_249 : decode b_Ref_turnedInto 249 = .ok (.aload_n 0, 1) := by decide +kernel
theorem d_Ref_turnedInto_250 : decode b_Ref_turnedInto 250 = .ok (.iload_n 1, 1) := by decide +kernel
theorem d_Ref_turnedInto_251 : decode b_Ref_turnedInto 251 = .ok (.sipush 182, 3) := by decide +kernel
theorem d_Ref_turnedInto_254 : decode b_Ref_turnedInto 254 = .ok (.if_icmp .ne 8, 3) := by decide +kernel
theorem d_Ref_turnedInto_257 : decode b_Ref_turnedInto 257 = .ok (.bipush 64, 2) := by decide +kernel
theorem d_Ref_turnedInto_259 : decode b_Ref_turnedInto 259 = .ok (.goto 5, 3) := by decide +kernel
theorem d_Ref_turnedInto_262 : decode b_Ref_turnedInto 262 = .ok (.bipush 32, 2) := by decide +kernel
theorem d_Ref_turnedInto_264 : decode b_Ref_turnedInto 264 = .ok (.invokevirtual 190, 3) := by decide +kernel
theorem d_Ref_turnedInto_267 : decode b_Ref_turnedInto 267 = .ok (.aload_n 0, 1) := by decide +kernel
theorem d_Ref_turnedInto_268 : decode b_Ref_turnedInto 268 = .ok (.lload_n 2, 1) := by decide +kernel
theorem d_Ref_turnedInto_269 : decode b_Ref_turnedInto 269 = .ok (.iload_n 1, 1) := by decide +kernel
theorem d_Ref_turnedInto_270 : decode b_Ref_turnedInto 270 = .ok (.sipush 182, 3) := by decide +kernel
theorem d_Ref_turnedInto_273 : decode b_Ref_turnedInto 273 = .ok (.if_icmp .ne 8, 3) := by decide +kernel
theorem d_Ref_turnedInto_276 : decode b_Ref_turnedInto 276 = .ok (.bipush 32, 2) := by decide +kernel
theorem d_Ref_turnedInto_278 : decode b_Ref_turnedInto 278 = .ok (.goto 5, 3) := by decide +kernel
theorem d_Ref_turnedInto_281 : decode b_Ref_turnedInto 281 = .ok (.bipush 64, 2) := by decide +kernel
theorem d_Ref_turnedInto_283 : decode b_Ref_turnedInto 283 = .ok (.invokevirtual 201, 3) := by decide +kernel
theorem d_Ref_turnedInto_286 : decode b_Ref_turnedInto 286 = .ok (.lreturn, 1) := by decide +kernel
theorem d_Ref_turnedInto_287 : decode b_Ref_turnedInto 287 = .ok (.lload_n 2, 1) := by decide +kernel
theorem d_Ref_turnedInto_288 : decode b_Ref_turnedInto 288 = .ok (.lreturn, 1) := by decide +kernel
abbrev b_Ref_format : ByteArray := prog_11_method_15_code
def y_Ref_format : MethodName := ⟨"BitArithmeticModel", "format", "(I)V"⟩
theorem d_Ref_format_0 : decode b_Ref_format 0 = .ok (.aload_n 0, 1) := by decide +kernel
theorem d_Ref_format_1 : decode b_Ref_format 1 = .ok (.iload_n 1, 1) := by decide +kernel
theorem d_Ref_format_2 : decode b_Ref_format 2 = .ok (.putfield 49, 3) := by decide +kernel
theorem d_Ref_format_5 : decode b_Ref_format 5 = .ok (.aload_n 0, 1) := by decide +kernel
theorem d_Ref_format_6 : decode b_Ref_format 6 = .ok (.iload_n 1, 1) := by decide +kernel
theorem d_Ref_format_7 : decode b_Ref_format 7 = .ok (.bipush 32, 2) := by decide +kernel
theorem d_Ref_format_9 : decode b_Ref_format 9 = .ok (.if_icmp .ne 8, 3) := by decide +kernel
theorem d_Ref_format_12 : decode b_Ref_format 12 = .ok (.bipush 23, 2) := by decide +kernel
theorem d_Ref_format_14 : decode b_Ref_format 14 = .ok (.goto 5, 3) := by decide +kernel
theorem d_Ref_format_17 : decode b_Ref_format 17 = .ok (.bipush 52, 2) := by decide +kernel
theorem d_Ref_format_19 : decode b_Ref_format 19 = .ok (.putfield 52, 3) := by decide +kernel
theorem d_Ref_format_22 : decode b_Ref_format 22 = .ok (.aload_n 0, 1) := by decide +kernel
theorem d_Ref_format_23 : decode b_Ref_format 23 = .ok (.iload_n 1, 1) := by decide +kernel
theorem d_Ref_format_24 : decode b_Ref_format 24 = .ok (.bipush 32, 2) := by decide +kernel
theorem d_Ref_format_26 : decode b_Ref_format 26 = .ok (.if_icmp .ne 8, 3) := by decide +kernel
theorem d_Ref_format_29 : decode b_Ref_format 29 = .ok (.bipush 127, 2) := by decide +kernel
theorem d_Ref_format_31 : decode b_Ref_format 31 = .ok (.goto 6, 3) := by decide +kernel
theorem d_Ref_format_34 : decode b_Ref_format 34 = .ok (.sipush 1023, 3) := by decide +kernel
theorem d_Ref_format_37 : decode b_Ref_format 37 = .ok (.putfield 55, 3) := by decide +kernel
theorem d_Ref_format_40 : decode b_Ref_format 40 = .ok (.return_, 1) := by decide +kernel
abbrev b_Ref_cut : ByteArray := prog_11_method_44_code
def y_Ref_cut : MethodName := ⟨"BitArithmeticModel", "cut", "(JIZ)J"⟩
theorem d_Ref_cut_0 : decode b_Ref_cut 0 = .ok (.aload_n 0, 1) := by decide +kernel
theorem d_Ref_cut_1 : decode b_Ref_cut 1 = .ok (.lload_n 1, 1) := by decide +kernel
theorem d_Ref_cut_2 : decode b_Ref_cut 2 = .ok (.invokevirtual 97, 3) := by decide +kernel
theorem d_Ref_cut_5 : decode b_Ref_cut 5 = .ok (.ifCond .eq 10, 3) := by decide +kernel
theorem d_Ref_cut_8 : decode b_Ref_cut 8 = .ok (.aload_n 0, 1) := by decide +kernel
theorem d_Ref_cut_9 : decode b_Ref_cut 9 = .ok (.iconst 4, 1) := by decide +kernel
theorem d_Ref_cut_10 : decode b_Ref_cut 10 = .ok (.putfield 20, 3) := by decide +kernel
theorem d_Ref_cut_13 : decode b_Ref_cut 13 = .ok (.lconst 0, 1) := by decide +kernel
theorem d_Ref_cut_14 : decode b_Ref_cut 14 = .ok (.lreturn, 1) := by decide +kernel
theorem d_Ref_cut_15 : decode b_Ref_cut 15 = .ok (.aload_n 0, 1) := by decide +kernel
theorem d_Ref_cut_16 : decode b_Ref_cut 16 = .ok (.lload_n 1, 1) := by decide +kernel
theorem d_Ref_cut_17 : decode b_Ref_cut 17 = .ok (.invokevirtual 104, 3) := by decide +kernel
theorem d_Ref_cut_20 : decode b_Ref_cut 20 = .ok (.ifCond .eq 10, 3) := by decide +kernel
theorem d_Ref_cut_23 : decode b_Ref_cut 23 = .ok (.aload_n 0, 1) := by decide +kernel
theorem d_Ref_cut_24 : decode b_Ref_cut 24 = .ok (.iconst 3, 1) := by decide +kernel
theorem d_Ref_cut_25 : decode b_Ref_cut 25 = .ok (.putfield 20, 3) := by decide +kernel
theorem d_Ref_cut_28 : decode b_Ref_cut 28 = .ok (.lconst 0, 1) := by decide +kernel
theorem d_Ref_cut_29 : decode b_Ref_cut 29 = .ok (.lreturn, 1) := by decide +kernel
theorem d_Ref_cut_30 : decode b_Ref_cut 30 = .ok (.aload_n 0, 1) := by decide +kernel
theorem d_Ref_cut_31 : decode b_Ref_cut 31 = .ok (.lload_n 1, 1) := by decide +kernel
theorem d_Ref_cut_32 : decode b_Ref_cut 32 = .ok (.invokevirtual 117, 3) := by decide +kernel
theorem d_Ref_cut_35 : decode b_Ref_cut 35 = .ok (.aload_n 0, 1) := by decide +kernel
theorem d_Ref_cut_36 : decode b_Ref_cut 36 = .ok (.getfield 91, 3) := by decide +kernel
theorem d_Ref_cut_39 : decode b_Ref_cut 39 = .ok (.lconst 0, 1) := by decide +kernel
theorem d_Ref_cut_40 : decode b_Ref_cut 40 = .ok (.lcmp, 1) := by decide +kernel
theorem d_Ref_cut_41 : decode b_Ref_cut 41 = .ok (.ifCond .eq 32, 3) := by decide +kernel
theorem d_Ref_cut_44 : decode b_Ref_cut 44 = .ok (.aload_n 0, 1) := by decide +kernel
theorem d_Ref_cut_45 : decode b_Ref_cut 45 = .ok (.getfield 94, 3) := by decide +kernel
theorem d_Ref_cut_48 : decode b_Ref_cut 48 = .ok (.bipush 11, 2) := by decide +kernel
theorem d_Ref_cut_50 : decode b_Ref_cut 50 = .ok (.aload_n 0, 1) := by decide +kernel
theorem d_Ref_cut_51 : decode b_Ref_cut 51 = .ok (.getfield 49, 3) := by decide +kernel
theorem d_Ref_cut_54 : decode b_Ref_cut 54 = .ok (.bipush 32, 2) := by decide +kernel
theorem d_Ref_cut_56 : decode b_Ref_cut 56 = .ok (.if_icmp .ne 8, 3) := by decide +kernel
theorem d_Ref_cut_59 : decode b_Ref_cut 59 = .ok (.bipush 29, 2) := by decide +kernel
theorem d_Ref_cut_61 : decode b_Ref_cut 61 = .ok (.goto 4, 3) := by decide +kernel
theorem d_Ref_cut_64 : decode b_Ref_cut 64 = .ok (.iconst 0, 1) := by decide +kernel
theorem d_Ref_cut_65 : decode b_Ref_cut 65 = .ok (.iadd, 1) := by decide +kernel
theorem d_Ref_cut_66 : decode b_Ref_cut 66 = .ok (.if_icmp .le 7, 3) := by decide +kernel
theorem d_Ref_cut_69 : decode b_Ref_cut 69 = .ok (.iconst 1, 1) := by decide +kernel
theorem d_Ref_cut_70 : decode b_Ref_cut 70 = .ok (.goto 4, 3) := by decide +kernel
theorem d_Ref_cut_73 : decode b_Ref_cut 73 = .ok (.iconst 0, 1) := by decide +kernel
theorem d_Ref_cut_74 : decode b_Ref_cut 74 = .ok (.istore 5, 2) := by decide +kernel
theorem d_Ref_cut_76 : decode b_Ref_cut 76 = .ok (.iload 5, 2) := by decide +kernel
theorem d_Ref_cut_78 : decode b_Ref_cut 78 = .ok (.ifCond .eq 7, 3) := by decide +kernel
theorem d_Ref_cut_81 : decode b_Ref_cut 81 = .ok (.lconst 0, 1) := by decide +kernel
theorem d_Ref_cut_82 : decode b_Ref_cut 82 = .ok (.goto 46, 3) := by decide +kernel
theorem d_Ref_cut_85 : decode b_Ref_cut 85 = .ok (.aload_n 0, 1) := by decide +kernel
theorem d_Ref_cut_86 : decode b_Ref_cut 86 = .ok (.getfield 94, 3) := by decide +kernel
theorem d_Ref_cut_89 : decode b_Ref_cut 89 = .ok (.ifCond .lt 15, 3) := by decide +kernel
theorem d_Ref_cut_92 : decode b_Ref_cut 92 = .ok (.aload_n 0, 1) := by decide +kernel
theorem d_Ref_cut_93 : decode b_Ref_cut 93 = .ok (.getfield 91, 3) := by decide +kernel
theorem d_Ref_cut_96 : decode b_Ref_cut 96 = .ok (.aload_n 0, 1) := by decide +kernel
theorem d_Ref_cut_97 : decode b_Ref_cut 97 = .ok (.getfield 94, 3) := by decide +kernel
theorem d_Ref_cut_100 : decode b_Ref_cut 100 = .ok (.lshl, 1) := by decide +kernel
theorem d_Ref_cut_101 : decode b_Ref_cut 101 = .ok (.goto 27, 3) := by decide +kernel
theorem d_Ref_cut_104 : decode b_Ref_cut 104 = .ok (.aload_n 0, 1) := by decide +kernel
theorem d_Ref_cut_105 : decode b_Ref_cut 105 = .ok (.getfield 94, 3) := by decide +kernel
theorem d_Ref_cut_108 : decode b_Ref_cut 108 = .ok (.ineg, 1) := by decide +kernel
theorem d_Ref_cut_109 : decode b_Ref_cut 109 = .ok (.bipush 62, 2) := by decide +kernel
theorem d_Ref_cut_111 : decode b_Ref_cut 111 = .ok (.if_icmp .le 7, 3) := by decide +kernel
theorem d_Ref_cut_114 : decode b_Ref_cut 114 = .ok (.lconst 0, 1) := by decide +kernel
theorem d_Ref_cut_115 : decode b_Ref_cut 115 = .ok (.goto 13, 3) := by decide +kernel
theorem d_Ref_cut_118 : decode b_Ref_cut 118 = .ok (.aload_n 0, 1) := by decide +kernel
theorem d_Ref_cut_119 : decode b_Ref_cut 119 = .ok (.getfield 91, 3) := by decide +kernel
theorem d_Ref_cut_122 : decode b_Ref_cut 122 = .ok (.aload_n 0, 1) := by decide +kernel
theorem d_Ref_cut_123 : decode b_Ref_cut 123 = .ok (.getfield 94, 3) := by decide +kernel
theorem d_Ref_cut_126 : decode b_Ref_cut 126 = .ok (.ineg, 1) := by decide +kernel
theorem d_Ref_cut_127 : decode b_Ref_cut 127 = .ok (.lshr, 1) := by decide +kernel
theorem d_Ref_cut_128 : decode b_Ref_cut 128 = .ok (.lstore 6, 2) := by decide +kernel
theorem d_Ref_cut_130 : decode b_Ref_cut 130 = .ok (.iload 4, 2) := by decide +kernel
theorem d_Ref_cut_132 : decode b_Ref_cut 132 = .ok (.ifCond .eq 28, 3) := by decide +kernel
theorem d_Ref_cut_135 : decode b_Ref_cut 135 = .ok (.aload_n 0, 1) := by decide +kernel
theorem d_Ref_cut_136 : decode b_Ref_cut 136 = .ok (.getfield 88, 3) := by decide +kernel
theorem d_Ref_cut_139 : decode b_Ref_cut 139 = .ok (.ifCond .eq 11, 3) := by decide +kernel
theorem d_Ref_cut_142 : decode b_Ref_cut 142 = .ok (.lconst 1, 1) := by decide +kernel
theorem d_Ref_cut_143 : decode b_Ref_cut 143 = .ok (.iload_n 3, 1) := by decide +kernel
theorem d_Ref_cut_144 : decode b_Ref_cut 144 = .ok (.iconst 1, 1) := by decide +kernel
theorem d_Ref_cut_145 : decode b_Ref_cut 145 = .ok (.isub, 1) := by decide +kernel
theorem d_Ref_cut_146 : decode b_Ref_cut 146 = .ok (.lshl, 1) := by decide +kernel
theorem d_Ref_cut_147 : decode b_Ref_cut 147 = .ok (.goto 39, 3) := by decide +kernel
theorem d_Ref_cut_150 : decode b_Ref_cut 150 = .ok (.lconst 1, 1) := by decide +kernel
theorem d_Ref_cut_151 : decode b_Ref_cut 151 = .ok (.iload_n 3, 1) := by decide +kernel
theorem d_Ref_cut_152 : decode b_Ref_cut 152 = .ok (.iconst 1, 1) := by decide +kernel
theorem d_Ref_cut_153 : decode b_Ref_cut 153 = .ok (.isub, 1) := by decide +kernel
theorem d_Ref_cut_154 : decode b_Ref_cut 154 = .ok (.lshl, 1) := by decide +kernel
theorem d_Ref_cut_155 : decode b_Ref_cut 155 = .ok (.lconst 1, 1) := by decide +kernel
theorem d_Ref_cut_156 : decode b_Ref_cut 156 = .ok (.lsub, 1) := by decide +kernel
theorem d_Ref_cut_157 : decode b_Ref_cut 157 = .ok (.goto 29, 3) := by decide +kernel
theorem d_Ref_cut_160 : decode b_Ref_cut 160 = .ok (.aload_n 0, 1) := by decide +kernel
theorem d_Ref_cut_161 : decode b_Ref_cut 161 = .ok (.getfield 88, 3) := by decide +kernel
theorem d_Ref_cut_164 : decode b_Ref_cut 164 = .ok (.ifCond .eq 7, 3) := by decide +kernel
theorem d_Ref_cut_167 : decode b_Ref_cut 167 = .ok (.lconst 0, 1) := by decide +kernel
theorem d_Ref_cut_168 : decode b_Ref_cut 168 = .ok (.goto 18, 3) := by decide +kernel
theorem d_Ref_cut_171 : decode b_Ref_cut 171 = .ok (.iload_n 3, 1) := by decide +kernel
theorem d_Ref_cut_172 : decode b_Ref_cut 172 = .ok (.bipush 64, 2) := by decide +kernel
theorem d_Ref_cut_174 : decode b_Ref_cut 174 = .ok (.if_icmp .ne 9, 3) := by decide +kernel
theorem d_Ref_cut_177 : decode b_Ref_cut 177 = .ok (.ldc2_w 156, 3) := by decide +kernel
theorem d_Ref_cut_180 : decode b_Ref_cut 180 = .ok (.goto 6, 3) := by decide +kernel
theorem d_Ref_cut_183 : decode b_Ref_cut 183 = .ok (.ldc2_w 172, 3) := by decide +kernel
theorem d_Ref_cut_186 : decode b_Ref_cut 186 = .ok (.lstore 8, 2) := by decide +kernel
theorem d_Ref_cut_188 : decode b_Ref_cut 188 = .ok (.iload 5, 2) := by decide +kernel
theorem d_Ref_cut_190 : decode b_Ref_cut 190 = .ok (.ifCond .ne 13, 3) := by decide +kernel
theorem d_Ref_cut_193 : decode b_Ref_cut 193 = .ok (.lload 8, 2) := by decide +kernel
theorem d_Ref_cut_195 : decode b_Ref_cut 195 = .ok (.lload 6, 2) := by decide +kernel
theorem d_Ref_cut_197 : decode b_Ref_cut 197 = .ok (.invokestatic 160, 3) := by decide +kernel
theorem d_Ref_cut_200 : decode b_Ref_cut 200 = .ok (.ifCond .eq 10, 3) := by decide +kernel
theorem d_Ref_cut_203 : decode b_Ref_cut 203 = .ok (.aload_n 0, 1) := by decide +kernel
theorem d_Ref_cut_204 : decode b_Ref_cut 204 = .ok (.iconst 3, 1) := by decide +kernel
theorem d_Ref_cut_205 : decode b_Ref_cut 205 = .ok (.putfield 20, 3) := by decide +kernel
theorem d_Ref_cut_208 : decode b_Ref_cut 208 = .ok (.lconst 0, 1) := by decide +kernel
theorem d_Ref_cut_209 : decode b_Ref_cut 209 = .ok (.lreturn, 1) := by decide +kernel
theorem d_Ref_cut_210 : decode b_Ref_cut 210 = .ok (.aload_n 0, 1) := by decide +kernel
theorem d_Ref_cut_211 : decode b_Ref_cut 211 = .ok (.getfield 88, 3) := by decide +kernel
theorem d_Ref_cut_214 : decode b_Ref_cut 214 = .ok (.ifCond .eq 9, 3) := by decide +kernel
theorem d_Ref_cut_217 : decode b_Ref_cut 217 = .ok (.lload 6, 2) := by decide +kernel
theorem d_Ref_cut_219 : decode b_Ref_cut 219 = .ok (.lneg, 1) := by decide +kernel
theorem d_Ref_cut_220 : decode b_Ref_cut 220 = .ok (.goto 5, 3) := by decide +kernel
theorem d_Ref_cut_223 : decode b_Ref_cut 223 = .ok (.lload 6, 2) := by decide +kernel
theorem d_Ref_cut_225 : decode b_Ref_cut 225 = .ok (.lreturn, 1) := by decide +kernel
abbrev b_Ref_isNone : ByteArray := prog_11_method_22_code
def y_Ref_isNone : MethodName := ⟨"BitArithmeticModel", "isNone", "(J)Z"⟩
theorem d_Ref_isNone_0 : decode b_Ref_isNone 0 = .ok (.aload_n 0, 1) := by decide +kernel
theorem d_Ref_isNone_1 : decode b_Ref_isNone 1 = .ok (.lload_n 1, 1) := by decide +kernel
theorem d_Ref_isNone_2 : decode b_Ref_isNone 2 = .ok (.invokevirtual 80, 3) := by decide +kernel
theorem d_Ref_isNone_5 : decode b_Ref_isNone 5 = .ok (.aload_n 0, 1) := by decide +kernel
theorem d_Ref_isNone_6 : decode b_Ref_isNone 6 = .ok (.iconst 0, 1) := by decide +kernel
theorem d_Ref_isNone_7 : decode b_Ref_isNone 7 = .ok (.invokevirtual 72, 3) := by decide +kernel
theorem d_Ref_isNone_10 : decode b_Ref_isNone 10 = .ok (.lcmp, 1) := by decide +kernel
theorem d_Ref_isNone_11 : decode b_Ref_isNone 11 = .ok (.ifCond .le 7, 3) := by decide +kernel
theorem d_Ref_isNone_14 : decode b_Ref_isNone 14 = .ok (.iconst 1, 1) := by decide +kernel
theorem d_Ref_isNone_15 : decode b_Ref_isNone 15 = .ok (.goto 4, 3) := by decide +kernel
theorem d_Ref_isNone_18 : decode b_Ref_isNone 18 = .ok (.iconst 0, 1) := by decide +kernel
theorem d_Ref_isNone_19 : decode b_Ref_isNone 19 = .ok (.ireturn, 1) := by decide +kernel
abbrev b_Ref_size : ByteArray := prog_11_method_20_code
def y_Ref_size : MethodName := ⟨"BitArithmeticModel", "size", "(J)J"⟩
theorem d_Ref_size_0 : decode b_Ref_size 0 = .ok (.lload_n 1, 1) := by decide +kernel
theorem d_Ref_size_1 : decode b_Ref_size 1 = .ok (.lconst 1, 1) := by decide +kernel
theorem d_Ref_size_2 : decode b_Ref_size 2 = .ok (.aload_n 0, 1) := by decide +kernel
theorem d_Ref_size_3 : decode b_Ref_size 3 = .ok (.getfield 49, 3) := by decide +kernel
theorem d_Ref_size_6 : decode b_Ref_size 6 = .ok (.iconst 1, 1) := by decide +kernel
theorem d_Ref_size_7 : decode b_Ref_size 7 = .ok (.isub, 1) := by decide +kernel
theorem d_Ref_size_8 : decode b_Ref_size 8 = .ok (.lshl, 1) := by decide +kernel
theorem d_Ref_size_9 : decode b_Ref_size 9 = .ok (.lconst 1, 1) := by decide +kernel
theorem d_Ref_size_10 : decode b_Ref_size 10 = .ok (.lsub, 1) := by decide +kernel
theorem d_Ref_size_11 : decode b_Ref_size 11 = .ok (.land, 1) := by decide +kernel
theorem d_Ref_size_12 : decode b_Ref_size 12 = .ok (.lreturn, 1) := by decide +kernel
abbrev b_Ref_infinite : ByteArray := prog_11_method_17_code
def y_Ref_infinite : MethodName := ⟨"BitArithmeticModel", "infinite", "(Z)J"⟩
theorem d_Ref_infinite_0 : decode b_Ref_infinite 0 = .ok (.aload_n 0, 1) := by decide +kernel
theorem d_Ref_infinite_1 : decode b_Ref_infinite 1 = .ok (.ldc2_w 58, 3) := by decide +kernel
theorem d_Ref_infinite_4 : decode b_Ref_infinite 4 = .ok (.aload_n 0, 1) := by decide +kernel
theorem d_Ref_infinite_5 : decode b_Ref_infinite 5 = .ok (.getfield 55, 3) := by decide +kernel
theorem d_Ref_infinite_8 : decode b_Ref_infinite 8 = .ok (.i2l, 1) := by decide +kernel
theorem d_Ref_infinite_9 : decode b_Ref_infinite 9 = .ok (.lmul, 1) := by decide +kernel
theorem d_Ref_infinite_10 : decode b_Ref_infinite 10 = .ok (.lconst 1, 1) := by decide +kernel
theorem d_Ref_infinite_11 : decode b_Ref_infinite 11 = .ok (.ladd, 1) := by decide +kernel
theorem d_Ref_infinite_12 : decode b_Ref_infinite 12 = .ok (.aload_n 0, 1) := by decide +kernel
theorem d_Ref_infinite_13 : decode b_Ref_infinite 13 = .ok (.getfield 52, 3) := by decide +kernel
theorem d_Ref_infinite_16 : decode b_Ref_infinite 16 = .ok (.lshl, 1) := by decide +kernel
theorem d_Ref_infinite_17 : decode b_Ref_infinite 17 = .ok (.iload_n 1, 1) := by decide +kernel
theorem d_Ref_infinite_18 : decode b_Ref_infinite 18 = .ok (.invokevirtual 60, 3) := by decide +kernel
theorem d_Ref_infinite_21 : decode b_Ref_infinite 21 = .ok (.lreturn, 1) := by decide +kernel
abbrev b_Ref_signed : ByteArray := prog_11_method_16_code
def y_Ref_signed : MethodName := ⟨"BitArithmeticModel", "signed", "(JZ)J"⟩
theorem d_Ref_signed_0 : decode b_Ref_signed 0 = .ok (.iload_n 3, 1) := by decide +kernel
theorem d_Ref_signed_1 : decode b_Ref_signed 1 = .ok (.ifCond .eq 16, 3) := by decide +kernel
theorem d_Ref_signed_4 : decode b_Ref_signed 4 = .ok (.lload_n 1, 1) := by decide +kernel
theorem d_Ref_signed_5 : decode b_Ref_signed 5 = .ok (.lconst 1, 1) := by decide +kernel
theorem d_Ref_signed_6 : decode b_Ref_signed 6 = .ok (.aload_n 0, 1) := by decide +kernel
theorem d_Ref_signed_7 : decode b_Ref_signed 7 = .ok (.getfield 49, 3) := by decide +kernel
theorem d_Ref_signed_10 : decode b_Ref_signed 10 = .ok (.iconst 1, 1) := by decide +kernel
theorem d_Ref_signed_11 : decode b_Ref_signed 11 = .ok (.isub, 1) := by decide +kernel
theorem d_Ref_signed_12 : decode b_Ref_signed 12 = .ok (.lshl, 1) := by decide +kernel
theorem d_Ref_signed_13 : decode b_Ref_signed 13 = .ok (.lor, 1) := by decide +kernel
theorem d_Ref_signed_14 : decode b_Ref_signed 14 = .ok (.goto 4, 3) := by decide +kernel
theorem d_Ref_signed_17 : decode b_Ref_signed 17 = .ok (.lload_n 1, 1) := by decide +kernel
theorem d_Ref_signed_18 : decode b_Ref_signed 18 = .ok (.lreturn, 1) := by decide +kernel
abbrev b_Ref_isInfinite : ByteArray := prog_11_method_23_code
def y_Ref_isInfinite : MethodName := ⟨"BitArithmeticModel", "isInfinite", "(J)Z"⟩
theorem d_Ref_isInfinite_0 : decode b_Ref_isInfinite 0 = .ok (.aload_n 0, 1) := by decide +kernel
theorem d_Ref_isInfinite_1 : decode b_Ref_isInfinite 1 = .ok (.lload_n 1, 1) := by decide +kernel
theorem d_Ref_isInfinite_2 : decode b_Ref_isInfinite 2 = .ok (.invokevirtual 80, 3) := by decide +kernel
theorem d_Ref_isInfinite_5 : decode b_Ref_isInfinite 5 = .ok (.aload_n 0, 1) := by decide +kernel
theorem d_Ref_isInfinite_6 : decode b_Ref_isInfinite 6 = .ok (.iconst 0, 1) := by decide +kernel
theorem d_Ref_isInfinite_7 : decode b_Ref_isInfinite 7 = .ok (.invokevirtual 72, 3) := by decide +kernel
theorem d_Ref_isInfinite_10 : decode b_Ref_isInfinite 10 = .ok (.lcmp, 1) := by decide +kernel
theorem d_Ref_isInfinite_11 : decode b_Ref_isInfinite 11 = .ok (.ifCond .ne 7, 3) := by decide +kernel
theorem d_Ref_isInfinite_14 : decode b_Ref_isInfinite 14 = .ok (.iconst 1, 1) := by decide +kernel
theorem d_Ref_isInfinite_15 : decode b_Ref_isInfinite 15 = .ok (.goto 4, 3) := by decide +kernel
theorem d_Ref_isInfinite_18 : decode b_Ref_isInfinite 18 = .ok (.iconst 0, 1) := by decide +kernel
theorem d_Ref_isInfinite_19 : decode b_Ref_isInfinite 19 = .ok (.ireturn, 1) := by decide +kernel
abbrev b_Ref_split : ByteArray := prog_11_method_25_code
def y_Ref_split : MethodName := ⟨"BitArithmeticModel", "split", "(J)V"⟩
theorem d_Ref_split_0 : decode b_Ref_split 0 = .ok (.aload_n 0, 1) := by decide +kernel
theorem d_Ref_split_1 : decode b_Ref_split 1 = .ok (.lload_n 1, 1) := by decide +kernel
theorem d_Ref_split_2 : decode b_Ref_split 2 = .ok (.invokevirtual 80, 3) := by decide +kernel
theorem d_Ref_split_5 : decode b_Ref_split 5 = .ok (.aload_n 0, 1) := by decide +kernel
theorem d_Ref_split_6 : decode b_Ref_split 6 = .ok (.getfield 52, 3) := by decide +kernel
theorem d_Ref_split_9 : decode b_Ref_split 9 = .ok (.lshr, 1) := by decide +kernel
theorem d_Ref_split_10 : decode b_Ref_split 10 = .ok (.lstore_n 3, 1) := by decide +kernel
theorem d_Ref_split_11 : decode b_Ref_split 11 = .ok (.lload_n 1, 1) := by decide +kernel
theorem d_Ref_split_12 : decode b_Ref_split 12 = .ok (.lconst 1, 1) := by decide +kernel
theorem d_Ref_split_13 : decode b_Ref_split 13 = .ok (.aload_n 0, 1) := by decide +kernel
theorem d_Ref_split_14 : decode b_Ref_split 14 = .ok (.getfield 52, 3) := by decide +kernel
theorem d_Ref_split_17 : decode b_Ref_split 17 = .ok (.lshl, 1) := by decide +kernel
theorem d_Ref_split_18 : decode b_Ref_split 18 = .ok (.lconst 1, 1) := by decide +kernel
theorem d_Ref_split_19 : decode b_Ref_split 19 = .ok (.lsub, 1) := by decide +kernel
theorem d_Ref_split_20 : decode b_Ref_split 20 = .ok (.land, 1) := by decide +kernel
theorem d_Ref_split_21 : decode b_Ref_split 21 = .ok (.lstore 5, 2) := by decide +kernel
theorem d_Ref_split_23 : decode b_Ref_split 23 = .ok (.aload_n 0, 1) := by decide +kernel
theorem d_Ref_split_24 : decode b_Ref_split 24 = .ok (.aload_n 0, 1) := by decide +kernel
theorem d_Ref_split_25 : decode b_Ref_split 25 = .ok (.lload_n 1, 1) := by decide +kernel
theorem d_Ref_split_26 : decode b_Ref_split 26 = .ok (.invokevirtual 84, 3) := by decide +kernel
theorem d_Ref_split_29 : decode b_Ref_split 29 = .ok (.putfield 88, 3) := by decide +kernel
theorem d_Ref_split_32 : decode b_Ref_split 32 = .ok (.aload_n 0, 1) := by decide +kernel
theorem d_Ref_split_33 : decode b_Ref_split 33 = .ok (.lload_n 3, 1) := by decide +kernel
theorem d_Ref_split_34 : decode b_Ref_split 34 = .ok (.lconst 0, 1) := by decide +kernel
theorem d_Ref_split_35 : decode b_Ref_split 35 = .ok (.lcmp, 1) := by decide +kernel
theorem d_Ref_split_36 : decode b_Ref_split 36 = .ok (.ifCond .ne 8, 3) := by decide +kernel
theorem d_Ref_split_39 : decode b_Ref_split 39 = .ok (.lload 5, 2) := by decide +kernel
theorem d_Ref_split_41 : decode b_Ref_split 41 = .ok (.goto 12, 3) := by decide +kernel
theorem d_Ref_split_44 : decode b_Ref_split 44 = .ok (.lload 5, 2) := by decide +kernel
theorem d_Ref_split_46 : decode b_Ref_split 46 = .ok (.lconst 1, 1) := by decide +kernel
theorem d_Ref_split_47 : decode b_Ref_split 47 = .ok (.aload_n 0, 1) := by decide +kernel
theorem d_Ref_split_48 : decode b_Ref_split 48 = .ok (.getfield 52, 3) := by decide +kernel
theorem d_Ref_split_51 : decode b_Ref_split 51 = .ok (.lshl, 1) := by decide +kernel
theorem d_Ref_split_52 : decode b_Ref_split 52 = .ok (.ladd, 1) := by decide +kernel
theorem d_Ref_split_53 : decode b_Ref_split 53 = .ok (.putfield 91, 3) := by decide +kernel
theorem d_Ref_split_56 : decode b_Ref_split 56 = .ok (.aload_n 0, 1) := by decide +kernel
theorem d_Ref_split_57 : decode b_Ref_split 57 = .ok (.lload_n 3, 1) := by decide +kernel
theorem d_Ref_split_58 : decode b_Ref_split 58 = .ok (.lconst 0, 1) := by decide +kernel
theorem d_Ref_split_59 : decode b_Ref_split 59 = .ok (.lcmp, 1) := by decide +kernel
theorem d_Ref_split_60 : decode b_Ref_split 60 = .ok (.ifCond .ne 7, 3) := by decide +kernel
theorem d_Ref_split_63 : decode b_Ref_split 63 = .ok (.iconst 1, 1) := by decide +kernel
theorem d_Ref_split_64 : decode b_Ref_split 64 = .ok (.goto 5, 3) := by decide +kernel
theorem d_Ref_split_67 : decode b_Ref_split 67 = .ok (.lload_n 3, 1) := by decide +kernel
theorem d_Ref_split_68 : decode b_Ref_split 68 = .ok (.l2i, 1) := by decide +kernel
theorem d_Ref_split_69 : decode b_Ref_split 69 = .ok (.aload_n 0, 1) := by decide +kernel
theorem d_Ref_split_70 : decode b_Ref_split 70 = .ok (.getfield 55, 3) := by decide +kernel
theorem d_Ref_split_73 : decode b_Ref_split 73 = .ok (.isub, 1) := by decide +kernel
theorem d_Ref_split_74 : decode b_Ref_split 74 = .ok (.aload_n 0, 1) := by decide +kernel
theorem d_Ref_split_75 : decode b_Ref_split 75 = .ok (.getfield 52, 3) := by decide +kernel
theorem d_Ref_split_78 : decode b_Ref_split 78 = .ok (.isub, 1) := by decide +kernel
theorem d_Ref_split_79 : decode b_Ref_split 79 = .ok (.putfield 94, 3) := by decide +kernel
theorem d_Ref_split_82 : decode b_Ref_split 82 = .ok (.return_, 1) := by decide +kernel
abbrev b_Ref_isMinus : ByteArray := prog_11_method_21_code
def y_Ref_isMinus : MethodName := ⟨"BitArithmeticModel", "isMinus", "(J)Z"⟩
theorem d_Ref_isMinus_0 : decode b_Ref_isMinus 0 = .ok (.lload_n 1, 1) := by decide +kernel
theorem d_Ref_isMinus_1 : decode b_Ref_isMinus 1 = .ok (.aload_n 0, 1) := by decide +kernel
theorem d_Ref_isMinus_2 : decode b_Ref_isMinus 2 = .ok (.getfield 49, 3) := by decide +kernel
theorem d_Ref_isMinus_5 : decode b_Ref_isMinus 5 = .ok (.iconst 1, 1) := by decide +kernel
theorem d_Ref_isMinus_6 : decode b_Ref_isMinus 6 = .ok (.isub, 1) := by decide +kernel
theorem d_Ref_isMinus_7 : decode b_Ref_isMinus 7 = .ok (.lshr, 1) := by decide +kernel
theorem d_Ref_isMinus_8 : decode b_Ref_isMinus 8 = .ok (.lconst 1, 1) := by decide +kernel
theorem d_Ref_isMinus_9 : decode b_Ref_isMinus 9 = .ok (.land, 1) := by decide +kernel
theorem d_Ref_isMinus_10 : decode b_Ref_isMinus 10 = .ok (.lconst 1, 1) := by decide +kernel
theorem d_Ref_isMinus_11 : decode b_Ref_isMinus 11 = .ok (.lcmp, 1) := by decide +kernel
theorem d_Ref_isMinus_12 : decode b_Ref_isMinus 12 = .ok (.ifCond .ne 7, 3) := by decide +kernel
theorem d_Ref_isMinus_15 : decode b_Ref_isMinus 15 = .ok (.iconst 1, 1) := by decide +kernel
theorem d_Ref_isMinus_16 : decode b_Ref_isMinus 16 = .ok (.goto 4, 3) := by decide +kernel
theorem d_Ref_isMinus_19 : decode b_Ref_isMinus 19 = .ok (.iconst 0, 1) := by decide +kernel
theorem d_Ref_isMinus_20 : decode b_Ref_isMinus 20 = .ok (.ireturn, 1) := by decide +kernel
abbrev b_Ref_below : ByteArray := prog_11_method_36_code
def y_Ref_below : MethodName := ⟨"BitArithmeticModel", "below", "(JJ)Z"⟩
theorem d_Ref_below_0 : decode b_Ref_below 0 = .ok (.lload_n 0, 1) := by decide +kernel
theorem d_Ref_below_1 : decode b_Ref_below 1 = .ok (.ldc2_w 158, 3) := by decide +kernel
theorem d_Ref_below_4 : decode b_Ref_below 4 = .ok (.lxor, 1) := by decide +kernel
theorem d_Ref_below_5 : decode b_Ref_below 5 = .ok (.lload_n 2, 1) := by decide +kernel
theorem d_Ref_below_6 : decode b_Ref_below 6 = .ok (.ldc2_w 158, 3) := by decide +kernel
theorem d_Ref_below_9 : decode b_Ref_below 9 = .ok (.lxor, 1) := by decide +kernel
theorem d_Ref_below_10 : decode b_Ref_below 10 = .ok (.lcmp, 1) := by decide +kernel
theorem d_Ref_below_11 : decode b_Ref_below 11 = .ok (.ifCond .ge 7, 3) := by decide +kernel
theorem d_Ref_below_14 : decode b_Ref_below 14 = .ok (.iconst 1, 1) := by decide +kernel
theorem d_Ref_below_15 : decode b_Ref_below 15 = .ok (.goto 4, 3) := by decide +kernel
theorem d_Ref_below_18 : decode b_Ref_below 18 = .ok (.iconst 0, 1) := by decide +kernel
theorem d_Ref_below_19 : decode b_Ref_below 19 = .ok (.ireturn, 1) := by decide +kernel
abbrev b_Ref_withSign : ByteArray := prog_11_method_35_code
def y_Ref_withSign : MethodName := ⟨"BitArithmeticModel", "withSign", "(JI)J"⟩
theorem d_Ref_withSign_0 : decode b_Ref_withSign 0 = .ok (.iload_n 2, 1) := by decide +kernel
theorem d_Ref_withSign_1 : decode b_Ref_withSign 1 = .ok (.bipush 64, 2) := by decide +kernel
theorem d_Ref_withSign_3 : decode b_Ref_withSign 3 = .ok (.if_icmp .eq 15, 3) := by decide +kernel
theorem d_Ref_withSign_6 : decode b_Ref_withSign 6 = .ok (.lload_n 0, 1) := by decide +kernel
theorem d_Ref_withSign_7 : decode b_Ref_withSign 7 = .ok (.iload_n 2, 1) := by decide +kernel
theorem d_Ref_withSign_8 : decode b_Ref_withSign 8 = .ok (.iconst 1, 1) := by decide +kernel
theorem d_Ref_withSign_9 : decode b_Ref_withSign 9 = .ok (.isub, 1) := by decide +kernel
theorem d_Ref_withSign_10 : decode b_Ref_withSign 10 = .ok (.lshr, 1) := by decide +kernel
theorem d_Ref_withSign_11 : decode b_Ref_withSign 11 = .ok (.lconst 1, 1) := by decide +kernel
theorem d_Ref_withSign_12 : decode b_Ref_withSign 12 = .ok (.land, 1) := by decide +kernel
theorem d_Ref_withSign_13 : decode b_Ref_withSign 13 = .ok (.lconst 0, 1) := by decide +kernel
theorem d_Ref_withSign_14 : decode b_Ref_withSign 14 = .ok (.lcmp, 1) := by decide +kernel
theorem d_Ref_withSign_15 : decode b_Ref_withSign 15 = .ok (.ifCond .ne 7, 3) := by decide +kernel
theorem d_Ref_withSign_18 : decode b_Ref_withSign 18 = .ok (.lload_n 0, 1) := by decide +kernel
theorem d_Ref_withSign_19 : decode b_Ref_withSign 19 = .ok (.goto 10, 3) := by decide +kernel
theorem d_Ref_withSign_22 : decode b_Ref_withSign 22 = .ok (.lload_n 0, 1) := by decide +kernel
theorem d_Ref_withSign_23 : decode b_Ref_withSign 23 = .ok (.ldc2_w 156, 3) := by decide +kernel
theorem d_Ref_withSign_26 : decode b_Ref_withSign 26 = .ok (.iload_n 2, 1) := by decide +kernel
theorem d_Ref_withSign_27 : decode b_Ref_withSign 27 = .ok (.lshl, 1) := by decide +kernel
theorem d_Ref_withSign_28 : decode b_Ref_withSign 28 = .ok (.lor, 1) := by decide +kernel
theorem d_Ref_withSign_29 : decode b_Ref_withSign 29 = .ok (.lreturn, 1) := by decide +kernel
abbrev b_Ref_floating : ByteArray := prog_11_method_45_code
def y_Ref_floating : MethodName := ⟨"BitArithmeticModel", "floating", "(JZ)J"⟩
theorem d_Ref_floating_0 : decode b_Ref_floating 0 = .ok (.lload_n 1, 1) := by decide +kernel
theorem d_Ref_floating_1 : decode b_Ref_floating 1 = .ok (.lconst 0, 1) := by decide +kernel
theorem d_Ref_floating_2 : decode b_Ref_floating 2 = .ok (.lcmp, 1) := by decide +kernel
theorem d_Ref_floating_3 : decode b_Ref_floating 3 = .ok (.ifCond .ne 5, 3) := by decide +kernel
theorem d_Ref_floating_6 : decode b_Ref_floating 6 = .ok (.lconst 0, 1) := by decide +kernel
theorem d_Ref_floating_7 : decode b_Ref_floating 7 = .ok (.lreturn, 1) := by decide +kernel
theorem d_Ref_floating_8 : decode b_Ref_floating 8 = .ok (.iload_n 3, 1) := by decide +kernel
theorem d_Ref_floating_9 : decode b_Ref_floating 9 = .ok (.ifCond .eq 13, 3) := by decide +kernel
theorem d_Ref_floating_12 : decode b_Ref_floating 12 = .ok (.lload_n 1, 1) := by decide +kernel
theorem d_Ref_floating_13 : decode b_Ref_floating 13 = .ok (.lconst 0, 1) := by decide +kernel
theorem d_Ref_floating_14 : decode b_Ref_floating 14 = .ok (.lcmp, 1) := by decide +kernel
theorem d_Ref_floating_15 : decode b_Ref_floating 15 = .ok (.ifCond .ge 7, 3) := by decide +kernel
theorem d_Ref_floating_18 : decode b_Ref_floating 18 = .ok (.iconst 1, 1) := by decide +kernel
theorem d_Ref_floating_19 : decode b_Ref_floating 19 = .ok (.goto 4, 3) := by decide +kernel
theorem d_Ref_floating_22 : decode b_Ref_floating 22 = .ok (.iconst 0, 1) := by decide +kernel
theorem d_Ref_floating_23 : decode b_Ref_floating 23 = .ok (.istore 4, 2) := by decide +kernel
theorem d_Ref_floating_25 : decode b_Ref_floating 25 = .ok (.aload_n 0, 1) := by decide +kernel
theorem d_Ref_floating_26 : decode b_Ref_floating 26 = .ok (.invokevirtual 114, 3) := by decide +kernel
theorem d_Ref_floating_29 : decode b_Ref_floating 29 = .ok (.aload_n 0, 1) := by decide +kernel
theorem d_Ref_floating_30 : decode b_Ref_floating 30 = .ok (.iload 4, 2) := by decide +kernel
theorem d_Ref_floating_32 : decode b_Ref_floating 32 = .ok (.ifCond .eq 8, 3) := by decide +kernel
theorem d_Ref_floating_35 : decode b_Ref_floating 35 = .ok (.lload_n 1, 1) := by decide +kernel
theorem d_Ref_floating_36 : decode b_Ref_floating 36 = .ok (.lneg, 1) := by decide +kernel
theorem d_Ref_floating_37 : decode b_Ref_floating 37 = .ok (.goto 4, 3) := by decide +kernel
theorem d_Ref_floating_40 : decode b_Ref_floating 40 = .ok (.lload_n 1, 1) := by decide +kernel
theorem d_Ref_floating_41 : decode b_Ref_floating 41 = .ok (.iconst 0, 1) := by decide +kernel
theorem d_Ref_floating_42 : decode b_Ref_floating 42 = .ok (.invokevirtual 121, 3) := by decide +kernel
theorem d_Ref_floating_45 : decode b_Ref_floating 45 = .ok (.aload_n 0, 1) := by decide +kernel
theorem d_Ref_floating_46 : decode b_Ref_floating 46 = .ok (.iload 4, 2) := by decide +kernel
theorem d_Ref_floating_48 : decode b_Ref_floating 48 = .ok (.invokevirtual 128, 3) := by decide +kernel
theorem d_Ref_floating_51 : decode b_Ref_floating 51 = .ok (.lreturn, 1) := by decide +kernel
abbrev b_Ref_clear : ByteArray := prog_11_method_9_code
def y_Ref_clear : MethodName := ⟨"BitArithmeticModel", "clear", "()V"⟩
theorem d_Ref_clear_0 : decode b_Ref_clear 0 = .ok (.aload_n 0, 1) := by decide +kernel
theorem d_Ref_clear_1 : decode b_Ref_clear 1 = .ok (.getfield 13, 3) := by decide +kernel
theorem d_Ref_clear_4 : decode b_Ref_clear 4 = .ok (.istore_n 1, 1) := by decide +kernel
theorem d_Ref_clear_5 : decode b_Ref_clear 5 = .ok (.iload_n 1, 1) := by decide +kernel
theorem d_Ref_clear_6 : decode b_Ref_clear 6 = .ok (.aload_n 0, 1) := by decide +kernel
theorem d_Ref_clear_7 : decode b_Ref_clear 7 = .ok (.getfield 17, 3) := by decide +kernel
theorem d_Ref_clear_10 : decode b_Ref_clear 10 = .ok (.if_icmp .gt 16, 3) := by decide +kernel
theorem d_Ref_clear_13 : decode b_Ref_clear 13 = .ok (.aload_n 0, 1) := by decide +kernel
theorem d_Ref_clear_14 : decode b_Ref_clear 14 = .ok (.getfield 7, 3) := by decide +kernel
theorem d_Ref_clear_17 : decode b_Ref_clear 17 = .ok (.iload_n 1, 1) := by decide +kernel
theorem d_Ref_clear_18 : decode b_Ref_clear 18 = .ok (.iconst 0, 1) := by decide +kernel
theorem d_Ref_clear_19 : decode b_Ref_clear 19 = .ok (.bastore, 1) := by decide +kernel
theorem d_Ref_clear_20 : decode b_Ref_clear 20 = .ok (.iinc 1 1, 3) := by decide +kernel
theorem d_Ref_clear_23 : decode b_Ref_clear 23 = .ok (.goto (-18), 3) := by decide +kernel
theorem d_Ref_clear_26 : decode b_Ref_clear 26 = .ok (.aload_n 0, 1) := by decide +kernel
theorem d_Ref_clear_27 : decode b_Ref_clear 27 = .ok (.aload_n 0, 1) := by decide +kernel
theorem d_Ref_clear_28 : decode b_Ref_clear 28 = .ok (.getfield 7, 3) := by decide +kernel
theorem d_Ref_clear_31 : decode b_Ref_clear 31 = .ok (.arraylength, 1) := by decide +kernel
theorem d_Ref_clear_32 : decode b_Ref_clear 32 = .ok (.putfield 13, 3) := by decide +kernel
theorem d_Ref_clear_35 : decode b_Ref_clear 35 = .ok (.aload_n 0, 1) := by decide +kernel
theorem d_Ref_clear_36 : decode b_Ref_clear 36 = .ok (.iconst 0, 1) := by decide +kernel
theorem d_Ref_clear_37 : decode b_Ref_clear 37 = .ok (.putfield 17, 3) := by decide +kernel
theorem d_Ref_clear_40 : decode b_Ref_clear 40 = .ok (.aload_n 0, 1) := by decide +kernel
theorem d_Ref_clear_41 : decode b_Ref_clear 41 = .ok (.iconst 0, 1) := by decide +kernel
theorem d_Ref_clear_42 : decode b_Ref_clear 42 = .ok (.putfield 41, 3) := by decide +kernel
theorem d_Ref_clear_45 : decode b_Ref_clear 45 = .ok (.return_, 1) := by decide +kernel
abbrev b_Ref_add : ByteArray := prog_11_method_11_code
def y_Ref_add : MethodName := ⟨"BitArithmeticModel", "add", "(JI)V"⟩
theorem d_Ref_add_0 : decode b_Ref_add 0 = .ok (.iconst 0, 1) := by decide +kernel
theorem d_Ref_add_1 : decode b_Ref_add 1 = .ok (.istore 4, 2) := by decide +kernel
theorem d_Ref_add_3 : decode b_Ref_add 3 = .ok (.sipush 2200, 3) := by decide +kernel
theorem d_Ref_add_6 : decode b_Ref_add 6 = .ok (.iload_n 3, 1) := by decide +kernel
theorem d_Ref_add_7 : decode b_Ref_add 7 = .ok (.iadd, 1) := by decide +kernel
theorem d_Ref_add_8 : decode b_Ref_add 8 = .ok (.istore 5, 2) := by decide +kernel
theorem d_Ref_add_10 : decode b_Ref_add 10 = .ok (.lload_n 1, 1) := by decide +kernel
theorem d_Ref_add_11 : decode b_Ref_add 11 = .ok (.lstore 6, 2) := by decide +kernel
theorem d_Ref_add_13 : decode b_Ref_add 13 = .ok (.aload_n 0, 1) := by decide +kernel
theorem d_Ref_add_14 : decode b_Ref_add 14 = .ok (.iload 5, 2) := by decide +kernel
theorem d_Ref_add_16 : decode b_Ref_add 16 = .ok (.iload 5, 2) := by decide +kernel
theorem d_Ref_add_18 : decode b_Ref_add 18 = .ok (.invokevirtual 45, 3) := by decide +kernel
theorem d_Ref_add_21 : decode b_Ref_add 21 = .ok (.lload 6, 2) := by decide +kernel
theorem d_Ref_add_23 : decode b_Ref_add 23 = .ok (.lconst 0, 1) := by decide +kernel
theorem d_Ref_add_24 : decode b_Ref_add 24 = .ok (.lcmp, 1) := by decide +kernel
theorem d_Ref_add_25 : decode b_Ref_add 25 = .ok (.ifCond .ne 8, 3) := by decide +kernel
theorem d_Ref_add_28 : decode b_Ref_add 28 = .ok (.iload 4, 2) := by decide +kernel
theorem d_Ref_add_30 : decode b_Ref_add 30 = .ok (.ifCond .le 59, 3) := by decide +kernel
theorem d_Ref_add_33 : decode b_Ref_add 33 = .ok (.aload_n 0, 1) := by decide +kernel
theorem d_Ref_add_34 : decode b_Ref_add 34 = .ok (.getfield 7, 3) := by decide +kernel
theorem d_Ref_add_37 : decode b_Ref_add 37 = .ok (.iload 5, 2) := by decide +kernel
theorem d_Ref_add_39 : decode b_Ref_add 39 = .ok (.baload, 1) := by decide +kernel
theorem d_Ref_add_40 : decode b_Ref_add 40 = .ok (.lload 6, 2) := by decide +kernel
theorem d_Ref_add_42 : decode b_Ref_add 42 = .ok (.lconst 1, 1) := by decide +kernel
theorem d_Ref_add_43 : decode b_Ref_add 43 = .ok (.land, 1) := by decide +kernel
theorem d_Ref_add_44 : decode b_Ref_add 44 = .ok (.l2i, 1) := by decide +kernel
theorem d_Ref_add_45 : decode b_Ref_add 45 = .ok (.iadd, 1) := by decide +kernel
theorem d_Ref_add_46 : decode b_Ref_add 46 = .ok (.iload 4, 2) := by decide +kernel
theorem d_Ref_add_48 : decode b_Ref_add 48 = .ok (.iadd, 1) := by decide +kernel
theorem d_Ref_add_49 : decode b_Ref_add 49 = .ok (.istore 8, 2) := by decide +kernel
theorem d_Ref_add_51 : decode b_Ref_add 51 = .ok (.aload_n 0, 1) := by decide +kernel
theorem d_Ref_add_52 : decode b_Ref_add 52 = .ok (.getfield 7, 3) := by decide +kernel
theorem d_Ref_add_55 : decode b_Ref_add 55 = .ok (.iload 5, 2) := by decide +kernel
theorem d_Ref_add_57 : decode b_Ref_add 57 = .ok (.iload 8, 2) := by decide +kernel
theorem d_Ref_add_59 : decode b_Ref_add 59 = .ok (.iconst 1, 1) := by decide +kernel
theorem d_Ref_add_60 : decode b_Ref_add 60 = .ok (.iand, 1) := by decide +kernel
theorem d_Ref_add_61 : decode b_Ref_add 61 = .ok (.i2b, 1) := by decide +kernel
theorem d_Ref_add_62 : decode b_Ref_add 62 = .ok (.bastore, 1) := by decide +kernel
theorem d_Ref_add_63 : decode b_Ref_add 63 = .ok (.iload 8, 2) := by decide +kernel
theorem d_Ref_add_65 : decode b_Ref_add 65 = .ok (.iconst 1, 1) := by decide +kernel
theorem d_Ref_add_66 : decode b_Ref_add 66 = .ok (.ishr, 1) := by decide +kernel
theorem d_Ref_add_67 : decode b_Ref_add 67 = .ok (.istore 4, 2) := by decide +kernel
theorem d_Ref_add_69 : decode b_Ref_add 69 = .ok (.aload_n 0, 1) := by decide +kernel
theorem d_Ref_add_70 : decode b_Ref_add 70 = .ok (.iload 5, 2) := by decide +kernel
theorem d_Ref_add_72 : decode b_Ref_add 72 = .ok (.iload 5, 2) := by decide +kernel
theorem d_Ref_add_74 : decode b_Ref_add 74 = .ok (.invokevirtual 45, 3) := by decide +kernel
theorem d_Ref_add_77 : decode b_Ref_add 77 = .ok (.lload 6, 2) := by decide +kernel
theorem d_Ref_add_79 : decode b_Ref_add 79 = .ok (.iconst 1, 1) := by decide +kernel
theorem d_Ref_add_80 : decode b_Ref_add 80 = .ok (.lushr, 1) := by decide +kernel
theorem d_Ref_add_81 : decode b_Ref_add 81 = .ok (.lstore 6, 2) := by decide +kernel
theorem d_Ref_add_83 : decode b_Ref_add 83 = .ok (.iinc 5 1, 3) := by decide +kernel
theorem d_Ref_add_86 : decode b_Ref_add 86 = .ok (.goto (-65), 3) := by decide +kernel
theorem d_Ref_add_89 : decode b_Ref_add 89 = .ok (.return_, 1) := by decide +kernel
abbrev b_Ref_reach : ByteArray := prog_11_method_10_code
def y_Ref_reach : MethodName := ⟨"BitArithmeticModel", "reach", "(II)V"⟩
theorem d_Ref_reach_0 : decode b_Ref_reach 0 = .ok (.aload_n 0, 1) := by decide +kernel
theorem d_Ref_reach_1 : decode b_Ref_reach 1 = .ok (.iload_n 1, 1) := by decide +kernel
theorem d_Ref_reach_2 : decode b_Ref_reach 2 = .ok (.aload_n 0, 1) := by decide +kernel
theorem d_Ref_reach_3 : decode b_Ref_reach 3 = .ok (.getfield 13, 3) := by decide +kernel
theorem d_Ref_reach_6 : decode b_Ref_reach 6 = .ok (.if_icmp .ge 7, 3) := by decide +kernel
theorem d_Ref_reach_9 : decode b_Ref_reach 9 = .ok (.iload_n 1, 1) := by decide +kernel
theorem d_Ref_reach_10 : decode b_Ref_reach 10 = .ok (.goto 7, 3) := by decide +kernel
theorem d_Ref_reach_13 : decode b_Ref_reach 13 = .ok (.aload_n 0, 1) := by decide +kernel
theorem d_Ref_reach_14 : decode b_Ref_reach 14 = .ok (.getfield 13, 3) := by decide +kernel
theorem d_Ref_reach_17 : decode b_Ref_reach 17 = .ok (.putfield 13, 3) := by decide +kernel
theorem d_Ref_reach_20 : decode b_Ref_reach 20 = .ok (.aload_n 0, 1) := by decide +kernel
theorem d_Ref_reach_21 : decode b_Ref_reach 21 = .ok (.iload_n 2, 1) := by decide +kernel
theorem d_Ref_reach_22 : decode b_Ref_reach 22 = .ok (.aload_n 0, 1) := by decide +kernel
theorem d_Ref_reach_23 : decode b_Ref_reach 23 = .ok (.getfield 17, 3) := by decide +kernel
theorem d_Ref_reach_26 : decode b_Ref_reach 26 = .ok (.if_icmp .le 7, 3) := by decide +kernel
theorem d_Ref_reach_29 : decode b_Ref_reach 29 = .ok (.iload_n 2, 1) := by decide +kernel
theorem d_Ref_reach_30 : decode b_Ref_reach 30 = .ok (.goto 7, 3) := by decide +kernel
theorem d_Ref_reach_33 : decode b_Ref_reach 33 = .ok (.aload_n 0, 1) := by decide +kernel
theorem d_Ref_reach_34 : decode b_Ref_reach 34 = .ok (.getfield 17, 3) := by decide +kernel
theorem d_Ref_reach_37 : decode b_Ref_reach 37 = .ok (.putfield 17, 3) := by decide +kernel
theorem d_Ref_reach_40 : decode b_Ref_reach 40 = .ok (.return_, 1) := by decide +kernel
abbrev b_Ref_rounded : ByteArray := prog_11_method_18_code
def y_Ref_rounded : MethodName := ⟨"BitArithmeticModel", "rounded", "(Z)J"⟩
theorem d_Ref_rounded_0 : decode b_Ref_rounded 0 = .ok (.aload_n 0, 1) := by decide +kernel
theorem d_Ref_rounded_1 : decode b_Ref_rounded 1 = .ok (.invokevirtual 64, 3) := by decide +kernel
theorem d_Ref_rounded_4 : decode b_Ref_rounded 4 = .ok (.istore_n 2, 1) := by decide +kernel
theorem d_Ref_rounded_5 : decode b_Ref_rounded 5 = .ok (.sipush 2201, 3) := by decide +kernel
theorem d_Ref_rounded_8 : decode b_Ref_rounded 8 = .ok (.aload_n 0, 1) := by decide +kernel
theorem d_Ref_rounded_9 : decode b_Ref_rounded 9 = .ok (.getfield 55, 3) := by decide +kernel
theorem d_Ref_rounded_12 : decode b_Ref_rounded 12 = .ok (.isub, 1) := by decide +kernel
theorem d_Ref_rounded_13 : decode b_Ref_rounded 13 = .ok (.aload_n 0, 1) := by decide +kernel
theorem d_Ref_rounded_14 : decode b_Ref_rounded 14 = .ok (.getfield 52, 3) := by decide +kernel
theorem d_Ref_rounded_17 : decode b_Ref_rounded 17 = .ok (.isub, 1) := by decide +kernel
theorem d_Ref_rounded_18 : decode b_Ref_rounded 18 = .ok (.istore_n 3, 1) := by decide +kernel
theorem d_Ref_rounded_19 : decode b_Ref_rounded 19 = .ok (.iload_n 2, 1) := by decide +kernel
theorem d_Ref_rounded_20 : decode b_Ref_rounded 20 = .ok (.aload_n 0, 1) := by decide +kernel
theorem d_Ref_rounded_21 : decode b_Ref_rounded 21 = .ok (.getfield 52, 3) := by decide +kernel
theorem d_Ref_rounded_24 : decode b_Ref_rounded 24 = .ok (.isub, 1) := by decide +kernel
theorem d_Ref_rounded_25 : decode b_Ref_rounded 25 = .ok (.iload_n 3, 1) := by decide +kernel
theorem d_Ref_rounded_26 : decode b_Ref_rounded 26 = .ok (.if_icmp .le 12, 3) := by decide +kernel
theorem d_Ref_rounded_29 : decode b_Ref_rounded 29 = .ok (.iload_n 2, 1) := by decide +kernel
theorem d_Ref_rounded_30 : decode b_Ref_rounded 30 = .ok (.aload_n 0, 1) := by decide +kernel
theorem d_Ref_rounded_31 : decode b_Ref_rounded 31 = .ok (.getfield 52, 3) := by decide +kernel
theorem d_Ref_rounded_34 : decode b_Ref_rounded 34 = .ok (.isub, 1) := by decide +kernel
theorem d_Ref_rounded_35 : decode b_Ref_rounded 35 = .ok (.goto 4, 3) := by decide +kernel
theorem d_Ref_rounded_38 : decode b_Ref_rounded 38 = .ok (.iload_n 3, 1) := by decide +kernel
theorem d_Ref_rounded_39 : decode b_Ref_rounded 39 = .ok (.istore 4, 2) := by decide +kernel
theorem d_Ref_rounded_41 : decode b_Ref_rounded 41 = .ok (.lconst 0, 1) := by decide +kernel
theorem d_Ref_rounded_42 : decode b_Ref_rounded 42 = .ok (.lstore 5, 2) := by decide +kernel
theorem d_Ref_rounded_44 : decode b_Ref_rounded 44 = .ok (.iload_n 2, 1) := by decide +kernel
theorem d_Ref_rounded_45 : decode b_Ref_rounded 45 = .ok (.istore 7, 2) := by decide +kernel
theorem d_Ref_rounded_47 : decode b_Ref_rounded 47 = .ok (.iload 7, 2) := by decide +kernel
theorem d_Ref_rounded_49 : decode b_Ref_rounded 49 = .ok (.iload 4, 2) := by decide +kernel
theorem d_Ref_rounded_51 : decode b_Ref_rounded 51 = .ok (.if_icmp .lt 26, 3) := by decide +kernel
theorem d_Ref_rounded_54 : decode b_Ref_rounded 54 = .ok (.ldc2_w 58, 3) := by decide +kernel
theorem d_Ref_rounded_57 : decode b_Ref_rounded 57 = .ok (.lload 5, 2) := by decide +kernel
theorem d_Ref_rounded_59 : decode b_Ref_rounded 59 = .ok (.lmul, 1) := by decide +kernel
theorem d_Ref_rounded_60 : decode b_Ref_rounded 60 = .ok (.aload_n 0, 1) := by decide +kernel
theorem d_Ref_rounded_61 : decode b_Ref_rounded 61 = .ok (.getfield 7, 3) := by decide +kernel
theorem d_Ref_rounded_64 : decode b_Ref_rounded 64 = .ok (.iload 7, 2) := by decide +kernel
theorem d_Ref_rounded_66 : decode b_Ref_rounded 66 = .ok (.baload, 1) := by decide +kernel
theorem d_Ref_rounded_67 : decode b_Ref_rounded 67 = .ok (.i2l, 1) := by decide +kernel
theorem d_Ref_rounded_68 : decode b_Ref_rounded 68 = .ok (.ladd, 1) := by decide +kernel
theorem d_Ref_rounded_69 : decode b_Ref_rounded 69 = .ok (.lstore 5, 2) := by decide +kernel
theorem d_Ref_rounded_71 : decode b_Ref_rounded 71 = .ok (.iinc 7 (-1), 3) := by decide +kernel
theorem d_Ref_rounded_74 : decode b_Ref_rounded 74 = .ok (.goto (-27), 3) := by decide +kernel
theorem d_Ref_rounded_77 : decode b_Ref_rounded 77 = .ok (.iload 4, 2) := by decide +kernel
theorem d_Ref_rounded_79 : decode b_Ref_rounded 79 = .ok (.ifCond .le 41, 3) := by decide +kernel
theorem d_Ref_rounded_82 : decode b_Ref_rounded 82 = .ok (.iload 4, 2) := by decide +kernel
theorem d_Ref_rounded_84 : decode b_Ref_rounded 84 = .ok (.iconst 1, 1) := by decide +kernel
theorem d_Ref_rounded_85 : decode b_Ref_rounded 85 = .ok (.isub, 1) := by decide +kernel
theorem d_Ref_rounded_86 : decode b_Ref_rounded 86 = .ok (.aload_n 0, 1) := by decide +kernel
theorem d_Ref_rounded_87 : decode b_Ref_rounded 87 = .ok (.getfield 17, 3) := by decide +kernel
theorem d_Ref_rounded_90 : decode b_Ref_rounded 90 = .ok (.if_icmp .gt 30, 3) := by decide +kernel
theorem d_Ref_rounded_93 : decode b_Ref_rounded 93 = .ok (.iload 4, 2) := by decide +kernel
theorem d_Ref_rounded_95 : decode b_Ref_rounded 95 = .ok (.iconst 1, 1) := by decide +kernel
theorem d_Ref_rounded_96 : decode b_Ref_rounded 96 = .ok (.isub, 1) := by decide +kernel
theorem d_Ref_rounded_97 : decode b_Ref_rounded 97 = .ok (.aload_n 0, 1) := by decide +kernel
theorem d_Ref_rounded_98 : decode b_Ref_rounded 98 = .ok (.getfield 13, 3) := by decide +kernel
theorem d_Ref_rounded_101 : decode b_Ref_rounded 101 = .ok (.if_icmp .lt 19, 3) := by decide +kernel
theorem d_Ref_rounded_104 : decode b_Ref_rounded 104 = .ok (.aload_n 0, 1) := by decide +kernel
theorem d_Ref_rounded_105 : decode b_Ref_rounded 105 = .ok (.getfield 7, 3) := by decide +kernel
theorem d_Ref_rounded_108 : decode b_Ref_rounded 108 = .ok (.iload 4, 2) := by decide +kernel
theorem d_Ref_rounded_110 : decode b_Ref_rounded 110 = .ok (.iconst 1, 1) := by decide +kernel
theorem d_Ref_rounded_111 : decode b_Ref_rounded 111 = .ok (.isub, 1) := by decide +kernel
theorem d_Ref_rounded_112 : decode b_Ref_rounded 112 = .ok (.baload, 1) := by decide +kernel
theorem d_Ref_rounded_113 : decode b_Ref_rounded 113 = .ok (.ifCond .eq 7, 3) := by decide +kernel
theorem d_Ref_rounded_116 : decode b_Ref_rounded 116 = .ok (.iconst 1, 1) := by decide +kernel
theorem d_Ref_rounded_117 : decode b_Ref_rounded 117 = .ok (.goto 4, 3) := by decide +kernel
theorem d_Ref_rounded_120 : decode b_Ref_rounded 120 = .ok (.iconst 0, 1) := by decide +kernel
theorem d_Ref_rounded_121 : decode b_Ref_rounded 121 = .ok (.istore 7, 2) := by decide +kernel
theorem d_Ref_rounded_123 : decode b_Ref_rounded 123 = .ok (.iload 7, 2) := by decide +kernel
theorem d_Ref_rounded_125 : decode b_Ref_rounded 125 = .ok (.ifCond .eq 27, 3) := by decide +kernel
theorem d_Ref_rounded_128 : decode b_Ref_rounded 128 = .ok (.aload_n 0, 1) := by decide +kernel
theorem d_Ref_rounded_129 : decode b_Ref_rounded 129 = .ok (.iload 4, 2) := by decide +kernel
theorem d_Ref_rounded_131 : decode b_Ref_rounded 131 = .ok (.iconst 1, 1) := by decide +kernel
theorem d_Ref_rounded_132 : decode b_Ref_rounded 132 = .ok (.isub, 1) := by decide +kernel
theorem d_Ref_rounded_133 : decode b_Ref_rounded 133 = .ok (.invokevirtual 68, 3) := by decide +kernel
theorem d_Ref_rounded_136 : decode b_Ref_rounded 136 = .ok (.ifCond .ne 12, 3) := by decide +kernel
theorem d_Ref_rounded_139 : decode b_Ref_rounded 139 = .ok (.lload 5, 2) := by decide +kernel
theorem d_Ref_rounded_141 : decode b_Ref_rounded 141 = .ok (.lconst 1, 1) := by decide +kernel
theorem d_Ref_rounded_142 : decode b_Ref_rounded 142 = .ok (.land, 1) := by decide +kernel
theorem d_Ref_rounded_143 : decode b_Ref_rounded 143 = .ok (.lconst 1, 1) := by decide +kernel
theorem d_Ref_rounded_144 : decode b_Ref_rounded 144 = .ok (.lcmp, 1) := by decide +kernel
theorem d_Ref_rounded_145 : decode b_Ref_rounded 145 = .ok (.ifCond .ne 7, 3) := by decide +kernel
theorem d_Ref_rounded_148 : decode b_Ref_rounded 148 = .ok (.iconst 1, 1) := by decide +kernel
theorem d_Ref_rounded_149 : decode b_Ref_rounded 149 = .ok (.goto 4, 3) := by decide +kernel
theorem d_Ref_rounded_152 : decode b_Ref_rounded 152 = .ok (.iconst 0, 1) := by decide +kernel
theorem d_Ref_rounded_153 : decode b_Ref_rounded 153 = .ok (.istore 8, 2) := by decide +kernel
theorem d_Ref_rounded_155 : decode b_Ref_rounded 155 = .ok (.iload 8, 2) := by decide +kernel
theorem d_Ref_rounded_157 : decode b_Ref_rounded 157 = .ok (.ifCond .eq 10, 3) := by decide +kernel
theorem d_Ref_rounded_160 : decode b_Ref_rounded 160 = .ok (.lload 5, 2) := by decide +kernel
theorem d_Ref_rounded_162 : decode b_Ref_rounded 162 = .ok (.lconst 1, 1) := by decide +kernel
theorem d_Ref_rounded_163 : decode b_Ref_rounded 163 = .ok (.ladd, 1) := by decide +kernel
theorem d_Ref_rounded_164 : decode b_Ref_rounded 164 = .ok (.goto 5, 3) := by decide +kernel
theorem d_Ref_rounded_167 : decode b_Ref_rounded 167 = .ok (.lload 5, 2) := by decide +kernel
theorem d_Ref_rounded_169 : decode b_Ref_rounded 169 = .ok (.lstore 5, 2) := by decide +kernel
theorem d_Ref_rounded_171 : decode b_Ref_rounded 171 = .ok (.iload 4, 2) := by decide +kernel
theorem d_Ref_rounded_173 : decode b_Ref_rounded 173 = .ok (.iload_n 3, 1) := by decide +kernel
theorem d_Ref_rounded_174 : decode b_Ref_rounded 174 = .ok (.isub, 1) := by decide +kernel
theorem d_Ref_rounded_175 : decode b_Ref_rounded 175 = .ok (.istore 9, 2) := by decide +kernel
theorem d_Ref_rounded_177 : decode b_Ref_rounded 177 = .ok (.lload 5, 2) := by decide +kernel
theorem d_Ref_rounded_179 : decode b_Ref_rounded 179 = .ok (.aload_n 0, 1) := by decide +kernel
theorem d_Ref_rounded_180 : decode b_Ref_rounded 180 = .ok (.getfield 52, 3) := by decide +kernel
theorem d_Ref_rounded_183 : decode b_Ref_rounded 183 = .ok (.lshr, 1) := by decide +kernel
theorem d_Ref_rounded_184 : decode b_Ref_rounded 184 = .ok (.ldc2_w 58, 3) := by decide +kernel
theorem d_Ref_rounded_187 : decode b_Ref_rounded 187 = .ok (.lcmp, 1) := by decide +kernel
theorem d_Ref_rounded_188 : decode b_Ref_rounded 188 = .ok (.ifCond .ne 12, 3) := by decide +kernel
theorem d_Ref_rounded_191 : decode b_Ref_rounded 191 = .ok (.lload 5, 2) := by decide +kernel
theorem d_Ref_rounded_193 : decode b_Ref_rounded 193 = .ok (.iconst 1, 1) := by decide +kernel
theorem d_Ref_rounded_194 : decode b_Ref_rounded 194 = .ok (.lshr, 1) := by decide +kernel
theorem d_Ref_rounded_195 : decode b_Ref_rounded 195 = .ok (.lstore 5, 2) := by decide +kernel
theorem d_Ref_rounded_197 : decode b_Ref_rounded 197 = .ok (.iinc 9 1, 3) := by decide +kernel
theorem d_Ref_rounded_200 : decode b_Ref_rounded 200 = .ok (.lload 5, 2) := by decide +kernel
theorem d_Ref_rounded_202 : decode b_Ref_rounded 202 = .ok (.aload_n 0, 1) := by decide +kernel
theorem d_Ref_rounded_203 : decode b_Ref_rounded 203 = .ok (.getfield 52, 3) := by decide +kernel
theorem d_Ref_rounded_206 : decode b_Ref_rounded 206 = .ok (.lshr, 1) := by decide +kernel
theorem d_Ref_rounded_207 : decode b_Ref_rounded 207 = .ok (.lconst 0, 1) := by decide +kernel
theorem d_Ref_rounded_208 : decode b_Ref_rounded 208 = .ok (.lcmp, 1) := by decide +kernel
theorem d_Ref_rounded_209 : decode b_Ref_rounded 209 = .ok (.ifCond .ne 11, 3) := by decide +kernel
theorem d_Ref_rounded_212 : decode b_Ref_rounded 212 = .ok (.aload_n 0, 1) := by decide +kernel
theorem d_Ref_rounded_213 : decode b_Ref_rounded 213 = .ok (.lload 5, 2) := by decide +kernel
theorem d_Ref_rounded_215 : decode b_Ref_rounded 215 = .ok (.iload_n 1, 1) := by decide +kernel
theorem d_Ref_rounded_216 : decode b_Ref_rounded 216 = .ok (.invokevirtual 60, 3) := by decide +kernel
theorem d_Ref_rounded_219 : decode b_Ref_rounded 219 = .ok (.lreturn, 1) := by decide +kernel
theorem d_Ref_rounded_220 : decode b_Ref_rounded 220 = .ok (.iload 9, 2) := by decide +kernel
theorem d_Ref_rounded_222 : decode b_Ref_rounded 222 = .ok (.iconst 1, 1) := by decide +kernel
theorem d_Ref_rounded_223 : decode b_Ref_rounded 223 = .ok (.iadd, 1) := by decide +kernel
theorem d_Ref_rounded_224 : decode b_Ref_rounded 224 = .ok (.iconst 2, 1) := by decide +kernel
theorem d_Ref_rounded_225 : decode b_Ref_rounded 225 = .ok (.aload_n 0, 1) := by decide +kernel
theorem d_Ref_rounded_226 : decode b_Ref_rounded 226 = .ok (.getfield 55, 3) := by decide +kernel
theorem d_Ref_rounded_229 : decode b_Ref_rounded 229 = .ok (.imul, 1) := by decide +kernel
theorem d_Ref_rounded_230 : decode b_Ref_rounded 230 = .ok (.if_icmp .le 11, 3) := by decide +kernel
theorem d_Ref_rounded_233 : decode b_Ref_rounded 233 = .ok (.aload_n 0, 1) := by decide +kernel
theorem d_Ref_rounded_234 : decode b_Ref_rounded 234 = .ok (.iload_n 1, 1) := by decide +kernel
theorem d_Ref_rounded_235 : decode b_Ref_rounded 235 = .ok (.invokevirtual 72, 3) := by decide +kernel
theorem d_Ref_rounded_238 : decode b_Ref_rounded 238 = .ok (.goto 30, 3) := by decide +kernel
theorem d_Ref_rounded_241 : decode b_Ref_rounded 241 = .ok (.aload_n 0, 1) := by decide +kernel
theorem d_Ref_rounded_242 : decode b_Ref_rounded 242 = .ok (.iload 9, 2) := by decide +kernel
theorem d_Ref_rounded_244 : decode b_Ref_rounded 244 = .ok (.iconst 1, 1) := by decide +kernel
theorem d_Ref_rounded_245 : decode b_Ref_rounded 245 = .ok (.iadd, 1) := by decide +kernel
theorem d_Ref_rounded_246 : decode b_Ref_rounded 246 = .ok (.i2l, 1) := by decide +kernel
theorem d_Ref_rounded_247 : decode b_Ref_rounded 247 = .ok (.aload_n 0, 1) := by decide +kernel
theorem d_Ref_rounded_248 : decode b_Ref_rounded 248 = .ok (.getfield 52, 3) := by decide +kernel
theorem d_Ref_rounded_251 : decode b_Ref_rounded 251 = .ok (.lshl, 1) := by decide +kernel
theorem d_Ref_rounded_252 : decode b_Ref_rounded 252 = .ok (.lload 5, 2) := by decide +kernel
theorem d_Ref_rounded_254 : decode b_Ref_rounded 254 = .ok (.lconst 1, 1) := by decide +kernel
theorem d_Ref_rounded_255 : decode b_Ref_rounded 255 = .ok (.aload_n 0, 1) := by decide +kernel
theorem d_Ref_rounded_256 : decode b_Ref_rounded 256 = .ok (.getfield 52, 3) := by decide +kernel
theorem d_Ref_rounded_259 : decode b_Ref_rounded 259 = .ok (.lshl, 1) := by decide +kernel
theorem d_Ref_rounded_260 : decode b_Ref_rounded 260 = .ok (.lconst 1, 1) := by decide +kernel
theorem d_Ref_rounded_261 : decode b_Ref_rounded 261 = .ok (.lsub, 1) := by decide +kernel
theorem d_Ref_rounded_262 : decode b_Ref_rounded 262 = .ok (.land, 1) := by decide +kernel
theorem d_Ref_rounded_263 : decode b_Ref_rounded 263 = .ok (.lor, 1) := by decide +kernel
theorem d_Ref_rounded_264 : decode b_Ref_rounded 264 = .ok (.iload_n 1, 1) := by decide +kernel
theorem d_Ref_rounded_265 : decode b_Ref_rounded 265 = .ok (.invokevirtual 60, 3) := by decide +kernel
theorem d_Ref_rounded_268 : decode b_Ref_rounded 268 = .ok (.lreturn, 1) := by decide +kernel
abbrev b_Ref_highest : ByteArray := prog_11_method_13_code
def y_Ref_highest : MethodName := ⟨"BitArithmeticModel", "highest", "()I"⟩
theorem d_Ref_highest_0 : decode b_Ref_highest 0 = .ok (.aload_n 0, 1) := by decide +kernel
theorem d_Ref_highest_1 : decode b_Ref_highest 1 = .ok (.getfield 17, 3) := by decide +kernel
theorem d_Ref_highest_4 : decode b_Ref_highest 4 = .ok (.istore_n 1, 1) := by decide +kernel
theorem d_Ref_highest_5 : decode b_Ref_highest 5 = .ok (.iload_n 1, 1) := by decide +kernel
theorem d_Ref_highest_6 : decode b_Ref_highest 6 = .ok (.aload_n 0, 1) := by decide +kernel
theorem d_Ref_highest_7 : decode b_Ref_highest 7 = .ok (.getfield 13, 3) := by decide +kernel
theorem d_Ref_highest_10 : decode b_Ref_highest 10 = .ok (.if_icmp .lt 18, 3) := by decide +kernel
theorem d_Ref_highest_13 : decode b_Ref_highest 13 = .ok (.aload_n 0, 1) := by decide +kernel
theorem d_Ref_highest_14 : decode b_Ref_highest 14 = .ok (.getfield 7, 3) := by decide +kernel
theorem d_Ref_highest_17 : decode b_Ref_highest 17 = .ok (.iload_n 1, 1) := by decide +kernel
theorem d_Ref_highest_18 : decode b_Ref_highest 18 = .ok (.baload, 1) := by decide +kernel
theorem d_Ref_highest_19 : decode b_Ref_highest 19 = .ok (.ifCond .ne 9, 3) := by decide +kernel
theorem d_Ref_highest_22 : decode b_Ref_highest 22 = .ok (.iinc 1 (-1), 3) := by decide +kernel
theorem d_Ref_highest_25 : decode b_Ref_highest 25 = .ok (.goto (-20), 3) := by decide +kernel
theorem d_Ref_highest_28 : decode b_Ref_highest 28 = .ok (.iload_n 1, 1) := by decide +kernel
theorem d_Ref_highest_29 : decode b_Ref_highest 29 = .ok (.aload_n 0, 1) := by decide +kernel
theorem d_Ref_highest_30 : decode b_Ref_highest 30 = .ok (.getfield 13, 3) := by decide +kernel
theorem d_Ref_highest_33 : decode b_Ref_highest 33 = .ok (.if_icmp .lt 7, 3) := by decide +kernel
theorem d_Ref_highest_36 : decode b_Ref_highest 36 = .ok (.iload_n 1, 1) := by decide +kernel
theorem d_Ref_highest_37 : decode b_Ref_highest 37 = .ok (.goto 4, 3) := by decide +kernel
theorem d_Ref_highest_40 : decode b_Ref_highest 40 = .ok (.iconst (-1), 1) := by decide +kernel
theorem d_Ref_highest_41 : decode b_Ref_highest 41 = .ok (.ireturn, 1) := by decide +kernel
abbrev b_Ref_isBelow : ByteArray := prog_11_method_14_code
def y_Ref_isBelow : MethodName := ⟨"BitArithmeticModel", "isBelow", "(I)Z"⟩
theorem d_Ref_isBelow_0 : decode b_Ref_isBelow 0 = .ok (.aload_n 0, 1) := by decide +kernel
theorem d_Ref_isBelow_1 : decode b_Ref_isBelow 1 = .ok (.getfield 41, 3) := by decide +kernel
theorem d_Ref_isBelow_4 : decode b_Ref_isBelow 4 = .ok (.istore_n 2, 1) := by decide +kernel
theorem d_Ref_isBelow_5 : decode b_Ref_isBelow 5 = .ok (.aload_n 0, 1) := by decide +kernel
theorem d_Ref_isBelow_6 : decode b_Ref_isBelow 6 = .ok (.getfield 13, 3) := by decide +kernel
theorem d_Ref_isBelow_9 : decode b_Ref_isBelow 9 = .ok (.istore_n 3, 1) := by decide +kernel
theorem d_Ref_isBelow_10 : decode b_Ref_isBelow 10 = .ok (.iload_n 3, 1) := by decide +kernel
theorem d_Ref_isBelow_11 : decode b_Ref_isBelow 11 = .ok (.iload_n 1, 1) := by decide +kernel
theorem d_Ref_isBelow_12 : decode b_Ref_isBelow 12 = .ok (.if_icmp .ge 36, 3) := by decide +kernel
theorem d_Ref_isBelow_15 : decode b_Ref_isBelow 15 = .ok (.iload_n 3, 1) := by decide +kernel
theorem d_Ref_isBelow_16 : decode b_Ref_isBelow 16 = .ok (.aload_n 0, 1) := by decide +kernel
theorem d_Ref_isBelow_17 : decode b_Ref_isBelow 17 = .ok (.getfield 17, 3) := by decide +kernel
theorem d_Ref_isBelow_20 : decode b_Ref_isBelow 20 = .ok (.if_icmp .gt 28, 3) := by decide +kernel
theorem d_Ref_isBelow_23 : decode b_Ref_isBelow 23 = .ok (.iload_n 2, 1) := by decide +kernel
theorem d_Ref_isBelow_24 : decode b_Ref_isBelow 24 = .ok (.ifCond .ne 12, 3) := by decide +kernel
theorem d_Ref_isBelow_27 : decode b_Ref_isBelow 27 = .ok (.aload_n 0, 1) := by decide +kernel
theorem d_Ref_isBelow_28 : decode b_Ref_isBelow 28 = .ok (.getfield 7, 3) := by decide +kernel
theorem d_Ref_isBelow_31 : decode b_Ref_isBelow 31 = .ok (.iload_n 3, 1) := by decide +kernel
theorem d_Ref_isBelow_32 : decode b_Ref_isBelow 32 = .ok (.baload, 1) := by decide +kernel
theorem d_Ref_isBelow_33 : decode b_Ref_isBelow 33 = .ok (.ifCond .eq 7, 3) := by decide +kernel
theorem d_Ref_isBelow_36 : decode b_Ref_isBelow 36 = .ok (.iconst 1, 1) := by decide +kernel
theorem d_Ref_isBelow_37 : decode b_Ref_isBelow 37 = .ok (.goto 4, 3) := by decide +kernel
theorem d_Ref_isBelow_40 : decode b_Ref_isBelow 40 = .ok (.iconst 0, 1) := by decide +kernel
theorem d_Ref_isBelow_41 : decode b_Ref_isBelow 41 = .ok (.istore_n 2, 1) := by decide +kernel
theorem d_Ref_isBelow_42 : decode b_Ref_isBelow 42 = .ok (.iinc 3 1, 3) := by decide +kernel
theorem d_Ref_isBelow_45 : decode b_Ref_isBelow 45 = .ok (.goto (-35), 3) := by decide +kernel
theorem d_Ref_isBelow_48 : decode b_Ref_isBelow 48 = .ok (.iload_n 2, 1) := by decide +kernel
theorem d_Ref_isBelow_49 : decode b_Ref_isBelow 49 = .ok (.ireturn, 1) := by decide +kernel
abbrev b_Ref_reformed : ByteArray := prog_11_method_46_code
def y_Ref_reformed : MethodName := ⟨"BitArithmeticModel", "reformed", "(JI)J"⟩
theorem d_Ref_reformed_0 : decode b_Ref_reformed 0 = .ok (.aload_n 0, 1) := by decide +kernel
theorem d_Ref_reformed_1 : decode b_Ref_reformed 1 = .ok (.lload_n 1, 1) := by decide +kernel
theorem d_Ref_reformed_2 : decode b_Ref_reformed 2 = .ok (.invokevirtual 97, 3) := by decide +kernel
theorem d_Ref_reformed_5 : decode b_Ref_reformed 5 = .ok (.istore 4, 2) := by decide +kernel
theorem d_Ref_reformed_7 : decode b_Ref_reformed 7 = .ok (.aload_n 0, 1) := by decide +kernel
theorem d_Ref_reformed_8 : decode b_Ref_reformed 8 = .ok (.lload_n 1, 1) := by decide +kernel
theorem d_Ref_reformed_9 : decode b_Ref_reformed 9 = .ok (.invokevirtual 104, 3) := by decide +kernel
theorem d_Ref_reformed_12 : decode b_Ref_reformed 12 = .ok (.istore 5, 2) := by decide +kernel
theorem d_Ref_reformed_14 : decode b_Ref_reformed 14 = .ok (.aload_n 0, 1) := by decide +kernel
theorem d_Ref_reformed_15 : decode b_Ref_reformed 15 = .ok (.lload_n 1, 1) := by decide +kernel
theorem d_Ref_reformed_16 : decode b_Ref_reformed 16 = .ok (.invokevirtual 111, 3) := by decide +kernel
theorem d_Ref_reformed_19 : decode b_Ref_reformed 19 = .ok (.istore 6, 2) := by decide +kernel
theorem d_Ref_reformed_21 : decode b_Ref_reformed 21 = .ok (.aload_n 0, 1) := by decide +kernel
theorem d_Ref_reformed_22 : decode b_Ref_reformed 22 = .ok (.lload_n 1, 1) := by decide +kernel
theorem d_Ref_reformed_23 : decode b_Ref_reformed 23 = .ok (.invokevirtual 84, 3) := by decide +kernel
theorem d_Ref_reformed_26 : decode b_Ref_reformed 26 = .ok (.istore 7, 2) := by decide +kernel
theorem d_Ref_reformed_28 : decode b_Ref_reformed 28 = .ok (.iload 4, 2) := by decide +kernel
theorem d_Ref_reformed_30 : decode b_Ref_reformed 30 = .ok (.ifCond .ne 18, 3) := by decide +kernel
theorem d_Ref_reformed_33 : decode b_Ref_reformed 33 = .ok (.iload 5, 2) := by decide +kernel
theorem d_Ref_reformed_35 : decode b_Ref_reformed 35 = .ok (.ifCond .ne 13, 3) := by decide +kernel
theorem d_Ref_reformed_38 : decode b_Ref_reformed 38 = .ok (.iload 6, 2) := by decide +kernel
theorem d_Ref_reformed_40 : decode b_Ref_reformed 40 = .ok (.ifCond .ne 8, 3) := by decide +kernel
theorem d_Ref_reformed_43 : decode b_Ref_reformed 43 = .ok (.aload_n 0, 1) := by decide +kernel
theorem d_Ref_reformed_44 : decode b_Ref_reformed 44 = .ok (.lload_n 1, 1) := by decide +kernel
theorem d_Ref_reformed_45 : decode b_Ref_reformed 45 = .ok (.invokevirtual 117, 3) := by decide +kernel
theorem d_Ref_reformed_48 : decode b_Ref_reformed 48 = .ok (.aload_n 0, 1) := by decide +kernel
theorem d_Ref_reformed_49 : decode b_Ref_reformed 49 = .ok (.iload_n 3, 1) := by decide +kernel
theorem d_Ref_reformed_50 : decode b_Ref_reformed 50 = .ok (.invokevirtual 190, 3) := by decide +kernel
theorem d_Ref_reformed_53 : decode b_Ref_reformed 53 = .ok (.iload 4, 2) := by decide +kernel
theorem d_Ref_reformed_55 : decode b_Ref_reformed 55 = .ok (.ifCond .eq 8, 3) := by decide +kernel
theorem d_Ref_reformed_58 : decode b_Ref_reformed 58 = .ok (.aload_n 0, 1) := by decide +kernel
theorem d_Ref_reformed_59 : decode b_Ref_reformed 59 = .ok (.invokevirtual 107, 3) := by decide +kernel
theorem d_Ref_reformed_62 : decode b_Ref_reformed 62 = .ok (.lreturn, 1) := by decide +kernel
theorem d_Ref_reformed_63 : decode b_Ref_reformed 63 = .ok (.iload 5, 2) := by decide +kernel
theorem d_Ref_reformed_65 : decode b_Ref_reformed 65 = .ok (.ifCond .ne 8, 3) := by decide +kernel
theorem d_Ref_reformed_68 : decode b_Ref_reformed 68 = .ok (.iload 6, 2) := by decide +kernel
theorem d_Ref_reformed_70 : decode b_Ref_reformed 70 = .ok (.ifCond .eq 25, 3) := by decide +kernel
theorem d_Ref_reformed_73 : decode b_Ref_reformed 73 = .ok (.iload 5, 2) := by decide +kernel
theorem d_Ref_reformed_75 : decode b_Ref_reformed 75 = .ok (.ifCond .eq 12, 3) := by decide +kernel
theorem d_Ref_reformed_78 : decode b_Ref_reformed 78 = .ok (.aload_n 0, 1) := by decide +kernel
theorem d_Ref_reformed_79 : decode b_Ref_reformed 79 = .ok (.iload 7, 2) := by decide +kernel
theorem d_Ref_reformed_81 : decode b_Ref_reformed 81 = .ok (.invokevirtual 72, 3) := by decide +kernel
theorem d_Ref_reformed_84 : decode b_Ref_reformed 84 = .ok (.goto 10, 3) := by decide +kernel
theorem d_Ref_reformed_87 : decode b_Ref_reformed 87 = .ok (.aload_n 0, 1) := by decide +kernel
theorem d_Ref_reformed_88 : decode b_Ref_reformed 88 = .ok (.lconst 0, 1) := by decide +kernel
theorem d_Ref_reformed_89 : decode b_Ref_reformed 89 = .ok (.iload 7, 2) := by decide +kernel
theorem d_Ref_reformed_91 : decode b_Ref_reformed 91 = .ok (.invokevirtual 60, 3) := by decide +kernel
theorem d_Ref_reformed_94 : decode b_Ref_reformed 94 = .ok (.lreturn, 1) := by decide +kernel
theorem d_Ref_reformed_95 : decode b_Ref_reformed 95 = .ok (.aload_n 0, 1) := by decide +kernel
theorem d_Ref_reformed_96 : decode b_Ref_reformed 96 = .ok (.invokevirtual 114, 3) := by decide +kernel
theorem d_Ref_reformed_99 : decode b_Ref_reformed 99 = .ok (.aload_n 0, 1) := by decide +kernel
theorem d_Ref_reformed_100 : decode b_Ref_reformed 100 = .ok (.aload_n 0, 1) := by decide +kernel
theorem d_Ref_reformed_101 : decode b_Ref_reformed 101 = .ok (.getfield 91, 3) := by decide +kernel
theorem d_Ref_reformed_104 : decode b_Ref_reformed 104 = .ok (.aload_n 0, 1) := by decide +kernel
theorem d_Ref_reformed_105 : decode b_Ref_reformed 105 = .ok (.getfield 94, 3) := by decide +kernel
theorem d_Ref_reformed_108 : decode b_Ref_reformed 108 = .ok (.invokevirtual 121, 3) := by decide +kernel
theorem d_Ref_reformed_111 : decode b_Ref_reformed 111 = .ok (.aload_n 0, 1) := by decide +kernel
theorem d_Ref_reformed_112 : decode b_Ref_reformed 112 = .ok (.iload 7, 2) := by decide +kernel
theorem d_Ref_reformed_114 : decode b_Ref_reformed 114 = .ok (.invokevirtual 128, 3) := by decide +kernel
theorem d_Ref_reformed_117 : decode b_Ref_reformed 117 = .ok (.lreturn, 1) := by decide +kernel
abbrev b_Ref_isZero : ByteArray := prog_11_method_24_code
def y_Ref_isZero : MethodName := ⟨"BitArithmeticModel", "isZero", "(J)Z"⟩
theorem d_Ref_isZero_0 : decode b_Ref_isZero 0 = .ok (.aload_n 0, 1) := by decide +kernel
theorem d_Ref_isZero_1 : decode b_Ref_isZero 1 = .ok (.lload_n 1, 1) := by decide +kernel
theorem d_Ref_isZero_2 : decode b_Ref_isZero 2 = .ok (.invokevirtual 80, 3) := by decide +kernel
theorem d_Ref_isZero_5 : decode b_Ref_isZero 5 = .ok (.lconst 0, 1) := by decide +kernel
theorem d_Ref_isZero_6 : decode b_Ref_isZero 6 = .ok (.lcmp, 1) := by decide +kernel
theorem d_Ref_isZero_7 : decode b_Ref_isZero 7 = .ok (.ifCond .ne 7, 3) := by decide +kernel
theorem d_Ref_isZero_10 : decode b_Ref_isZero 10 = .ok (.iconst 1, 1) := by decide +kernel
theorem d_Ref_isZero_11 : decode b_Ref_isZero 11 = .ok (.goto 4, 3) := by decide +kernel
theorem d_Ref_isZero_14 : decode b_Ref_isZero 14 = .ok (.iconst 0, 1) := by decide +kernel
theorem d_Ref_isZero_15 : decode b_Ref_isZero 15 = .ok (.ireturn, 1) := by decide +kernel
abbrev b_Ref_noNumber : ByteArray := prog_11_method_19_code
def y_Ref_noNumber : MethodName := ⟨"BitArithmeticModel", "noNumber", "()J"⟩
theorem d_Ref_noNumber_0 : decode b_Ref_noNumber 0 = .ok (.aload_n 0, 1) := by decide +kernel
theorem d_Ref_noNumber_1 : decode b_Ref_noNumber 1 = .ok (.getfield 49, 3) := by decide +kernel
theorem d_Ref_noNumber_4 : decode b_Ref_noNumber 4 = .ok (.bipush 32, 2) := by decide +kernel
theorem d_Ref_noNumber_6 : decode b_Ref_noNumber 6 = .ok (.if_icmp .ne 9, 3) := by decide +kernel
theorem d_Ref_noNumber_9 : decode b_Ref_noNumber 9 = .ok (.ldc2_w 76, 3) := by decide +kernel
theorem d_Ref_noNumber_12 : decode b_Ref_noNumber 12 = .ok (.goto 6, 3) := by decide +kernel
theorem d_Ref_noNumber_15 : decode b_Ref_noNumber 15 = .ok (.ldc2_w 78, 3) := by decide +kernel
theorem d_Ref_noNumber_18 : decode b_Ref_noNumber 18 = .ok (.lreturn, 1) := by decide +kernel
abbrev b_Ref_floated : ByteArray := prog_11_method_34_code
def y_Ref_floated : MethodName := ⟨"BitArithmeticModel", "floated", "(IJJ)J"⟩
theorem d_Ref_floated_0 : decode b_Ref_floated 0 = .ok (.iload_n 1, 1) := by decide +kernel
theorem d_Ref_floated_1 : decode b_Ref_floated 1 = .ok (.lookupswitch 68 #[(0, 35), (1, 41), (13, 52)], 35) := by decide +kernel
theorem d_Ref_floated_36 : decode b_Ref_floated 36 = .ok (.aload_n 0, 1) := by decide +kernel
theorem d_Ref_floated_37 : decode b_Ref_floated 37 = .ok (.lload_n 2, 1) := by decide +kernel
theorem d_Ref_floated_38 : decode b_Ref_floated 38 = .ok (.invokevirtual 80, 3) := by decide +kernel
theorem d_Ref_floated_41 : decode b_Ref_floated 41 = .ok (.lreturn, 1) := by decide +kernel
theorem d_Ref_floated_42 : decode b_Ref_floated 42 = .ok (.lload_n 2, 1) := by decide +kernel
theorem d_Ref_floated_43 : decode b_Ref_floated 43 = .ok (.lconst 1, 1) := by decide +kernel
theorem d_Ref_floated_44 : decode b_Ref_floated 44 = .ok (.aload_n 0, 1) := by decide +kernel
theorem d_Ref_floated_45 : decode b_Ref_floated 45 = .ok (.getfield 49, 3) := by decide +kernel
theorem d_Ref_floated_48 : decode b_Ref_floated 48 = .ok (.iconst 1, 1) := by decide +kernel
theorem d_Ref_floated_49 : decode b_Ref_floated 49 = .ok (.isub, 1) := by decide +kernel
theorem d_Ref_floated_50 : decode b_Ref_floated 50 = .ok (.lshl, 1) := by decide +kernel
theorem d_Ref_floated_51 : decode b_Ref_floated 51 = .ok (.lxor, 1) := by decide +kernel
theorem d_Ref_floated_52 : decode b_Ref_floated 52 = .ok (.lreturn, 1) := by decide +kernel
theorem d_Ref_floated_53 : decode b_Ref_floated 53 = .ok (.aload_n 0, 1) := by decide +kernel
theorem d_Ref_floated_54 : decode b_Ref_floated 54 = .ok (.aload_n 0, 1) := by decide +kernel
theorem d_Ref_floated_55 : decode b_Ref_floated 55 = .ok (.lload_n 2, 1) := by decide +kernel
theorem d_Ref_floated_56 : decode b_Ref_floated 56 = .ok (.invokevirtual 80, 3) := by decide +kernel
theorem d_Ref_floated_59 : decode b_Ref_floated 59 = .ok (.aload_n 0, 1) := by decide +kernel
theorem d_Ref_floated_60 : decode b_Ref_floated 60 = .ok (.lload 4, 2) := by decide +kernel
theorem d_Ref_floated_62 : decode b_Ref_floated 62 = .ok (.invokevirtual 84, 3) := by decide +kernel
theorem d_Ref_floated_65 : decode b_Ref_floated 65 = .ok (.invokevirtual 60, 3) := by decide +kernel
theorem d_Ref_floated_68 : decode b_Ref_floated 68 = .ok (.lreturn, 1) := by decide +kernel
theorem d_Ref_floated_69 : decode b_Ref_floated 69 = .ok (.aload_n 0, 1) := by decide +kernel
theorem d_Ref_floated_70 : decode b_Ref_floated 70 = .ok (.lload_n 2, 1) := by decide +kernel
theorem d_Ref_floated_71 : decode b_Ref_floated 71 = .ok (.invokevirtual 97, 3) := by decide +kernel
theorem d_Ref_floated_74 : decode b_Ref_floated 74 = .ok (.ifCond .ne 18, 3) := by decide +kernel
theorem d_Ref_floated_77 : decode b_Ref_floated 77 = .ok (.iload_n 1, 1) := by decide +kernel
theorem d_Ref_floated_78 : decode b_Ref_floated 78 = .ok (.bipush 6, 2) := by decide +kernel
theorem d_Ref_floated_80 : decode b_Ref_floated 80 = .ok (.if_icmp .le 17, 3) := by decide +kernel
theorem d_Ref_floated_83 : decode b_Ref_floated 83 = .ok (.aload_n 0, 1) := by decide +kernel
theorem d_Ref_floated_84 : decode b_Ref_floated 84 = .ok (.lload 4, 2) := by decide +kernel
theorem d_Ref_floated_86 : decode b_Ref_floated 86 = .ok (.invokevirtual 97, 3) := by decide +kernel
theorem d_Ref_floated_89 : decode b_Ref_floated 89 = .ok (.ifCond .eq 8, 3) := by decide +kernel
theorem d_Ref_floated_92 : decode b_Ref_floated 92 = .ok (.aload_n 0, 1) := by decide +kernel
theorem d_Ref_floated_93 : decode b_Ref_floated 93 = .ok (.invokevirtual 107, 3) := by decide +kernel
theorem d_Ref_floated_96 : decode b_Ref_floated 96 = .ok (.lreturn, 1) := by decide +kernel
theorem d_Ref_floated_97 : decode b_Ref_floated 97 = .ok (.iload_n 1, 1) := by decide +kernel
theorem d_Ref_floated_98 : decode b_Ref_floated 98 = .ok (.tableswitch 126 2 10 #[50, 57, 64, 71, 79, 85, 93, 110, 118], 50) := by decide +kernel
theorem d_Ref_floated_148 : decode b_Ref_floated 148 = .ok (.aload_n 0, 1) := by decide +kernel
theorem d_Ref_floated_149 : decode b_Ref_floated 149 = .ok (.iconst 3, 1) := by decide +kernel
theorem d_Ref_floated_150 : decode b_Ref_floated 150 = .ok (.lload_n 2, 1) := by decide +kernel
theorem d_Ref_floated_151 : decode b_Ref_floated 151 = .ok (.invokevirtual 135, 3) := by decide +kernel
theorem d_Ref_floated_154 : decode b_Ref_floated 154 = .ok (.lreturn, 1) := by decide +kernel
theorem d_Ref_floated_155 : decode b_Ref_floated 155 = .ok (.aload_n 0, 1) := by decide +kernel
theorem d_Ref_floated_156 : decode b_Ref_floated 156 = .ok (.iconst 4, 1) := by decide +kernel
theorem d_Ref_floated_157 : decode b_Ref_floated 157 = .ok (.lload_n 2, 1) := by decide +kernel
theorem d_Ref_floated_158 : decode b_Ref_floated 158 = .ok (.invokevirtual 135, 3) := by decide +kernel
theorem d_Ref_floated_161 : decode b_Ref_floated 161 = .ok (.lreturn, 1) := by decide +kernel
theorem d_Ref_floated_162 : decode b_Ref_floated 162 = .ok (.aload_n 0, 1) := by decide +kernel
theorem d_Ref_floated_163 : decode b_Ref_floated 163 = .ok (.iconst 5, 1) := by decide +kernel
theorem d_Ref_floated_164 : decode b_Ref_floated 164 = .ok (.lload_n 2, 1) := by decide +kernel
theorem d_Ref_floated_165 : decode b_Ref_floated 165 = .ok (.invokevirtual 135, 3) := by decide +kernel
theorem d_Ref_floated_168 : decode b_Ref_floated 168 = .ok (.lreturn, 1) := by decide +kernel
theorem d_Ref_floated_169 : decode b_Ref_floated 169 = .ok (.aload_n 0, 1) := by decide +kernel
theorem d_Ref_floated_170 : decode b_Ref_floated 170 = .ok (.bipush 6, 2) := by decide +kernel
theorem d_Ref_floated_172 : decode b_Ref_floated 172 = .ok (.lload_n 2, 1) := by decide +kernel
theorem d_Ref_floated_173 : decode b_Ref_floated 173 = .ok (.invokevirtual 135, 3) := by decide +kernel
theorem d_Ref_floated_176 : decode b_Ref_floated 176 = .ok (.lreturn, 1) := by decide +kernel
theorem d_Ref_floated_177 : decode b_Ref_floated 177 = .ok (.aload_n 0, 1) := by decide +kernel
theorem d_Ref_floated_178 : decode b_Ref_floated 178 = .ok (.lload_n 2, 1) := by decide +kernel
theorem d_Ref_floated_179 : decode b_Ref_floated 179 = .ok (.invokevirtual 139, 3) := by decide +kernel
theorem d_Ref_floated_182 : decode b_Ref_floated 182 = .ok (.lreturn, 1) := by decide +kernel
theorem d_Ref_floated_183 : decode b_Ref_floated 183 = .ok (.aload_n 0, 1) := by decide +kernel
theorem d_Ref_floated_184 : decode b_Ref_floated 184 = .ok (.lload_n 2, 1) := by decide +kernel
theorem d_Ref_floated_185 : decode b_Ref_floated 185 = .ok (.lload 4, 2) := by decide +kernel
theorem d_Ref_floated_187 : decode b_Ref_floated 187 = .ok (.invokevirtual 142, 3) := by decide +kernel
theorem d_Ref_floated_190 : decode b_Ref_floated 190 = .ok (.lreturn, 1) := by decide +kernel
theorem d_Ref_floated_191 : decode b_Ref_floated 191 = .ok (.aload_n 0, 1) := by decide +kernel
theorem d_Ref_floated_192 : decode b_Ref_floated 192 = .ok (.lload_n 2, 1) := by decide +kernel
theorem d_Ref_floated_193 : decode b_Ref_floated 193 = .ok (.lload 4, 2) := by decide +kernel
theorem d_Ref_floated_195 : decode b_Ref_floated 195 = .ok (.lconst 1, 1) := by decide +kernel
theorem d_Ref_floated_196 : decode b_Ref_floated 196 = .ok (.aload_n 0, 1) := by decide +kernel
theorem d_Ref_floated_197 : decode b_Ref_floated 197 = .ok (.getfield 49, 3) := by decide +kernel
theorem d_Ref_floated_200 : decode b_Ref_floated 200 = .ok (.iconst 1, 1) := by decide +kernel
theorem d_Ref_floated_201 : decode b_Ref_floated 201 = .ok (.isub, 1) := by decide +kernel
theorem d_Ref_floated_202 : decode b_Ref_floated 202 = .ok (.lshl, 1) := by decide +kernel
theorem d_Ref_floated_203 : decode b_Ref_floated 203 = .ok (.lxor, 1) := by decide +kernel
theorem d_Ref_floated_204 : decode b_Ref_floated 204 = .ok (.invokevirtual 142, 3) := by decide +kernel
theorem d_Ref_floated_207 : decode b_Ref_floated 207 = .ok (.lreturn, 1) := by decide +kernel
theorem d_Ref_floated_208 : decode b_Ref_floated 208 = .ok (.aload_n 0, 1) := by decide +kernel
theorem d_Ref_floated_209 : decode b_Ref_floated 209 = .ok (.lload_n 2, 1) := by decide +kernel
theorem d_Ref_floated_210 : decode b_Ref_floated 210 = .ok (.lload 4, 2) := by decide +kernel
theorem d_Ref_floated_212 : decode b_Ref_floated 212 = .ok (.invokevirtual 146, 3) := by decide +kernel
theorem d_Ref_floated_215 : decode b_Ref_floated 215 = .ok (.lreturn, 1) := by decide +kernel
theorem d_Ref_floated_216 : decode b_Ref_floated 216 = .ok (.aload_n 0, 1) := by decide +kernel
theorem d_Ref_floated_217 : decode b_Ref_floated 217 = .ok (.lload_n 2, 1) := by decide +kernel
theorem d_Ref_floated_218 : decode b_Ref_floated 218 = .ok (.lload 4, 2) := by decide +kernel
theorem d_Ref_floated_220 : decode b_Ref_floated 220 = .ok (.invokevirtual 149, 3) := by decide +kernel
theorem d_Ref_floated_223 : decode b_Ref_floated 223 = .ok (.lreturn, 1) := by decide +kernel
theorem d_Ref_floated_224 : decode b_Ref_floated 224 = .ok (.aload_n 0, 1) := by decide +kernel
theorem d_Ref_floated_225 : decode b_Ref_floated 225 = .ok (.iload_n 1, 1) := by decide +kernel
theorem d_Ref_floated_226 : decode b_Ref_floated 226 = .ok (.bipush 12, 2) := by decide +kernel
theorem d_Ref_floated_228 : decode b_Ref_floated 228 = .ok (.if_icmp .ne 7, 3) := by decide +kernel
theorem d_Ref_floated_231 : decode b_Ref_floated 231 = .ok (.iconst 1, 1) := by decide +kernel
theorem d_Ref_floated_232 : decode b_Ref_floated 232 = .ok (.goto 4, 3) := by decide +kernel
theorem d_Ref_floated_235 : decode b_Ref_floated 235 = .ok (.iconst 0, 1) := by decide +kernel
theorem d_Ref_floated_236 : decode b_Ref_floated 236 = .ok (.lload_n 2, 1) := by decide +kernel
theorem d_Ref_floated_237 : decode b_Ref_floated 237 = .ok (.lload 4, 2) := by decide +kernel
theorem d_Ref_floated_239 : decode b_Ref_floated 239 = .ok (.invokevirtual 152, 3) := by decide +kernel
theorem d_Ref_floated_242 : decode b_Ref_floated 242 = .ok (.lreturn, 1) := by decide +kernel
abbrev b_Ref_whole : ByteArray := prog_11_method_32_code
def y_Ref_whole : MethodName := ⟨"BitArithmeticModel", "whole", "(IJ)J"⟩
theorem d_Ref_whole_0 : decode b_Ref_whole 0 = .ok (.aload_n 0, 1) := by decide +kernel
theorem d_Ref_whole_1 : decode b_Ref_whole 1 = .ok (.lload_n 2, 1) := by decide +kernel
theorem d_Ref_whole_2 : decode b_Ref_whole 2 = .ok (.invokevirtual 104, 3) := by decide +kernel
theorem d_Ref_whole_5 : decode b_Ref_whole 5 = .ok (.ifCond .ne 11, 3) := by decide +kernel
theorem d_Ref_whole_8 : decode b_Ref_whole 8 = .ok (.aload_n 0, 1) := by decide +kernel
theorem d_Ref_whole_9 : decode b_Ref_whole 9 = .ok (.lload_n 2, 1) := by decide +kernel
theorem d_Ref_whole_10 : decode b_Ref_whole 10 = .ok (.invokevirtual 111, 3) := by decide +kernel
theorem d_Ref_whole_13 : decode b_Ref_whole 13 = .ok (.ifCond .eq 5, 3) := by decide +kernel
theorem d_Ref_whole_16 : decode b_Ref_whole 16 = .ok (.lload_n 2, 1) := by decide +kernel
theorem d_Ref_whole_17 : decode b_Ref_whole 17 = .ok (.lreturn, 1) := by decide +kernel
theorem d_Ref_whole_18 : decode b_Ref_whole 18 = .ok (.aload_n 0, 1) := by decide +kernel
theorem d_Ref_whole_19 : decode b_Ref_whole 19 = .ok (.lload_n 2, 1) := by decide +kernel
theorem d_Ref_whole_20 : decode b_Ref_whole 20 = .ok (.invokevirtual 117, 3) := by decide +kernel
theorem d_Ref_whole_23 : decode b_Ref_whole 23 = .ok (.aload_n 0, 1) := by decide +kernel
theorem d_Ref_whole_24 : decode b_Ref_whole 24 = .ok (.getfield 94, 3) := by decide +kernel
theorem d_Ref_whole_27 : decode b_Ref_whole 27 = .ok (.ifCond .lt 5, 3) := by decide +kernel
theorem d_Ref_whole_30 : decode b_Ref_whole 30 = .ok (.lload_n 2, 1) := by decide +kernel
theorem d_Ref_whole_31 : decode b_Ref_whole 31 = .ok (.lreturn, 1) := by decide +kernel
theorem d_Ref_whole_32 : decode b_Ref_whole 32 = .ok (.aload_n 0, 1) := by decide +kernel
theorem d_Ref_whole_33 : decode b_Ref_whole 33 = .ok (.getfield 94, 3) := by decide +kernel
theorem d_Ref_whole_36 : decode b_Ref_whole 36 = .ok (.ineg, 1) := by decide +kernel
theorem d_Ref_whole_37 : decode b_Ref_whole 37 = .ok (.bipush 62, 2) := by decide +kernel
theorem d_Ref_whole_39 : decode b_Ref_whole 39 = .ok (.if_icmp .le 7, 3) := by decide +kernel
theorem d_Ref_whole_42 : decode b_Ref_whole 42 = .ok (.lconst 0, 1) := by decide +kernel
theorem d_Ref_whole_43 : decode b_Ref_whole 43 = .ok (.goto 13, 3) := by decide +kernel
theorem d_Ref_whole_46 : decode b_Ref_whole 46 = .ok (.aload_n 0, 1) := by decide +kernel
theorem d_Ref_whole_47 : decode b_Ref_whole 47 = .ok (.getfield 91, 3) := by decide +kernel
theorem d_Ref_whole_50 : decode b_Ref_whole 50 = .ok (.aload_n 0, 1) := by decide +kernel
theorem d_Ref_whole_51 : decode b_Ref_whole 51 = .ok (.getfield 94, 3) := by decide +kernel
theorem d_Ref_whole_54 : decode b_Ref_whole 54 = .ok (.ineg, 1) := by decide +kernel
theorem d_Ref_whole_55 : decode b_Ref_whole 55 = .ok (.lshr, 1) := by decide +kernel
theorem d_Ref_whole_56 : decode b_Ref_whole 56 = .ok (.lstore 4, 2) := by decide +kernel
theorem d_Ref_whole_58 : decode b_Ref_whole 58 = .ok (.aload_n 0, 1) := by decide +kernel
theorem d_Ref_whole_59 : decode b_Ref_whole 59 = .ok (.getfield 94, 3) := by decide +kernel
theorem d_Ref_whole_62 : decode b_Ref_whole 62 = .ok (.ineg, 1) := by decide +kernel
theorem d_Ref_whole_63 : decode b_Ref_whole 63 = .ok (.bipush 62, 2) := by decide +kernel
theorem d_Ref_whole_65 : decode b_Ref_whole 65 = .ok (.if_icmp .gt 19, 3) := by decide +kernel
theorem d_Ref_whole_68 : decode b_Ref_whole 68 = .ok (.aload_n 0, 1) := by decide +kernel
theorem d_Ref_whole_69 : decode b_Ref_whole 69 = .ok (.getfield 91, 3) := by decide +kernel
theorem d_Ref_whole_72 : decode b_Ref_whole 72 = .ok (.lload 4, 2) := by decide +kernel
theorem d_Ref_whole_74 : decode b_Ref_whole 74 = .ok (.aload_n 0, 1) := by decide +kernel
theorem d_Ref_whole_75 : decode b_Ref_whole 75 = .ok (.getfield 94, 3) := by decide +kernel
theorem d_Ref_whole_78 : decode b_Ref_whole 78 = .ok (.ineg, 1) := by decide +kernel
theorem d_Ref_whole_79 : decode b_Ref_whole 79 = .ok (.lshl, 1) := by decide +kernel
theorem d_Ref_whole_80 : decode b_Ref_whole 80 = .ok (.lcmp, 1) := by decide +kernel
theorem d_Ref_whole_81 : decode b_Ref_whole 81 = .ok (.ifCond .eq 7, 3) := by decide +kernel
theorem d_Ref_whole_84 : decode b_Ref_whole 84 = .ok (.iconst 1, 1) := by decide +kernel
theorem d_Ref_whole_85 : decode b_Ref_whole 85 = .ok (.goto 4, 3) := by decide +kernel
theorem d_Ref_whole_88 : decode b_Ref_whole 88 = .ok (.iconst 0, 1) := by decide +kernel
theorem d_Ref_whole_89 : decode b_Ref_whole 89 = .ok (.istore 6, 2) := by decide +kernel
theorem d_Ref_whole_91 : decode b_Ref_whole 91 = .ok (.aload_n 0, 1) := by decide +kernel
theorem d_Ref_whole_92 : decode b_Ref_whole 92 = .ok (.getfield 94, 3) := by decide +kernel
theorem d_Ref_whole_95 : decode b_Ref_whole 95 = .ok (.ineg, 1) := by decide +kernel
theorem d_Ref_whole_96 : decode b_Ref_whole 96 = .ok (.bipush 63, 2) := by decide +kernel
theorem d_Ref_whole_98 : decode b_Ref_whole 98 = .ok (.if_icmp .gt 26, 3) := by decide +kernel
theorem d_Ref_whole_101 : decode b_Ref_whole 101 = .ok (.aload_n 0, 1) := by decide +kernel
theorem d_Ref_whole_102 : decode b_Ref_whole 102 = .ok (.getfield 91, 3) := by decide +kernel
theorem d_Ref_whole_105 : decode b_Ref_whole 105 = .ok (.aload_n 0, 1) := by decide +kernel
theorem d_Ref_whole_106 : decode b_Ref_whole 106 = .ok (.getfield 94, 3) := by decide +kernel
theorem d_Ref_whole_109 : decode b_Ref_whole 109 = .ok (.ineg, 1) := by decide +kernel
theorem d_Ref_whole_110 : decode b_Ref_whole 110 = .ok (.iconst 1, 1) := by decide +kernel
theorem d_Ref_whole_111 : decode b_Ref_whole 111 = .ok (.isub, 1) := by decide +kernel
theorem d_Ref_whole_112 : decode b_Ref_whole 112 = .ok (.lshr, 1) := by decide +kernel
theorem d_Ref_whole_113 : decode b_Ref_whole 113 = .ok (.lconst 1, 1) := by decide +kernel
theorem d_Ref_whole_114 : decode b_Ref_whole 114 = .ok (.land, 1) := by decide +kernel
theorem d_Ref_whole_115 : decode b_Ref_whole 115 = .ok (.lconst 1, 1) := by decide +kernel
theorem d_Ref_whole_116 : decode b_Ref_whole 116 = .ok (.lcmp, 1) := by decide +kernel
theorem d_Ref_whole_117 : decode b_Ref_whole 117 = .ok (.ifCond .ne 7, 3) := by decide +kernel
theorem d_Ref_whole_120 : decode b_Ref_whole 120 = .ok (.iconst 1, 1) := by decide +kernel
theorem d_Ref_whole_121 : decode b_Ref_whole 121 = .ok (.goto 4, 3) := by decide +kernel
theorem d_Ref_whole_124 : decode b_Ref_whole 124 = .ok (.iconst 0, 1) := by decide +kernel
theorem d_Ref_whole_125 : decode b_Ref_whole 125 = .ok (.istore 7, 2) := by decide +kernel
theorem d_Ref_whole_127 : decode b_Ref_whole 127 = .ok (.iload 7, 2) := by decide +kernel
theorem d_Ref_whole_129 : decode b_Ref_whole 129 = .ok (.ifCond .eq 31, 3) := by decide +kernel
theorem d_Ref_whole_132 : decode b_Ref_whole 132 = .ok (.aload_n 0, 1) := by decide +kernel
theorem d_Ref_whole_133 : decode b_Ref_whole 133 = .ok (.getfield 91, 3) := by decide +kernel
theorem d_Ref_whole_136 : decode b_Ref_whole 136 = .ok (.ldc2_w 58, 3) := by decide +kernel
theorem d_Ref_whole_139 : decode b_Ref_whole 139 = .ok (.lload 4, 2) := by decide +kernel
theorem d_Ref_whole_141 : decode b_Ref_whole 141 = .ok (.lmul, 1) := by decide +kernel
theorem d_Ref_whole_142 : decode b_Ref_whole 142 = .ok (.lconst 1, 1) := by decide +kernel
theorem d_Ref_whole_143 : decode b_Ref_whole 143 = .ok (.ladd, 1) := by decide +kernel
theorem d_Ref_whole_144 : decode b_Ref_whole 144 = .ok (.aload_n 0, 1) := by decide +kernel
theorem d_Ref_whole_145 : decode b_Ref_whole 145 = .ok (.getfield 94, 3) := by decide +kernel
theorem d_Ref_whole_148 : decode b_Ref_whole 148 = .ok (.ineg, 1) := by decide +kernel
theorem d_Ref_whole_149 : decode b_Ref_whole 149 = .ok (.iconst 1, 1) := by decide +kernel
theorem d_Ref_whole_150 : decode b_Ref_whole 150 = .ok (.isub, 1) := by decide +kernel
theorem d_Ref_whole_151 : decode b_Ref_whole 151 = .ok (.lshl, 1) := by decide +kernel
theorem d_Ref_whole_152 : decode b_Ref_whole 152 = .ok (.lcmp, 1) := by decide +kernel
theorem d_Ref_whole_153 : decode b_Ref_whole 153 = .ok (.ifCond .eq 7, 3) := by decide +kernel
theorem d_Ref_whole_156 : decode b_Ref_whole 156 = .ok (.iconst 1, 1) := by decide +kernel
theorem d_Ref_whole_157 : decode b_Ref_whole 157 = .ok (.goto 4, 3) := by decide +kernel
theorem d_Ref_whole_160 : decode b_Ref_whole 160 = .ok (.iconst 0, 1) := by decide +kernel
theorem d_Ref_whole_161 : decode b_Ref_whole 161 = .ok (.istore 8, 2) := by decide +kernel
theorem d_Ref_whole_163 : decode b_Ref_whole 163 = .ok (.iload_n 1, 1) := by decide +kernel
theorem d_Ref_whole_164 : decode b_Ref_whole 164 = .ok (.iconst 3, 1) := by decide +kernel
theorem d_Ref_whole_165 : decode b_Ref_whole 165 = .ok (.if_icmp .ne 23, 3) := by decide +kernel
theorem d_Ref_whole_168 : decode b_Ref_whole 168 = .ok (.iload 6, 2) := by decide +kernel
theorem d_Ref_whole_170 : decode b_Ref_whole 170 = .ok (.ifCond .eq 14, 3) := by decide +kernel
theorem d_Ref_whole_173 : decode b_Ref_whole 173 = .ok (.aload_n 0, 1) := by decide +kernel
theorem d_Ref_whole_174 : decode b_Ref_whole 174 = .ok (.getfield 88, 3) := by decide +kernel
theorem d_Ref_whole_177 : decode b_Ref_whole 177 = .ok (.ifCond .ne 7, 3) := by decide +kernel
theorem d_Ref_whole_180 : decode b_Ref_whole 180 = .ok (.iconst 1, 1) := by decide +kernel
theorem d_Ref_whole_181 : decode b_Ref_whole 181 = .ok (.goto 62, 3) := by decide +kernel
theorem d_Ref_whole_184 : decode b_Ref_whole 184 = .ok (.iconst 0, 1) := by decide +kernel
theorem d_Ref_whole_185 : decode b_Ref_whole 185 = .ok (.goto 58, 3) := by decide +kernel
theorem d_Ref_whole_188 : decode b_Ref_whole 188 = .ok (.iload_n 1, 1) := by decide +kernel
theorem d_Ref_whole_189 : decode b_Ref_whole 189 = .ok (.iconst 4, 1) := by decide +kernel
theorem d_Ref_whole_190 : decode b_Ref_whole 190 = .ok (.if_icmp .ne 23, 3) := by decide +kernel
theorem d_Ref_whole_193 : decode b_Ref_whole 193 = .ok (.iload 6, 2) := by decide +kernel
theorem d_Ref_whole_195 : decode b_Ref_whole 195 = .ok (.ifCond .eq 14, 3) := by decide +kernel
theorem d_Ref_whole_198 : decode b_Ref_whole 198 = .ok (.aload_n 0, 1) := by decide +kernel
theorem d_Ref_whole_199 : decode b_Ref_whole 199 = .ok (.getfield 88, 3) := by decide +kernel
theorem d_Ref_whole_202 : decode b_Ref_whole 202 = .ok (.ifCond .eq 7, 3) := by decide +kernel
theorem d_Ref_whole_205 : decode b_Ref_whole 205 = .ok (.iconst 1, 1) := by decide +kernel
theorem d_Ref_whole_206 : decode b_Ref_whole 206 = .ok (.goto 37, 3) := by decide +kernel
theorem d_Ref_whole_209 : decode b_Ref_whole 209 = .ok (.iconst 0, 1) := by decide +kernel
theorem d_Ref_whole_210 : decode b_Ref_whole 210 = .ok (.goto 33, 3) := by decide +kernel
theorem d_Ref_whole_213 : decode b_Ref_whole 213 = .ok (.iload_n 1, 1) := by decide +kernel
theorem d_Ref_whole_214 : decode b_Ref_whole 214 = .ok (.bipush 6, 2) := by decide +kernel
theorem d_Ref_whole_216 : decode b_Ref_whole 216 = .ok (.if_icmp .ne 26, 3) := by decide +kernel
theorem d_Ref_whole_219 : decode b_Ref_whole 219 = .ok (.iload 7, 2) := by decide +kernel
theorem d_Ref_whole_221 : decode b_Ref_whole 221 = .ok (.ifCond .eq 21, 3) := by decide +kernel
theorem d_Ref_whole_224 : decode b_Ref_whole 224 = .ok (.iload 8, 2) := by decide +kernel
theorem d_Ref_whole_226 : decode b_Ref_whole 226 = .ok (.ifCond .ne 12, 3) := by decide +kernel
theorem d_Ref_whole_229 : decode b_Ref_whole 229 = .ok (.lload 4, 2) := by decide +kernel
theorem d_Ref_whole_231 : decode b_Ref_whole 231 = .ok (.lconst 1, 1) := by decide +kernel
theorem d_Ref_whole_232 : decode b_Ref_whole 232 = .ok (.land, 1) := by decide +kernel
theorem d_Ref_whole_233 : decode b_Ref_whole 233 = .ok (.lconst 1, 1) := by decide +kernel
theorem d_Ref_whole_234 : decode b_Ref_whole 234 = .ok (.lcmp, 1) := by decide +kernel
theorem d_Ref_whole_235 : decode b_Ref_whole 235 = .ok (.ifCond .ne 7, 3) := by decide +kernel
theorem d_Ref_whole_238 : decode b_Ref_whole 238 = .ok (.iconst 1, 1) := by decide +kernel
theorem d_Ref_whole_239 : decode b_Ref_whole 239 = .ok (.goto 4, 3) := by decide +kernel
theorem d_Ref_whole_242 : decode b_Ref_whole 242 = .ok (.iconst 0, 1) := by decide +kernel
theorem d_Ref_whole_243 : decode b_Ref_whole 243 = .ok (.istore 9, 2) := by decide +kernel
theorem d_Ref_whole_245 : decode b_Ref_whole 245 = .ok (.iload 9, 2) := by decide +kernel
theorem d_Ref_whole_247 : decode b_Ref_whole 247 = .ok (.ifCond .eq 10, 3) := by decide +kernel
theorem d_Ref_whole_250 : decode b_Ref_whole 250 = .ok (.lload 4, 2) := by decide +kernel
theorem d_Ref_whole_252 : decode b_Ref_whole 252 = .ok (.lconst 1, 1) := by decide +kernel
theorem d_Ref_whole_253 : decode b_Ref_whole 253 = .ok (.ladd, 1) := by decide +kernel
theorem d_Ref_whole_254 : decode b_Ref_whole 254 = .ok (.goto 5, 3) := by decide +kernel
theorem d_Ref_whole_257 : decode b_Ref_whole 257 = .ok (.lload 4, 2) := by decide +kernel
theorem d_Ref_whole_259 : decode b_Ref_whole 259 = .ok (.lstore 4, 2) := by decide +kernel
theorem d_Ref_whole_261 : decode b_Ref_whole 261 = .ok (.lload 4, 2) := by decide +kernel
theorem d_Ref_whole_263 : decode b_Ref_whole 263 = .ok (.lconst 0, 1) := by decide +kernel
theorem d_Ref_whole_264 : decode b_Ref_whole 264 = .ok (.lcmp, 1) := by decide +kernel
theorem d_Ref_whole_265 : decode b_Ref_whole 265 = .ok (.ifCond .ne 13, 3) := by decide +kernel
theorem d_Ref_whole_268 : decode b_Ref_whole 268 = .ok (.aload_n 0, 1) := by decide +kernel
theorem d_Ref_whole_269 : decode b_Ref_whole 269 = .ok (.lconst 0, 1) := by decide +kernel
theorem d_Ref_whole_270 : decode b_Ref_whole 270 = .ok (.aload_n 0, 1) := by decide +kernel
theorem d_Ref_whole_271 : decode b_Ref_whole 271 = .ok (.getfield 88, 3) := by decide +kernel
theorem d_Ref_whole_274 : decode b_Ref_whole 274 = .ok (.invokevirtual 60, 3) := by decide +kernel
theorem d_Ref_whole_277 : decode b_Ref_whole 277 = .ok (.lreturn, 1) := by decide +kernel
theorem d_Ref_whole_278 : decode b_Ref_whole 278 = .ok (.aload_n 0, 1) := by decide +kernel
theorem d_Ref_whole_279 : decode b_Ref_whole 279 = .ok (.getfield 88, 3) := by decide +kernel
theorem d_Ref_whole_282 : decode b_Ref_whole 282 = .ok (.istore 10, 2) := by decide +kernel
theorem d_Ref_whole_284 : decode b_Ref_whole 284 = .ok (.aload_n 0, 1) := by decide +kernel
theorem d_Ref_whole_285 : decode b_Ref_whole 285 = .ok (.invokevirtual 114, 3) := by decide +kernel
theorem d_Ref_whole_288 : decode b_Ref_whole 288 = .ok (.aload_n 0, 1) := by decide +kernel
theorem d_Ref_whole_289 : decode b_Ref_whole 289 = .ok (.lload 4, 2) := by decide +kernel
theorem d_Ref_whole_291 : decode b_Ref_whole 291 = .ok (.iconst 0, 1) := by decide +kernel
theorem d_Ref_whole_292 : decode b_Ref_whole 292 = .ok (.invokevirtual 121, 3) := by decide +kernel
theorem d_Ref_whole_295 : decode b_Ref_whole 295 = .ok (.aload_n 0, 1) := by decide +kernel
theorem d_Ref_whole_296 : decode b_Ref_whole 296 = .ok (.iload 10, 2) := by decide +kernel
theorem d_Ref_whole_298 : decode b_Ref_whole 298 = .ok (.invokevirtual 128, 3) := by decide +kernel
theorem d_Ref_whole_301 : decode b_Ref_whole 301 = .ok (.lreturn, 1) := by decide +kernel
abbrev b_Ref_root : ByteArray := prog_11_method_31_code
def y_Ref_root : MethodName := ⟨"BitArithmeticModel", "root", "(J)J"⟩
theorem d_Ref_root_0 : decode b_Ref_root 0 = .ok (.aload_n 0, 1) := by decide +kernel
theorem d_Ref_root_1 : decode b_Ref_root 1 = .ok (.lload_n 1, 1) := by decide +kernel
theorem d_Ref_root_2 : decode b_Ref_root 2 = .ok (.invokevirtual 111, 3) := by decide +kernel
theorem d_Ref_root_5 : decode b_Ref_root 5 = .ok (.ifCond .eq 5, 3) := by decide +kernel
theorem d_Ref_root_8 : decode b_Ref_root 8 = .ok (.lload_n 1, 1) := by decide +kernel
theorem d_Ref_root_9 : decode b_Ref_root 9 = .ok (.lreturn, 1) := by decide +kernel
theorem d_Ref_root_10 : decode b_Ref_root 10 = .ok (.aload_n 0, 1) := by decide +kernel
theorem d_Ref_root_11 : decode b_Ref_root 11 = .ok (.lload_n 1, 1) := by decide +kernel
theorem d_Ref_root_12 : decode b_Ref_root 12 = .ok (.invokevirtual 84, 3) := by decide +kernel
theorem d_Ref_root_15 : decode b_Ref_root 15 = .ok (.ifCond .eq 8, 3) := by decide +kernel
theorem d_Ref_root_18 : decode b_Ref_root 18 = .ok (.aload_n 0, 1) := by decide +kernel
theorem d_Ref_root_19 : decode b_Ref_root 19 = .ok (.invokevirtual 107, 3) := by decide +kernel
theorem d_Ref_root_22 : decode b_Ref_root 22 = .ok (.lreturn, 1) := by decide +kernel
theorem d_Ref_root_23 : decode b_Ref_root 23 = .ok (.aload_n 0, 1) := by decide +kernel
theorem d_Ref_root_24 : decode b_Ref_root 24 = .ok (.lload_n 1, 1) := by decide +kernel
theorem d_Ref_root_25 : decode b_Ref_root 25 = .ok (.invokevirtual 104, 3) := by decide +kernel
theorem d_Ref_root_28 : decode b_Ref_root 28 = .ok (.ifCond .eq 5, 3) := by decide +kernel
theorem d_Ref_root_31 : decode b_Ref_root 31 = .ok (.lload_n 1, 1) := by decide +kernel
theorem d_Ref_root_32 : decode b_Ref_root 32 = .ok (.lreturn, 1) := by decide +kernel
theorem d_Ref_root_33 : decode b_Ref_root 33 = .ok (.aload_n 0, 1) := by decide +kernel
theorem d_Ref_root_34 : decode b_Ref_root 34 = .ok (.lload_n 1, 1) := by decide +kernel
theorem d_Ref_root_35 : decode b_Ref_root 35 = .ok (.invokevirtual 117, 3) := by decide +kernel
theorem d_Ref_root_38 : decode b_Ref_root 38 = .ok (.aload_n 0, 1) := by decide +kernel
theorem d_Ref_root_39 : decode b_Ref_root 39 = .ok (.getfield 94, 3) := by decide +kernel
theorem d_Ref_root_42 : decode b_Ref_root 42 = .ok (.iconst 1, 1) := by decide +kernel
theorem d_Ref_root_43 : decode b_Ref_root 43 = .ok (.iand, 1) := by decide +kernel
theorem d_Ref_root_44 : decode b_Ref_root 44 = .ok (.ifCond .eq 23, 3) := by decide +kernel
theorem d_Ref_root_47 : decode b_Ref_root 47 = .ok (.aload_n 0, 1) := by decide +kernel
theorem d_Ref_root_48 : decode b_Ref_root 48 = .ok (.aload_n 0, 1) := by decide +kernel
theorem d_Ref_root_49 : decode b_Ref_root 49 = .ok (.getfield 91, 3) := by decide +kernel
theorem d_Ref_root_52 : decode b_Ref_root 52 = .ok (.iconst 1, 1) := by decide +kernel
theorem d_Ref_root_53 : decode b_Ref_root 53 = .ok (.lshl, 1) := by decide +kernel
theorem d_Ref_root_54 : decode b_Ref_root 54 = .ok (.putfield 91, 3) := by decide +kernel
theorem d_Ref_root_57 : decode b_Ref_root 57 = .ok (.aload_n 0, 1) := by decide +kernel
theorem d_Ref_root_58 : decode b_Ref_root 58 = .ok (.dup, 1) := by decide +kernel
theorem d_Ref_root_59 : decode b_Ref_root 59 = .ok (.getfield 94, 3) := by decide +kernel
theorem d_Ref_root_62 : decode b_Ref_root 62 = .ok (.iconst 1, 1) := by decide +kernel
theorem d_Ref_root_63 : decode b_Ref_root 63 = .ok (.isub, 1) := by decide +kernel
theorem d_Ref_root_64 : decode b_Ref_root 64 = .ok (.putfield 94, 3) := by decide +kernel
theorem d_Ref_root_67 : decode b_Ref_root 67 = .ok (.aload_n 0, 1) := by decide +kernel
theorem d_Ref_root_68 : decode b_Ref_root 68 = .ok (.getfield 91, 3) := by decide +kernel
theorem d_Ref_root_71 : decode b_Ref_root 71 = .ok (.bipush 52, 2) := by decide +kernel
theorem d_Ref_root_73 : decode b_Ref_root 73 = .ok (.lshr, 1) := by decide +kernel
theorem d_Ref_root_74 : decode b_Ref_root 74 = .ok (.lconst 0, 1) := by decide +kernel
theorem d_Ref_root_75 : decode b_Ref_root 75 = .ok (.lcmp, 1) := by decide +kernel
theorem d_Ref_root_76 : decode b_Ref_root 76 = .ok (.ifCond .ne 26, 3) := by decide +kernel
theorem d_Ref_root_79 : decode b_Ref_root 79 = .ok (.aload_n 0, 1) := by decide +kernel
theorem d_Ref_root_80 : decode b_Ref_root 80 = .ok (.aload_n 0, 1) := by decide +kernel
theorem d_Ref_root_81 : decode b_Ref_root 81 = .ok (.getfield 91, 3) := by decide +kernel
theorem d_Ref_root_84 : decode b_Ref_root 84 = .ok (.iconst 2, 1) := by decide +kernel
theorem d_Ref_root_85 : decode b_Ref_root 85 = .ok (.lshl, 1) := by decide +kernel
theorem d_Ref_root_86 : decode b_Ref_root 86 = .ok (.putfield 91, 3) := by decide +kernel
theorem d_Ref_root_89 : decode b_Ref_root 89 = .ok (.aload_n 0, 1) := by decide +kernel
theorem d_Ref_root_90 : decode b_Ref_root 90 = .ok (.dup, 1) := by decide +kernel
theorem d_Ref_root_91 : decode b_Ref_root 91 = .ok (.getfield 94, 3) := by decide +kernel
theorem d_Ref_root_94 : decode b_Ref_root 94 = .ok (.iconst 2, 1) := by decide +kernel
theorem d_Ref_root_95 : decode b_Ref_root 95 = .ok (.isub, 1) := by decide +kernel
theorem d_Ref_root_96 : decode b_Ref_root 96 = .ok (.putfield 94, 3) := by decide +kernel
theorem d_Ref_root_99 : decode b_Ref_root 99 = .ok (.goto (-32), 3) := by decide +kernel
theorem d_Ref_root_102 : decode b_Ref_root 102 = .ok (.aload_n 0, 1) := by decide +kernel
theorem d_Ref_root_103 : decode b_Ref_root 103 = .ok (.invokevirtual 114, 3) := by decide +kernel
theorem d_Ref_root_106 : decode b_Ref_root 106 = .ok (.lconst 0, 1) := by decide +kernel
theorem d_Ref_root_107 : decode b_Ref_root 107 = .ok (.lstore_n 3, 1) := by decide +kernel
theorem d_Ref_root_108 : decode b_Ref_root 108 = .ok (.lconst 0, 1) := by decide +kernel
theorem d_Ref_root_109 : decode b_Ref_root 109 = .ok (.lstore 5, 2) := by decide +kernel
theorem d_Ref_root_111 : decode b_Ref_root 111 = .ok (.bipush 26, 2) := by decide +kernel
theorem d_Ref_root_113 : decode b_Ref_root 113 = .ok (.istore 7, 2) := by decide +kernel
theorem d_Ref_root_115 : decode b_Ref_root 115 = .ok (.iload 7, 2) := by decide +kernel
theorem d_Ref_root_117 : decode b_Ref_root 117 = .ok (.bipush (-30), 2) := by decide +kernel
theorem d_Ref_root_119 : decode b_Ref_root 119 = .ok (.if_icmp .lt 86, 3) := by decide +kernel
theorem d_Ref_root_122 : decode b_Ref_root 122 = .ok (.ldc2_w 131, 3) := by decide +kernel
theorem d_Ref_root_125 : decode b_Ref_root 125 = .ok (.lload_n 3, 1) := by decide +kernel
theorem d_Ref_root_126 : decode b_Ref_root 126 = .ok (.lmul, 1) := by decide +kernel
theorem d_Ref_root_127 : decode b_Ref_root 127 = .ok (.iload 7, 2) := by decide +kernel
theorem d_Ref_root_129 : decode b_Ref_root 129 = .ok (.ifCond .ge 7, 3) := by decide +kernel
theorem d_Ref_root_132 : decode b_Ref_root 132 = .ok (.lconst 0, 1) := by decide +kernel
theorem d_Ref_root_133 : decode b_Ref_root 133 = .ok (.goto 16, 3) := by decide +kernel
theorem d_Ref_root_136 : decode b_Ref_root 136 = .ok (.aload_n 0, 1) := by decide +kernel
theorem d_Ref_root_137 : decode b_Ref_root 137 = .ok (.getfield 91, 3) := by decide +kernel
theorem d_Ref_root_140 : decode b_Ref_root 140 = .ok (.iconst 2, 1) := by decide +kernel
theorem d_Ref_root_141 : decode b_Ref_root 141 = .ok (.iload 7, 2) := by decide +kernel
theorem d_Ref_root_143 : decode b_Ref_root 143 = .ok (.imul, 1) := by decide +kernel
theorem d_Ref_root_144 : decode b_Ref_root 144 = .ok (.lshr, 1) := by decide +kernel
theorem d_Ref_root_145 : decode b_Ref_root 145 = .ok (.ldc2_w 133, 3) := by decide +kernel
theorem d_Ref_root_148 : decode b_Ref_root 148 = .ok (.land, 1) := by decide +kernel
theorem d_Ref_root_149 : decode b_Ref_root 149 = .ok (.ladd, 1) := by decide +kernel
theorem d_Ref_root_150 : decode b_Ref_root 150 = .ok (.lstore_n 3, 1) := by decide +kernel
theorem d_Ref_root_151 : decode b_Ref_root 151 = .ok (.ldc2_w 131, 3) := by decide +kernel
theorem d_Ref_root_154 : decode b_Ref_root 154 = .ok (.lload 5, 2) := by decide +kernel
theorem d_Ref_root_156 : decode b_Ref_root 156 = .ok (.lmul, 1) := by decide +kernel
theorem d_Ref_root_157 : decode b_Ref_root 157 = .ok (.lconst 1, 1) := by decide +kernel
theorem d_Ref_root_158 : decode b_Ref_root 158 = .ok (.ladd, 1) := by decide +kernel
theorem d_Ref_root_159 : decode b_Ref_root 159 = .ok (.lstore 8, 2) := by decide +kernel
theorem d_Ref_root_161 : decode b_Ref_root 161 = .ok (.lload 5, 2) := by decide +kernel
theorem d_Ref_root_163 : decode b_Ref_root 163 = .ok (.iconst 1, 1) := by decide +kernel
theorem d_Ref_root_164 : decode b_Ref_root 164 = .ok (.lshl, 1) := by decide +kernel
theorem d_Ref_root_165 : decode b_Ref_root 165 = .ok (.lstore 5, 2) := by decide +kernel
theorem d_Ref_root_167 : decode b_Ref_root 167 = .ok (.lload_n 3, 1) := by decide +kernel
theorem d_Ref_root_168 : decode b_Ref_root 168 = .ok (.lload 8, 2) := by decide +kernel
theorem d_Ref_root_170 : decode b_Ref_root 170 = .ok (.lcmp, 1) := by decide +kernel
theorem d_Ref_root_171 : decode b_Ref_root 171 = .ok (.ifCond .lt 28, 3) := by decide +kernel
theorem d_Ref_root_174 : decode b_Ref_root 174 = .ok (.lload_n 3, 1) := by decide +kernel
theorem d_Ref_root_175 : decode b_Ref_root 175 = .ok (.lload 8, 2) := by decide +kernel
theorem d_Ref_root_177 : decode b_Ref_root 177 = .ok (.lsub, 1) := by decide +kernel
theorem d_Ref_root_178 : decode b_Ref_root 178 = .ok (.lstore_n 3, 1) := by decide +kernel
theorem d_Ref_root_179 : decode b_Ref_root 179 = .ok (.lload 5, 2) := by decide +kernel
theorem d_Ref_root_181 : decode b_Ref_root 181 = .ok (.lconst 1, 1) := by decide +kernel
theorem d_Ref_root_182 : decode b_Ref_root 182 = .ok (.ladd, 1) := by decide +kernel
theorem d_Ref_root_183 : decode b_Ref_root 183 = .ok (.lstore 5, 2) := by decide +kernel
theorem d_Ref_root_185 : decode b_Ref_root 185 = .ok (.aload_n 0, 1) := by decide +kernel
theorem d_Ref_root_186 : decode b_Ref_root 186 = .ok (.lconst 1, 1) := by decide +kernel
theorem d_Ref_root_187 : decode b_Ref_root 187 = .ok (.aload_n 0, 1) := by decide +kernel
theorem d_Ref_root_188 : decode b_Ref_root 188 = .ok (.getfield 94, 3) := by decide +kernel
theorem d_Ref_root_191 : decode b_Ref_root 191 = .ok (.iconst 2, 1) := by decide +kernel
theorem d_Ref_root_192 : decode b_Ref_root 192 = .ok (.idiv, 1) := by decide +kernel
theorem d_Ref_root_193 : decode b_Ref_root 193 = .ok (.iload 7, 2) := by decide +kernel
theorem d_Ref_root_195 : decode b_Ref_root 195 = .ok (.iadd, 1) := by decide +kernel
theorem d_Ref_root_196 : decode b_Ref_root 196 = .ok (.invokevirtual 121, 3) := by decide +kernel
theorem d_Ref_root_199 : decode b_Ref_root 199 = .ok (.iinc 7 (-1), 3) := by decide +kernel
theorem d_Ref_root_202 : decode b_Ref_root 202 = .ok (.goto (-87), 3) := by decide +kernel
theorem d_Ref_root_205 : decode b_Ref_root 205 = .ok (.aload_n 0, 1) := by decide +kernel
theorem d_Ref_root_206 : decode b_Ref_root 206 = .ok (.lload_n 3, 1) := by decide +kernel
theorem d_Ref_root_207 : decode b_Ref_root 207 = .ok (.lconst 0, 1) := by decide +kernel
theorem d_Ref_root_208 : decode b_Ref_root 208 = .ok (.lcmp, 1) := by decide +kernel
theorem d_Ref_root_209 : decode b_Ref_root 209 = .ok (.ifCond .eq 7, 3) := by decide +kernel
theorem d_Ref_root_212 : decode b_Ref_root 212 = .ok (.iconst 1, 1) := by decide +kernel
theorem d_Ref_root_213 : decode b_Ref_root 213 = .ok (.goto 4, 3) := by decide +kernel
theorem d_Ref_root_216 : decode b_Ref_root 216 = .ok (.iconst 0, 1) := by decide +kernel
theorem d_Ref_root_217 : decode b_Ref_root 217 = .ok (.putfield 41, 3) := by decide +kernel
theorem d_Ref_root_220 : decode b_Ref_root 220 = .ok (.aload_n 0, 1) := by decide +kernel
theorem d_Ref_root_221 : decode b_Ref_root 221 = .ok (.iconst 0, 1) := by decide +kernel
theorem d_Ref_root_222 : decode b_Ref_root 222 = .ok (.invokevirtual 128, 3) := by decide +kernel
theorem d_Ref_root_225 : decode b_Ref_root 225 = .ok (.lreturn, 1) := by decide +kernel
abbrev b_Ref_sum : ByteArray := prog_11_method_28_code
def y_Ref_sum : MethodName := ⟨"BitArithmeticModel", "sum", "(JJ)J"⟩
theorem d_Ref_sum_0 : decode b_Ref_sum 0 = .ok (.aload_n 0, 1) := by decide +kernel
theorem d_Ref_sum_1 : decode b_Ref_sum 1 = .ok (.lload_n 1, 1) := by decide +kernel
theorem d_Ref_sum_2 : decode b_Ref_sum 2 = .ok (.invokevirtual 104, 3) := by decide +kernel
theorem d_Ref_sum_5 : decode b_Ref_sum 5 = .ok (.ifCond .ne 11, 3) := by decide +kernel
theorem d_Ref_sum_8 : decode b_Ref_sum 8 = .ok (.aload_n 0, 1) := by decide +kernel
theorem d_Ref_sum_9 : decode b_Ref_sum 9 = .ok (.lload_n 3, 1) := by decide +kernel
theorem d_Ref_sum_10 : decode b_Ref_sum 10 = .ok (.invokevirtual 104, 3) := by decide +kernel
theorem d_Ref_sum_13 : decode b_Ref_sum 13 = .ok (.ifCond .eq 46, 3) := by decide +kernel
theorem d_Ref_sum_16 : decode b_Ref_sum 16 = .ok (.aload_n 0, 1) := by decide +kernel
theorem d_Ref_sum_17 : decode b_Ref_sum 17 = .ok (.lload_n 1, 1) := by decide +kernel
theorem d_Ref_sum_18 : decode b_Ref_sum 18 = .ok (.invokevirtual 104, 3) := by decide +kernel
theorem d_Ref_sum_21 : decode b_Ref_sum 21 = .ok (.ifCond .eq 24, 3) := by decide +kernel
theorem d_Ref_sum_24 : decode b_Ref_sum 24 = .ok (.aload_n 0, 1) := by decide +kernel
theorem d_Ref_sum_25 : decode b_Ref_sum 25 = .ok (.lload_n 3, 1) := by decide +kernel
theorem d_Ref_sum_26 : decode b_Ref_sum 26 = .ok (.invokevirtual 104, 3) := by decide +kernel
theorem d_Ref_sum_29 : decode b_Ref_sum 29 = .ok (.ifCond .eq 16, 3) := by decide +kernel
theorem d_Ref_sum_32 : decode b_Ref_sum 32 = .ok (.lload_n 1, 1) := by decide +kernel
theorem d_Ref_sum_33 : decode b_Ref_sum 33 = .ok (.lload_n 3, 1) := by decide +kernel
theorem d_Ref_sum_34 : decode b_Ref_sum 34 = .ok (.lcmp, 1) := by decide +kernel
theorem d_Ref_sum_35 : decode b_Ref_sum 35 = .ok (.ifCond .eq 10, 3) := by decide +kernel
theorem d_Ref_sum_38 : decode b_Ref_sum 38 = .ok (.aload_n 0, 1) := by decide +kernel
theorem d_Ref_sum_39 : decode b_Ref_sum 39 = .ok (.invokevirtual 107, 3) := by decide +kernel
theorem d_Ref_sum_42 : decode b_Ref_sum 42 = .ok (.goto 16, 3) := by decide +kernel
theorem d_Ref_sum_45 : decode b_Ref_sum 45 = .ok (.aload_n 0, 1) := by decide +kernel
theorem d_Ref_sum_46 : decode b_Ref_sum 46 = .ok (.lload_n 1, 1) := by decide +kernel
theorem d_Ref_sum_47 : decode b_Ref_sum 47 = .ok (.invokevirtual 104, 3) := by decide +kernel
theorem d_Ref_sum_50 : decode b_Ref_sum 50 = .ok (.ifCond .eq 7, 3) := by decide +kernel
theorem d_Ref_sum_53 : decode b_Ref_sum 53 = .ok (.lload_n 1, 1) := by decide +kernel
theorem d_Ref_sum_54 : decode b_Ref_sum 54 = .ok (.goto 4, 3) := by decide +kernel
theorem d_Ref_sum_57 : decode b_Ref_sum 57 = .ok (.lload_n 3, 1) := by decide +kernel
theorem d_Ref_sum_58 : decode b_Ref_sum 58 = .ok (.lreturn, 1) := by decide +kernel
theorem d_Ref_sum_59 : decode b_Ref_sum 59 = .ok (.aload_n 0, 1) := by decide +kernel
theorem d_Ref_sum_60 : decode b_Ref_sum 60 = .ok (.lload_n 3, 1) := by decide +kernel
theorem d_Ref_sum_61 : decode b_Ref_sum 61 = .ok (.invokevirtual 80, 3) := by decide +kernel
theorem d_Ref_sum_64 : decode b_Ref_sum 64 = .ok (.aload_n 0, 1) := by decide +kernel
theorem d_Ref_sum_65 : decode b_Ref_sum 65 = .ok (.lload_n 1, 1) := by decide +kernel
theorem d_Ref_sum_66 : decode b_Ref_sum 66 = .ok (.invokevirtual 80, 3) := by decide +kernel
theorem d_Ref_sum_69 : decode b_Ref_sum 69 = .ok (.lcmp, 1) := by decide +kernel
theorem d_Ref_sum_70 : decode b_Ref_sum 70 = .ok (.ifCond .le 7, 3) := by decide +kernel
theorem d_Ref_sum_73 : decode b_Ref_sum 73 = .ok (.iconst 1, 1) := by decide +kernel
theorem d_Ref_sum_74 : decode b_Ref_sum 74 = .ok (.goto 4, 3) := by decide +kernel
theorem d_Ref_sum_77 : decode b_Ref_sum 77 = .ok (.iconst 0, 1) := by decide +kernel
theorem d_Ref_sum_78 : decode b_Ref_sum 78 = .ok (.istore 5, 2) := by decide +kernel
theorem d_Ref_sum_80 : decode b_Ref_sum 80 = .ok (.iload 5, 2) := by decide +kernel
theorem d_Ref_sum_82 : decode b_Ref_sum 82 = .ok (.ifCond .eq 7, 3) := by decide +kernel
theorem d_Ref_sum_85 : decode b_Ref_sum 85 = .ok (.lload_n 3, 1) := by decide +kernel
theorem d_Ref_sum_86 : decode b_Ref_sum 86 = .ok (.goto 4, 3) := by decide +kernel
theorem d_Ref_sum_89 : decode b_Ref_sum 89 = .ok (.lload_n 1, 1) := by decide +kernel
theorem d_Ref_sum_90 : decode b_Ref_sum 90 = .ok (.lstore 6, 2) := by decide +kernel
theorem d_Ref_sum_92 : decode b_Ref_sum 92 = .ok (.iload 5, 2) := by decide +kernel
theorem d_Ref_sum_94 : decode b_Ref_sum 94 = .ok (.ifCond .eq 7, 3) := by decide +kernel
theorem d_Ref_sum_97 : decode b_Ref_sum 97 = .ok (.lload_n 1, 1) := by decide +kernel
theorem d_Ref_sum_98 : decode b_Ref_sum 98 = .ok (.goto 4, 3) := by decide +kernel
theorem d_Ref_sum_101 : decode b_Ref_sum 101 = .ok (.lload_n 3, 1) := by decide +kernel
theorem d_Ref_sum_102 : decode b_Ref_sum 102 = .ok (.lstore 8, 2) := by decide +kernel
theorem d_Ref_sum_104 : decode b_Ref_sum 104 = .ok (.aload_n 0, 1) := by decide +kernel
theorem d_Ref_sum_105 : decode b_Ref_sum 105 = .ok (.lload_n 1, 1) := by decide +kernel
theorem d_Ref_sum_106 : decode b_Ref_sum 106 = .ok (.invokevirtual 84, 3) := by decide +kernel
theorem d_Ref_sum_109 : decode b_Ref_sum 109 = .ok (.aload_n 0, 1) := by decide +kernel
theorem d_Ref_sum_110 : decode b_Ref_sum 110 = .ok (.lload_n 3, 1) := by decide +kernel
theorem d_Ref_sum_111 : decode b_Ref_sum 111 = .ok (.invokevirtual 84, 3) := by decide +kernel
theorem d_Ref_sum_114 : decode b_Ref_sum 114 = .ok (.if_icmp .eq 7, 3) := by decide +kernel
theorem d_Ref_sum_117 : decode b_Ref_sum 117 = .ok (.iconst 1, 1) := by decide +kernel
theorem d_Ref_sum_118 : decode b_Ref_sum 118 = .ok (.goto 4, 3) := by decide +kernel
theorem d_Ref_sum_121 : decode b_Ref_sum 121 = .ok (.iconst 0, 1) := by decide +kernel
theorem d_Ref_sum_122 : decode b_Ref_sum 122 = .ok (.istore 10, 2) := by decide +kernel
theorem d_Ref_sum_124 : decode b_Ref_sum 124 = .ok (.aload_n 0, 1) := by decide +kernel
theorem d_Ref_sum_125 : decode b_Ref_sum 125 = .ok (.lload_n 1, 1) := by decide +kernel
theorem d_Ref_sum_126 : decode b_Ref_sum 126 = .ok (.invokevirtual 80, 3) := by decide +kernel
theorem d_Ref_sum_129 : decode b_Ref_sum 129 = .ok (.aload_n 0, 1) := by decide +kernel
theorem d_Ref_sum_130 : decode b_Ref_sum 130 = .ok (.lload_n 3, 1) := by decide +kernel
theorem d_Ref_sum_131 : decode b_Ref_sum 131 = .ok (.invokevirtual 80, 3) := by decide +kernel
theorem d_Ref_sum_134 : decode b_Ref_sum 134 = .ok (.lcmp, 1) := by decide +kernel
theorem d_Ref_sum_135 : decode b_Ref_sum 135 = .ok (.ifCond .ne 8, 3) := by decide +kernel
theorem d_Ref_sum_138 : decode b_Ref_sum 138 = .ok (.iload 10, 2) := by decide +kernel
theorem d_Ref_sum_140 : decode b_Ref_sum 140 = .ok (.ifCond .ne 12, 3) := by decide +kernel
theorem d_Ref_sum_143 : decode b_Ref_sum 143 = .ok (.aload_n 0, 1) := by decide +kernel
theorem d_Ref_sum_144 : decode b_Ref_sum 144 = .ok (.lload 6, 2) := by decide +kernel
theorem d_Ref_sum_146 : decode b_Ref_sum 146 = .ok (.invokevirtual 111, 3) := by decide +kernel
theorem d_Ref_sum_149 : decode b_Ref_sum 149 = .ok (.ifCond .eq 30, 3) := by decide +kernel
theorem d_Ref_sum_152 : decode b_Ref_sum 152 = .ok (.aload_n 0, 1) := by decide +kernel
theorem d_Ref_sum_153 : decode b_Ref_sum 153 = .ok (.lconst 0, 1) := by decide +kernel
theorem d_Ref_sum_154 : decode b_Ref_sum 154 = .ok (.aload_n 0, 1) := by decide +kernel
theorem d_Ref_sum_155 : decode b_Ref_sum 155 = .ok (.lload_n 1, 1) := by decide +kernel
theorem d_Ref_sum_156 : decode b_Ref_sum 156 = .ok (.invokevirtual 84, 3) := by decide +kernel
theorem d_Ref_sum_159 : decode b_Ref_sum 159 = .ok (.ifCond .eq 15, 3) := by decide +kernel
theorem d_Ref_sum_162 : decode b_Ref_sum 162 = .ok (.aload_n 0, 1) := by decide +kernel
theorem d_Ref_sum_163 : decode b_Ref_sum 163 = .ok (.lload_n 3, 1) := by decide +kernel
theorem d_Ref_sum_164 : decode b_Ref_sum 164 = .ok (.invokevirtual 84, 3) := by decide +kernel
theorem d_Ref_sum_167 : decode b_Ref_sum 167 = .ok (.ifCond .eq 7, 3) := by decide +kernel
theorem d_Ref_sum_170 : decode b_Ref_sum 170 = .ok (.iconst 1, 1) := by decide +kernel
theorem d_Ref_sum_171 : decode b_Ref_sum 171 = .ok (.goto 4, 3) := by decide +kernel
theorem d_Ref_sum_174 : decode b_Ref_sum 174 = .ok (.iconst 0, 1) := by decide +kernel
theorem d_Ref_sum_175 : decode b_Ref_sum 175 = .ok (.invokevirtual 60, 3) := by decide +kernel
theorem d_Ref_sum_178 : decode b_Ref_sum 178 = .ok (.lreturn, 1) := by decide +kernel
theorem d_Ref_sum_179 : decode b_Ref_sum 179 = .ok (.aload_n 0, 1) := by decide +kernel
theorem d_Ref_sum_180 : decode b_Ref_sum 180 = .ok (.invokevirtual 114, 3) := by decide +kernel
theorem d_Ref_sum_183 : decode b_Ref_sum 183 = .ok (.aload_n 0, 1) := by decide +kernel
theorem d_Ref_sum_184 : decode b_Ref_sum 184 = .ok (.lload 6, 2) := by decide +kernel
theorem d_Ref_sum_186 : decode b_Ref_sum 186 = .ok (.invokevirtual 117, 3) := by decide +kernel
theorem d_Ref_sum_189 : decode b_Ref_sum 189 = .ok (.aload_n 0, 1) := by decide +kernel
theorem d_Ref_sum_190 : decode b_Ref_sum 190 = .ok (.getfield 88, 3) := by decide +kernel
theorem d_Ref_sum_193 : decode b_Ref_sum 193 = .ok (.istore 11, 2) := by decide +kernel
theorem d_Ref_sum_195 : decode b_Ref_sum 195 = .ok (.aload_n 0, 1) := by decide +kernel
theorem d_Ref_sum_196 : decode b_Ref_sum 196 = .ok (.aload_n 0, 1) := by decide +kernel
theorem d_Ref_sum_197 : decode b_Ref_sum 197 = .ok (.getfield 91, 3) := by decide +kernel
theorem d_Ref_sum_200 : decode b_Ref_sum 200 = .ok (.aload_n 0, 1) := by decide +kernel
theorem d_Ref_sum_201 : decode b_Ref_sum 201 = .ok (.getfield 94, 3) := by decide +kernel
theorem d_Ref_sum_204 : decode b_Ref_sum 204 = .ok (.invokevirtual 121, 3) := by decide +kernel
theorem d_Ref_sum_207 : decode b_Ref_sum 207 = .ok (.aload_n 0, 1) := by decide +kernel
theorem d_Ref_sum_208 : decode b_Ref_sum 208 = .ok (.lload 8, 2) := by decide +kernel
theorem d_Ref_sum_210 : decode b_Ref_sum 210 = .ok (.invokevirtual 117, 3) := by decide +kernel
theorem d_Ref_sum_213 : decode b_Ref_sum 213 = .ok (.iload 10, 2) := by decide +kernel
theorem d_Ref_sum_215 : decode b_Ref_sum 215 = .ok (.ifCond .eq 18, 3) := by decide +kernel
theorem d_Ref_sum_218 : decode b_Ref_sum 218 = .ok (.aload_n 0, 1) := by decide +kernel
theorem d_Ref_sum_219 : decode b_Ref_sum 219 = .ok (.aload_n 0, 1) := by decide +kernel
theorem d_Ref_sum_220 : decode b_Ref_sum 220 = .ok (.getfield 91, 3) := by decide +kernel
theorem d_Ref_sum_223 : decode b_Ref_sum 223 = .ok (.aload_n 0, 1) := by decide +kernel
theorem d_Ref_sum_224 : decode b_Ref_sum 224 = .ok (.getfield 94, 3) := by decide +kernel
theorem d_Ref_sum_227 : decode b_Ref_sum 227 = .ok (.invokevirtual 125, 3) := by decide +kernel
theorem d_Ref_sum_230 : decode b_Ref_sum 230 = .ok (.goto 15, 3) := by decide +kernel
theorem d_Ref_sum_233 : decode b_Ref_sum 233 = .ok (.aload_n 0, 1) := by decide +kernel
theorem d_Ref_sum_234 : decode b_Ref_sum 234 = .ok (.aload_n 0, 1) := by decide +kernel
theorem d_Ref_sum_235 : decode b_Ref_sum 235 = .ok (.getfield 91, 3) := by decide +kernel
theorem d_Ref_sum_238 : decode b_Ref_sum 238 = .ok (.aload_n 0, 1) := by decide +kernel
theorem d_Ref_sum_239 : decode b_Ref_sum 239 = .ok (.getfield 94, 3) := by decide +kernel
theorem d_Ref_sum_242 : decode b_Ref_sum 242 = .ok (.invokevirtual 121, 3) := by decide +kernel
theorem d_Ref_sum_245 : decode b_Ref_sum 245 = .ok (.aload_n 0, 1) := by decide +kernel
theorem d_Ref_sum_246 : decode b_Ref_sum 246 = .ok (.iload 11, 2) := by decide +kernel
theorem d_Ref_sum_248 : decode b_Ref_sum 248 = .ok (.invokevirtual 128, 3) := by decide +kernel
theorem d_Ref_sum_251 : decode b_Ref_sum 251 = .ok (.lreturn, 1) := by decide +kernel
abbrev b_Ref_take : ByteArray := prog_11_method_12_code
def y_Ref_take : MethodName := ⟨"BitArithmeticModel", "take", "(JI)V"⟩
theorem d_Ref_take_0 : decode b_Ref_take 0 = .ok (.iconst 0, 1) := by decide +kernel
theorem d_Ref_take_1 : decode b_Ref_take 1 = .ok (.istore 4, 2) := by decide +kernel
theorem d_Ref_take_3 : decode b_Ref_take 3 = .ok (.sipush 2200, 3) := by decide +kernel
theorem d_Ref_take_6 : decode b_Ref_take 6 = .ok (.iload_n 3, 1) := by decide +kernel
theorem d_Ref_take_7 : decode b_Ref_take 7 = .ok (.iadd, 1) := by decide +kernel
theorem d_Ref_take_8 : decode b_Ref_take 8 = .ok (.istore 5, 2) := by decide +kernel
theorem d_Ref_take_10 : decode b_Ref_take 10 = .ok (.lload_n 1, 1) := by decide +kernel
theorem d_Ref_take_11 : decode b_Ref_take 11 = .ok (.lstore 6, 2) := by decide +kernel
theorem d_Ref_take_13 : decode b_Ref_take 13 = .ok (.aload_n 0, 1) := by decide +kernel
theorem d_Ref_take_14 : decode b_Ref_take 14 = .ok (.iload 5, 2) := by decide +kernel
theorem d_Ref_take_16 : decode b_Ref_take 16 = .ok (.iload 5, 2) := by decide +kernel
theorem d_Ref_take_18 : decode b_Ref_take 18 = .ok (.invokevirtual 45, 3) := by decide +kernel
theorem d_Ref_take_21 : decode b_Ref_take 21 = .ok (.lload 6, 2) := by decide +kernel
theorem d_Ref_take_23 : decode b_Ref_take 23 = .ok (.lconst 0, 1) := by decide +kernel
theorem d_Ref_take_24 : decode b_Ref_take 24 = .ok (.lcmp, 1) := by decide +kernel
theorem d_Ref_take_25 : decode b_Ref_take 25 = .ok (.ifCond .ne 8, 3) := by decide +kernel
theorem d_Ref_take_28 : decode b_Ref_take 28 = .ok (.iload 4, 2) := by decide +kernel
theorem d_Ref_take_30 : decode b_Ref_take 30 = .ok (.ifCond .le 65, 3) := by decide +kernel
theorem d_Ref_take_33 : decode b_Ref_take 33 = .ok (.aload_n 0, 1) := by decide +kernel
theorem d_Ref_take_34 : decode b_Ref_take 34 = .ok (.getfield 7, 3) := by decide +kernel
theorem d_Ref_take_37 : decode b_Ref_take 37 = .ok (.iload 5, 2) := by decide +kernel
theorem d_Ref_take_39 : decode b_Ref_take 39 = .ok (.baload, 1) := by decide +kernel
theorem d_Ref_take_40 : decode b_Ref_take 40 = .ok (.lload 6, 2) := by decide +kernel
theorem d_Ref_take_42 : decode b_Ref_take 42 = .ok (.lconst 1, 1) := by decide +kernel
theorem d_Ref_take_43 : decode b_Ref_take 43 = .ok (.land, 1) := by decide +kernel
theorem d_Ref_take_44 : decode b_Ref_take 44 = .ok (.l2i, 1) := by decide +kernel
theorem d_Ref_take_45 : decode b_Ref_take 45 = .ok (.isub, 1) := by decide +kernel
theorem d_Ref_take_46 : decode b_Ref_take 46 = .ok (.iload 4, 2) := by decide +kernel
theorem d_Ref_take_48 : decode b_Ref_take 48 = .ok (.isub, 1) := by decide +kernel
theorem d_Ref_take_49 : decode b_Ref_take 49 = .ok (.istore 8, 2) := by decide +kernel
theorem d_Ref_take_51 : decode b_Ref_take 51 = .ok (.aload_n 0, 1) := by decide +kernel
theorem d_Ref_take_52 : decode b_Ref_take 52 = .ok (.getfield 7, 3) := by decide +kernel
theorem d_Ref_take_55 : decode b_Ref_take 55 = .ok (.iload 5, 2) := by decide +kernel
theorem d_Ref_take_57 : decode b_Ref_take 57 = .ok (.iload 8, 2) := by decide +kernel
theorem d_Ref_take_59 : decode b_Ref_take 59 = .ok (.iconst 1, 1) := by decide +kernel
theorem d_Ref_take_60 : decode b_Ref_take 60 = .ok (.iand, 1) := by decide +kernel
theorem d_Ref_take_61 : decode b_Ref_take 61 = .ok (.i2b, 1) := by decide +kernel
theorem d_Ref_take_62 : decode b_Ref_take 62 = .ok (.bastore, 1) := by decide +kernel
theorem d_Ref_take_63 : decode b_Ref_take 63 = .ok (.iload 8, 2) := by decide +kernel
theorem d_Ref_take_65 : decode b_Ref_take 65 = .ok (.ifCond .ge 7, 3) := by decide +kernel
theorem d_Ref_take_68 : decode b_Ref_take 68 = .ok (.iconst 1, 1) := by decide +kernel
theorem d_Ref_take_69 : decode b_Ref_take 69 = .ok (.goto 4, 3) := by decide +kernel
theorem d_Ref_take_72 : decode b_Ref_take 72 = .ok (.iconst 0, 1) := by decide +kernel
theorem d_Ref_take_73 : decode b_Ref_take 73 = .ok (.istore 4, 2) := by decide +kernel
theorem d_Ref_take_75 : decode b_Ref_take 75 = .ok (.aload_n 0, 1) := by decide +kernel
theorem d_Ref_take_76 : decode b_Ref_take 76 = .ok (.iload 5, 2) := by decide +kernel
theorem d_Ref_take_78 : decode b_Ref_take 78 = .ok (.iload 5, 2) := by decide +kernel
theorem d_Ref_take_80 : decode b_Ref_take 80 = .ok (.invokevirtual 45, 3) := by decide +kernel
theorem d_Ref_take_83 : decode b_Ref_take 83 = .ok (.lload 6, 2) := by decide +kernel
theorem d_Ref_take_85 : decode b_Ref_take 85 = .ok (.iconst 1, 1) := by decide +kernel
theorem d_Ref_take_86 : decode b_Ref_take 86 = .ok (.lushr, 1) := by decide +kernel
theorem d_Ref_take_87 : decode b_Ref_take 87 = .ok (.lstore 6, 2) := by decide +kernel
theorem d_Ref_take_89 : decode b_Ref_take 89 = .ok (.iinc 5 1, 3) := by decide +kernel
theorem d_Ref_take_92 : decode b_Ref_take 92 = .ok (.goto (-71), 3) := by decide +kernel
theorem d_Ref_take_95 : decode b_Ref_take 95 = .ok (.return_, 1) := by decide +kernel
abbrev b_Ref_product : ByteArray := prog_11_method_29_code
def y_Ref_product : MethodName := ⟨"BitArithmeticModel", "product", "(JJ)J"⟩
theorem d_Ref_product_0 : decode b_Ref_product 0 = .ok (.aload_n 0, 1) := by decide +kernel
theorem d_Ref_product_1 : decode b_Ref_product 1 = .ok (.lload_n 1, 1) := by decide +kernel
theorem d_Ref_product_2 : decode b_Ref_product 2 = .ok (.invokevirtual 84, 3) := by decide +kernel
theorem d_Ref_product_5 : decode b_Ref_product 5 = .ok (.aload_n 0, 1) := by decide +kernel
theorem d_Ref_product_6 : decode b_Ref_product 6 = .ok (.lload_n 3, 1) := by decide +kernel
theorem d_Ref_product_7 : decode b_Ref_product 7 = .ok (.invokevirtual 84, 3) := by decide +kernel
theorem d_Ref_product_10 : decode b_Ref_product 10 = .ok (.if_icmp .eq 7, 3) := by decide +kernel
theorem d_Ref_product_13 : decode b_Ref_product 13 = .ok (.iconst 1, 1) := by decide +kernel
theorem d_Ref_product_14 : decode b_Ref_product 14 = .ok (.goto 4, 3) := by decide +kernel
theorem d_Ref_product_17 : decode b_Ref_product 17 = .ok (.iconst 0, 1) := by decide +kernel
theorem d_Ref_product_18 : decode b_Ref_product 18 = .ok (.istore 5, 2) := by decide +kernel
theorem d_Ref_product_20 : decode b_Ref_product 20 = .ok (.aload_n 0, 1) := by decide +kernel
theorem d_Ref_product_21 : decode b_Ref_product 21 = .ok (.lload_n 1, 1) := by decide +kernel
theorem d_Ref_product_22 : decode b_Ref_product 22 = .ok (.invokevirtual 104, 3) := by decide +kernel
theorem d_Ref_product_25 : decode b_Ref_product 25 = .ok (.ifCond .ne 11, 3) := by decide +kernel
theorem d_Ref_product_28 : decode b_Ref_product 28 = .ok (.aload_n 0, 1) := by decide +kernel
theorem d_Ref_product_29 : decode b_Ref_product 29 = .ok (.lload_n 3, 1) := by decide +kernel
theorem d_Ref_product_30 : decode b_Ref_product 30 = .ok (.invokevirtual 104, 3) := by decide +kernel
theorem d_Ref_product_33 : decode b_Ref_product 33 = .ok (.ifCond .eq 33, 3) := by decide +kernel
theorem d_Ref_product_36 : decode b_Ref_product 36 = .ok (.aload_n 0, 1) := by decide +kernel
theorem d_Ref_product_37 : decode b_Ref_product 37 = .ok (.lload_n 1, 1) := by decide +kernel
theorem d_Ref_product_38 : decode b_Ref_product 38 = .ok (.invokevirtual 111, 3) := by decide +kernel
theorem d_Ref_product_41 : decode b_Ref_product 41 = .ok (.ifCond .ne 11, 3) := by decide +kernel
theorem d_Ref_product_44 : decode b_Ref_product 44 = .ok (.aload_n 0, 1) := by decide +kernel
theorem d_Ref_product_45 : decode b_Ref_product 45 = .ok (.lload_n 3, 1) := by decide +kernel
theorem d_Ref_product_46 : decode b_Ref_product 46 = .ok (.invokevirtual 111, 3) := by decide +kernel
theorem d_Ref_product_49 : decode b_Ref_product 49 = .ok (.ifCond .eq 10, 3) := by decide +kernel
theorem d_Ref_product_52 : decode b_Ref_product 52 = .ok (.aload_n 0, 1) := by decide +kernel
theorem d_Ref_product_53 : decode b_Ref_product 53 = .ok (.invokevirtual 107, 3) := by decide +kernel
theorem d_Ref_product_56 : decode b_Ref_product 56 = .ok (.goto 9, 3) := by decide +kernel
theorem d_Ref_product_59 : decode b_Ref_product 59 = .ok (.aload_n 0, 1) := by decide +kernel
theorem d_Ref_product_60 : decode b_Ref_product 60 = .ok (.iload 5, 2) := by decide +kernel
theorem d_Ref_product_62 : decode b_Ref_product 62 = .ok (.invokevirtual 72, 3) := by decide +kernel
theorem d_Ref_product_65 : decode b_Ref_product 65 = .ok (.lreturn, 1) := by decide +kernel
theorem d_Ref_product_66 : decode b_Ref_product 66 = .ok (.aload_n 0, 1) := by decide +kernel
theorem d_Ref_product_67 : decode b_Ref_product 67 = .ok (.lload_n 1, 1) := by decide +kernel
theorem d_Ref_product_68 : decode b_Ref_product 68 = .ok (.invokevirtual 111, 3) := by decide +kernel
theorem d_Ref_product_71 : decode b_Ref_product 71 = .ok (.ifCond .ne 11, 3) := by decide +kernel
theorem d_Ref_product_74 : decode b_Ref_product 74 = .ok (.aload_n 0, 1) := by decide +kernel
theorem d_Ref_product_75 : decode b_Ref_product 75 = .ok (.lload_n 3, 1) := by decide +kernel
theorem d_Ref_product_76 : decode b_Ref_product 76 = .ok (.invokevirtual 111, 3) := by decide +kernel
theorem d_Ref_product_79 : decode b_Ref_product 79 = .ok (.ifCond .eq 11, 3) := by decide +kernel
theorem d_Ref_product_82 : decode b_Ref_product 82 = .ok (.aload_n 0, 1) := by decide +kernel
theorem d_Ref_product_83 : decode b_Ref_product 83 = .ok (.lconst 0, 1) := by decide +kernel
theorem d_Ref_product_84 : decode b_Ref_product 84 = .ok (.iload 5, 2) := by decide +kernel
theorem d_Ref_product_86 : decode b_Ref_product 86 = .ok (.invokevirtual 60, 3) := by decide +kernel
theorem d_Ref_product_89 : decode b_Ref_product 89 = .ok (.lreturn, 1) := by decide +kernel
theorem d_Ref_product_90 : decode b_Ref_product 90 = .ok (.aload_n 0, 1) := by decide +kernel
theorem d_Ref_product_91 : decode b_Ref_product 91 = .ok (.lload_n 1, 1) := by decide +kernel
theorem d_Ref_product_92 : decode b_Ref_product 92 = .ok (.invokevirtual 117, 3) := by decide +kernel
theorem d_Ref_product_95 : decode b_Ref_product 95 = .ok (.aload_n 0, 1) := by decide +kernel
theorem d_Ref_product_96 : decode b_Ref_product 96 = .ok (.getfield 91, 3) := by decide +kernel
theorem d_Ref_product_99 : decode b_Ref_product 99 = .ok (.lstore 6, 2) := by decide +kernel
theorem d_Ref_product_101 : decode b_Ref_product 101 = .ok (.aload_n 0, 1) := by decide +kernel
theorem d_Ref_product_102 : decode b_Ref_product 102 = .ok (.getfield 94, 3) := by decide +kernel
theorem d_Ref_product_105 : decode b_Ref_product 105 = .ok (.istore 8, 2) := by decide +kernel
theorem d_Ref_product_107 : decode b_Ref_product 107 = .ok (.aload_n 0, 1) := by decide +kernel
theorem d_Ref_product_108 : decode b_Ref_product 108 = .ok (.lload_n 3, 1) := by decide +kernel
theorem d_Ref_product_109 : decode b_Ref_product 109 = .ok (.invokevirtual 117, 3) := by decide +kernel
theorem d_Ref_product_112 : decode b_Ref_product 112 = .ok (.iload 8, 2) := by decide +kernel
theorem d_Ref_product_114 : decode b_Ref_product 114 = .ok (.aload_n 0, 1) := by decide +kernel
theorem d_Ref_product_115 : decode b_Ref_product 115 = .ok (.getfield 94, 3) := by decide +kernel
theorem d_Ref_product_118 : decode b_Ref_product 118 = .ok (.iadd, 1) := by decide +kernel
theorem d_Ref_product_119 : decode b_Ref_product 119 = .ok (.istore 8, 2) := by decide +kernel
theorem d_Ref_product_121 : decode b_Ref_product 121 = .ok (.aload_n 0, 1) := by decide +kernel
theorem d_Ref_product_122 : decode b_Ref_product 122 = .ok (.invokevirtual 114, 3) := by decide +kernel
theorem d_Ref_product_125 : decode b_Ref_product 125 = .ok (.iconst 0, 1) := by decide +kernel
theorem d_Ref_product_126 : decode b_Ref_product 126 = .ok (.istore 9, 2) := by decide +kernel
theorem d_Ref_product_128 : decode b_Ref_product 128 = .ok (.iload 9, 2) := by decide +kernel
theorem d_Ref_product_130 : decode b_Ref_product 130 = .ok (.bipush 53, 2) := by decide +kernel
theorem d_Ref_product_132 : decode b_Ref_product 132 = .ok (.if_icmp .ge 34, 3) := by decide +kernel
theorem d_Ref_product_135 : decode b_Ref_product 135 = .ok (.lload 6, 2) := by decide +kernel
theorem d_Ref_product_137 : decode b_Ref_product 137 = .ok (.iload 9, 2) := by decide +kernel
theorem d_Ref_product_139 : decode b_Ref_product 139 = .ok (.lshr, 1) := by decide +kernel
theorem d_Ref_product_140 : decode b_Ref_product 140 = .ok (.lconst 1, 1) := by decide +kernel
theorem d_Ref_product_141 : decode b_Ref_product 141 = .ok (.land, 1) := by decide +kernel
theorem d_Ref_product_142 : decode b_Ref_product 142 = .ok (.lconst 1, 1) := by decide +kernel
theorem d_Ref_product_143 : decode b_Ref_product 143 = .ok (.lcmp, 1) := by decide +kernel
theorem d_Ref_product_144 : decode b_Ref_product 144 = .ok (.ifCond .ne 16, 3) := by decide +kernel
theorem d_Ref_product_147 : decode b_Ref_product 147 = .ok (.aload_n 0, 1) := by decide +kernel
theorem d_Ref_product_148 : decode b_Ref_product 148 = .ok (.aload_n 0, 1) := by decide +kernel
theorem d_Ref_product_149 : decode b_Ref_product 149 = .ok (.getfield 91, 3) := by decide +kernel
theorem d_Ref_product_152 : decode b_Ref_product 152 = .ok (.iload 8, 2) := by decide +kernel
theorem d_Ref_product_154 : decode b_Ref_product 154 = .ok (.iload 9, 2) := by decide +kernel
theorem d_Ref_product_156 : decode b_Ref_product 156 = .ok (.iadd, 1) := by decide +kernel
theorem d_Ref_product_157 : decode b_Ref_product 157 = .ok (.invokevirtual 121, 3) := by decide +kernel
theorem d_Ref_product_160 : decode b_Ref_product 160 = .ok (.iinc 9 1, 3) := by decide +kernel
theorem d_Ref_product_163 : decode b_Ref_product 163 = .ok (.goto (-35), 3) := by decide +kernel
theorem d_Ref_product_166 : decode b_Ref_product 166 = .ok (.aload_n 0, 1) := by decide +kernel
theorem d_Ref_product_167 : decode b_Ref_product 167 = .ok (.iload 5, 2) := by decide +kernel
theorem d_Ref_product_169 : decode b_Ref_product 169 = .ok (.invokevirtual 128, 3) := by decide +kernel
theorem d_Ref_product_172 : decode b_Ref_product 172 = .ok (.lreturn, 1) := by decide +kernel
abbrev b_Ref_quotient : ByteArray := prog_11_method_30_code
def y_Ref_quotient : MethodName := ⟨"BitArithmeticModel", "quotient", "(JJ)J"⟩
theorem d_Ref_quotient_0 : decode b_Ref_quotient 0 = .ok (.aload_n 0, 1) := by decide +kernel
theorem d_Ref_quotient_1 : decode b_Ref_quotient 1 = .ok (.lload_n 1, 1) := by decide +kernel
theorem d_Ref_quotient_2 : decode b_Ref_quotient 2 = .ok (.invokevirtual 84, 3) := by decide +kernel
theorem d_Ref_quotient_5 : decode b_Ref_quotient 5 = .ok (.aload_n 0, 1) := by decide +kernel
theorem d_Ref_quotient_6 : decode b_Ref_quotient 6 = .ok (.lload_n 3, 1) := by decide +kernel
theorem d_Ref_quotient_7 : decode b_Ref_quotient 7 = .ok (.invokevirtual 84, 3) := by decide +kernel
theorem d_Ref_quotient_10 : decode b_Ref_quotient 10 = .ok (.if_icmp .eq 7, 3) := by decide +kernel
theorem d_Ref_quotient_13 : decode b_Ref_quotient 13 = .ok (.iconst 1, 1) := by decide +kernel
theorem d_Ref_quotient_14 : decode b_Ref_quotient 14 = .ok (.goto 4, 3) := by decide +kernel
theorem d_Ref_quotient_17 : decode b_Ref_quotient 17 = .ok (.iconst 0, 1) := by decide +kernel
theorem d_Ref_quotient_18 : decode b_Ref_quotient 18 = .ok (.istore 5, 2) := by decide +kernel
theorem d_Ref_quotient_20 : decode b_Ref_quotient 20 = .ok (.aload_n 0, 1) := by decide +kernel
theorem d_Ref_quotient_21 : decode b_Ref_quotient 21 = .ok (.lload_n 1, 1) := by decide +kernel
theorem d_Ref_quotient_22 : decode b_Ref_quotient 22 = .ok (.invokevirtual 104, 3) := by decide +kernel
theorem d_Ref_quotient_25 : decode b_Ref_quotient 25 = .ok (.ifCond .eq 11, 3) := by decide +kernel
theorem d_Ref_quotient_28 : decode b_Ref_quotient 28 = .ok (.aload_n 0, 1) := by decide +kernel
theorem d_Ref_quotient_29 : decode b_Ref_quotient 29 = .ok (.lload_n 3, 1) := by decide +kernel
theorem d_Ref_quotient_30 : decode b_Ref_quotient 30 = .ok (.invokevirtual 104, 3) := by decide +kernel
theorem d_Ref_quotient_33 : decode b_Ref_quotient 33 = .ok (.ifCond .ne 19, 3) := by decide +kernel
theorem d_Ref_quotient_36 : decode b_Ref_quotient 36 = .ok (.aload_n 0, 1) := by decide +kernel
theorem d_Ref_quotient_37 : decode b_Ref_quotient 37 = .ok (.lload_n 1, 1) := by decide +kernel
theorem d_Ref_quotient_38 : decode b_Ref_quotient 38 = .ok (.invokevirtual 111, 3) := by decide +kernel
theorem d_Ref_quotient_41 : decode b_Ref_quotient 41 = .ok (.ifCond .eq 16, 3) := by decide +kernel
theorem d_Ref_quotient_44 : decode b_Ref_quotient 44 = .ok (.aload_n 0, 1) := by decide +kernel
theorem d_Ref_quotient_45 : decode b_Ref_quotient 45 = .ok (.lload_n 3, 1) := by decide +kernel
theorem d_Ref_quotient_46 : decode b_Ref_quotient 46 = .ok (.invokevirtual 111, 3) := by decide +kernel
theorem d_Ref_quotient_49 : decode b_Ref_quotient 49 = .ok (.ifCond .eq 8, 3) := by decide +kernel
theorem d_Ref_quotient_52 : decode b_Ref_quotient 52 = .ok (.aload_n 0, 1) := by decide +kernel
theorem d_Ref_quotient_53 : decode b_Ref_quotient 53 = .ok (.invokevirtual 107, 3) := by decide +kernel
theorem d_Ref_quotient_56 : decode b_Ref_quotient 56 = .ok (.lreturn, 1) := by decide +kernel
theorem d_Ref_quotient_57 : decode b_Ref_quotient 57 = .ok (.aload_n 0, 1) := by decide +kernel
theorem d_Ref_quotient_58 : decode b_Ref_quotient 58 = .ok (.lload_n 1, 1) := by decide +kernel
theorem d_Ref_quotient_59 : decode b_Ref_quotient 59 = .ok (.invokevirtual 104, 3) := by decide +kernel
theorem d_Ref_quotient_62 : decode b_Ref_quotient 62 = .ok (.ifCond .ne 11, 3) := by decide +kernel
theorem d_Ref_quotient_65 : decode b_Ref_quotient 65 = .ok (.aload_n 0, 1) := by decide +kernel
theorem d_Ref_quotient_66 : decode b_Ref_quotient 66 = .ok (.lload_n 3, 1) := by decide +kernel
theorem d_Ref_quotient_67 : decode b_Ref_quotient 67 = .ok (.invokevirtual 111, 3) := by decide +kernel
theorem d_Ref_quotient_70 : decode b_Ref_quotient 70 = .ok (.ifCond .eq 10, 3) := by decide +kernel
theorem d_Ref_quotient_73 : decode b_Ref_quotient 73 = .ok (.aload_n 0, 1) := by decide +kernel
theorem d_Ref_quotient_74 : decode b_Ref_quotient 74 = .ok (.iload 5, 2) := by decide +kernel
theorem d_Ref_quotient_76 : decode b_Ref_quotient 76 = .ok (.invokevirtual 72, 3) := by decide +kernel
theorem d_Ref_quotient_79 : decode b_Ref_quotient 79 = .ok (.lreturn, 1) := by decide +kernel
theorem d_Ref_quotient_80 : decode b_Ref_quotient 80 = .ok (.aload_n 0, 1) := by decide +kernel
theorem d_Ref_quotient_81 : decode b_Ref_quotient 81 = .ok (.lload_n 3, 1) := by decide +kernel
theorem d_Ref_quotient_82 : decode b_Ref_quotient 82 = .ok (.invokevirtual 104, 3) := by decide +kernel
theorem d_Ref_quotient_85 : decode b_Ref_quotient 85 = .ok (.ifCond .ne 11, 3) := by decide +kernel
theorem d_Ref_quotient_88 : decode b_Ref_quotient 88 = .ok (.aload_n 0, 1) := by decide +kernel
theorem d_Ref_quotient_89 : decode b_Ref_quotient 89 = .ok (.lload_n 1, 1) := by decide +kernel
theorem d_Ref_quotient_90 : decode b_Ref_quotient 90 = .ok (.invokevirtual 111, 3) := by decide +kernel
theorem d_Ref_quotient_93 : decode b_Ref_quotient 93 = .ok (.ifCond .eq 11, 3) := by decide +kernel
theorem d_Ref_quotient_96 : decode b_Ref_quotient 96 = .ok (.aload_n 0, 1) := by decide +kernel
theorem d_Ref_quotient_97 : decode b_Ref_quotient 97 = .ok (.lconst 0, 1) := by decide +kernel
theorem d_Ref_quotient_98 : decode b_Ref_quotient 98 = .ok (.iload 5, 2) := by decide +kernel
theorem d_Ref_quotient_100 : decode b_Ref_quotient 100 = .ok (.invokevirtual 60, 3) := by decide +kernel
theorem d_Ref_quotient_103 : decode b_Ref_quotient 103 = .ok (.lreturn, 1) := by decide +kernel
theorem d_Ref_quotient_104 : decode b_Ref_quotient 104 = .ok (.aload_n 0, 1) := by decide +kernel
theorem d_Ref_quotient_105 : decode b_Ref_quotient 105 = .ok (.lload_n 3, 1) := by decide +kernel
theorem d_Ref_quotient_106 : decode b_Ref_quotient 106 = .ok (.invokevirtual 117, 3) := by decide +kernel
theorem d_Ref_quotient_109 : decode b_Ref_quotient 109 = .ok (.aload_n 0, 1) := by decide +kernel
theorem d_Ref_quotient_110 : decode b_Ref_quotient 110 = .ok (.getfield 91, 3) := by decide +kernel
theorem d_Ref_quotient_113 : decode b_Ref_quotient 113 = .ok (.lstore 6, 2) := by decide +kernel
theorem d_Ref_quotient_115 : decode b_Ref_quotient 115 = .ok (.aload_n 0, 1) := by decide +kernel
theorem d_Ref_quotient_116 : decode b_Ref_quotient 116 = .ok (.getfield 94, 3) := by decide +kernel
theorem d_Ref_quotient_119 : decode b_Ref_quotient 119 = .ok (.ineg, 1) := by decide +kernel
theorem d_Ref_quotient_120 : decode b_Ref_quotient 120 = .ok (.istore 8, 2) := by decide +kernel
theorem d_Ref_quotient_122 : decode b_Ref_quotient 122 = .ok (.aload_n 0, 1) := by decide +kernel
theorem d_Ref_quotient_123 : decode b_Ref_quotient 123 = .ok (.lload_n 1, 1) := by decide +kernel
theorem d_Ref_quotient_124 : decode b_Ref_quotient 124 = .ok (.invokevirtual 117, 3) := by decide +kernel
theorem d_Ref_quotient_127 : decode b_Ref_quotient 127 = .ok (.iload 8, 2) := by decide +kernel
theorem d_Ref_quotient_129 : decode b_Ref_quotient 129 = .ok (.aload_n 0, 1) := by decide +kernel
theorem d_Ref_quotient_130 : decode b_Ref_quotient 130 = .ok (.getfield 94, 3) := by decide +kernel
theorem d_Ref_quotient_133 : decode b_Ref_quotient 133 = .ok (.iadd, 1) := by decide +kernel
theorem d_Ref_quotient_134 : decode b_Ref_quotient 134 = .ok (.istore 8, 2) := by decide +kernel
theorem d_Ref_quotient_136 : decode b_Ref_quotient 136 = .ok (.aload_n 0, 1) := by decide +kernel
theorem d_Ref_quotient_137 : decode b_Ref_quotient 137 = .ok (.invokevirtual 114, 3) := by decide +kernel
theorem d_Ref_quotient_140 : decode b_Ref_quotient 140 = .ok (.lconst 0, 1) := by decide +kernel
theorem d_Ref_quotient_141 : decode b_Ref_quotient 141 = .ok (.lstore 9, 2) := by decide +kernel
theorem d_Ref_quotient_143 : decode b_Ref_quotient 143 = .ok (.bipush 52, 2) := by decide +kernel
theorem d_Ref_quotient_145 : decode b_Ref_quotient 145 = .ok (.istore 11, 2) := by decide +kernel
theorem d_Ref_quotient_147 : decode b_Ref_quotient 147 = .ok (.iload 11, 2) := by decide +kernel
theorem d_Ref_quotient_149 : decode b_Ref_quotient 149 = .ok (.bipush (-110), 2) := by decide +kernel
theorem d_Ref_quotient_151 : decode b_Ref_quotient 151 = .ok (.if_icmp .lt 61, 3) := by decide +kernel
theorem d_Ref_quotient_154 : decode b_Ref_quotient 154 = .ok (.ldc2_w 58, 3) := by decide +kernel
theorem d_Ref_quotient_157 : decode b_Ref_quotient 157 = .ok (.lload 9, 2) := by decide +kernel
theorem d_Ref_quotient_159 : decode b_Ref_quotient 159 = .ok (.lmul, 1) := by decide +kernel
theorem d_Ref_quotient_160 : decode b_Ref_quotient 160 = .ok (.iload 11, 2) := by decide +kernel
theorem d_Ref_quotient_162 : decode b_Ref_quotient 162 = .ok (.ifCond .ge 7, 3) := by decide +kernel
theorem d_Ref_quotient_165 : decode b_Ref_quotient 165 = .ok (.lconst 0, 1) := by decide +kernel
theorem d_Ref_quotient_166 : decode b_Ref_quotient 166 = .ok (.goto 12, 3) := by decide +kernel
theorem d_Ref_quotient_169 : decode b_Ref_quotient 169 = .ok (.aload_n 0, 1) := by decide +kernel
theorem d_Ref_quotient_170 : decode b_Ref_quotient 170 = .ok (.getfield 91, 3) := by decide +kernel
theorem d_Ref_quotient_173 : decode b_Ref_quotient 173 = .ok (.iload 11, 2) := by decide +kernel
theorem d_Ref_quotient_175 : decode b_Ref_quotient 175 = .ok (.lshr, 1) := by decide +kernel
theorem d_Ref_quotient_176 : decode b_Ref_quotient 176 = .ok (.lconst 1, 1) := by decide +kernel
theorem d_Ref_quotient_177 : decode b_Ref_quotient 177 = .ok (.land, 1) := by decide +kernel
theorem d_Ref_quotient_178 : decode b_Ref_quotient 178 = .ok (.ladd, 1) := by decide +kernel
theorem d_Ref_quotient_179 : decode b_Ref_quotient 179 = .ok (.lstore 9, 2) := by decide +kernel
theorem d_Ref_quotient_181 : decode b_Ref_quotient 181 = .ok (.lload 9, 2) := by decide +kernel
theorem d_Ref_quotient_183 : decode b_Ref_quotient 183 = .ok (.lload 6, 2) := by decide +kernel
theorem d_Ref_quotient_185 : decode b_Ref_quotient 185 = .ok (.lcmp, 1) := by decide +kernel
theorem d_Ref_quotient_186 : decode b_Ref_quotient 186 = .ok (.ifCond .lt 20, 3) := by decide +kernel
theorem d_Ref_quotient_189 : decode b_Ref_quotient 189 = .ok (.lload 9, 2) := by decide +kernel
theorem d_Ref_quotient_191 : decode b_Ref_quotient 191 = .ok (.lload 6, 2) := by decide +kernel
theorem d_Ref_quotient_193 : decode b_Ref_quotient 193 = .ok (.lsub, 1) := by decide +kernel
theorem d_Ref_quotient_194 : decode b_Ref_quotient 194 = .ok (.lstore 9, 2) := by decide +kernel
theorem d_Ref_quotient_196 : decode b_Ref_quotient 196 = .ok (.aload_n 0, 1) := by decide +kernel
theorem d_Ref_quotient_197 : decode b_Ref_quotient 197 = .ok (.lconst 1, 1) := by decide +kernel
theorem d_Ref_quotient_198 : decode b_Ref_quotient 198 = .ok (.iload 8, 2) := by decide +kernel
theorem d_Ref_quotient_200 : decode b_Ref_quotient 200 = .ok (.iload 11, 2) := by decide +kernel
theorem d_Ref_quotient_202 : decode b_Ref_quotient 202 = .ok (.iadd, 1) := by decide +kernel
theorem d_Ref_quotient_203 : decode b_Ref_quotient 203 = .ok (.invokevirtual 121, 3) := by decide +kernel
theorem d_Ref_quotient_206 : decode b_Ref_quotient 206 = .ok (.iinc 11 (-1), 3) := by decide +kernel
theorem d_Ref_quotient_209 : decode b_Ref_quotient 209 = .ok (.goto (-62), 3) := by decide +kernel
theorem d_Ref_quotient_212 : decode b_Ref_quotient 212 = .ok (.aload_n 0, 1) := by decide +kernel
theorem d_Ref_quotient_213 : decode b_Ref_quotient 213 = .ok (.lload 9, 2) := by decide +kernel
theorem d_Ref_quotient_215 : decode b_Ref_quotient 215 = .ok (.lconst 0, 1) := by decide +kernel
theorem d_Ref_quotient_216 : decode b_Ref_quotient 216 = .ok (.lcmp, 1) := by decide +kernel
theorem d_Ref_quotient_217 : decode b_Ref_quotient 217 = .ok (.ifCond .eq 7, 3) := by decide +kernel
theorem d_Ref_quotient_220 : decode b_Ref_quotient 220 = .ok (.iconst 1, 1) := by decide +kernel
theorem d_Ref_quotient_221 : decode b_Ref_quotient 221 = .ok (.goto 4, 3) := by decide +kernel
theorem d_Ref_quotient_224 : decode b_Ref_quotient 224 = .ok (.iconst 0, 1) := by decide +kernel
theorem d_Ref_quotient_225 : decode b_Ref_quotient 225 = .ok (.putfield 41, 3) := by decide +kernel
theorem d_Ref_quotient_228 : decode b_Ref_quotient 228 = .ok (.aload_n 0, 1) := by decide +kernel
theorem d_Ref_quotient_229 : decode b_Ref_quotient 229 = .ok (.iload 5, 2) := by decide +kernel
theorem d_Ref_quotient_231 : decode b_Ref_quotient 231 = .ok (.invokevirtual 128, 3) := by decide +kernel
theorem d_Ref_quotient_234 : decode b_Ref_quotient 234 = .ok (.lreturn, 1) := by decide +kernel
abbrev b_Ref_lesser : ByteArray := prog_11_method_33_code
def y_Ref_lesser : MethodName := ⟨"BitArithmeticModel", "lesser", "(ZJJ)J"⟩
theorem d_Ref_lesser_0 : decode b_Ref_lesser 0 = .ok (.aload_n 0, 1) := by decide +kernel
theorem d_Ref_lesser_1 : decode b_Ref_lesser 1 = .ok (.lload_n 2, 1) := by decide +kernel
theorem d_Ref_lesser_2 : decode b_Ref_lesser 2 = .ok (.invokevirtual 111, 3) := by decide +kernel
theorem d_Ref_lesser_5 : decode b_Ref_lesser 5 = .ok (.ifCond .eq 74, 3) := by decide +kernel
theorem d_Ref_lesser_8 : decode b_Ref_lesser 8 = .ok (.aload_n 0, 1) := by decide +kernel
theorem d_Ref_lesser_9 : decode b_Ref_lesser 9 = .ok (.lload 4, 2) := by decide +kernel
theorem d_Ref_lesser_11 : decode b_Ref_lesser 11 = .ok (.invokevirtual 111, 3) := by decide +kernel
theorem d_Ref_lesser_14 : decode b_Ref_lesser 14 = .ok (.ifCond .eq 65, 3) := by decide +kernel
theorem d_Ref_lesser_17 : decode b_Ref_lesser 17 = .ok (.iload_n 1, 1) := by decide +kernel
theorem d_Ref_lesser_18 : decode b_Ref_lesser 18 = .ok (.ifCond .eq 33, 3) := by decide +kernel
theorem d_Ref_lesser_21 : decode b_Ref_lesser 21 = .ok (.aload_n 0, 1) := by decide +kernel
theorem d_Ref_lesser_22 : decode b_Ref_lesser 22 = .ok (.lconst 0, 1) := by decide +kernel
theorem d_Ref_lesser_23 : decode b_Ref_lesser 23 = .ok (.aload_n 0, 1) := by decide +kernel
theorem d_Ref_lesser_24 : decode b_Ref_lesser 24 = .ok (.lload_n 2, 1) := by decide +kernel
theorem d_Ref_lesser_25 : decode b_Ref_lesser 25 = .ok (.invokevirtual 84, 3) := by decide +kernel
theorem d_Ref_lesser_28 : decode b_Ref_lesser 28 = .ok (.ifCond .eq 16, 3) := by decide +kernel
theorem d_Ref_lesser_31 : decode b_Ref_lesser 31 = .ok (.aload_n 0, 1) := by decide +kernel
theorem d_Ref_lesser_32 : decode b_Ref_lesser 32 = .ok (.lload 4, 2) := by decide +kernel
theorem d_Ref_lesser_34 : decode b_Ref_lesser 34 = .ok (.invokevirtual 84, 3) := by decide +kernel
theorem d_Ref_lesser_37 : decode b_Ref_lesser 37 = .ok (.ifCond .eq 7, 3) := by decide +kernel
theorem d_Ref_lesser_40 : decode b_Ref_lesser 40 = .ok (.iconst 1, 1) := by decide +kernel
theorem d_Ref_lesser_41 : decode b_Ref_lesser 41 = .ok (.goto 4, 3) := by decide +kernel
theorem d_Ref_lesser_44 : decode b_Ref_lesser 44 = .ok (.iconst 0, 1) := by decide +kernel
theorem d_Ref_lesser_45 : decode b_Ref_lesser 45 = .ok (.invokevirtual 60, 3) := by decide +kernel
theorem d_Ref_lesser_48 : decode b_Ref_lesser 48 = .ok (.goto 30, 3) := by decide +kernel
theorem d_Ref_lesser_51 : decode b_Ref_lesser 51 = .ok (.aload_n 0, 1) := by decide +kernel
theorem d_Ref_lesser_52 : decode b_Ref_lesser 52 = .ok (.lconst 0, 1) := by decide +kernel
theorem d_Ref_lesser_53 : decode b_Ref_lesser 53 = .ok (.aload_n 0, 1) := by decide +kernel
theorem d_Ref_lesser_54 : decode b_Ref_lesser 54 = .ok (.lload_n 2, 1) := by decide +kernel
theorem d_Ref_lesser_55 : decode b_Ref_lesser 55 = .ok (.invokevirtual 84, 3) := by decide +kernel
theorem d_Ref_lesser_58 : decode b_Ref_lesser 58 = .ok (.ifCond .ne 12, 3) := by decide +kernel
theorem d_Ref_lesser_61 : decode b_Ref_lesser 61 = .ok (.aload_n 0, 1) := by decide +kernel
theorem d_Ref_lesser_62 : decode b_Ref_lesser 62 = .ok (.lload 4, 2) := by decide +kernel
theorem d_Ref_lesser_64 : decode b_Ref_lesser 64 = .ok (.invokevirtual 84, 3) := by decide +kernel
theorem d_Ref_lesser_67 : decode b_Ref_lesser 67 = .ok (.ifCond .eq 7, 3) := by decide +kernel
theorem d_Ref_lesser_70 : decode b_Ref_lesser 70 = .ok (.iconst 1, 1) := by decide +kernel
theorem d_Ref_lesser_71 : decode b_Ref_lesser 71 = .ok (.goto 4, 3) := by decide +kernel
theorem d_Ref_lesser_74 : decode b_Ref_lesser 74 = .ok (.iconst 0, 1) := by decide +kernel
theorem d_Ref_lesser_75 : decode b_Ref_lesser 75 = .ok (.invokevirtual 60, 3) := by decide +kernel
theorem d_Ref_lesser_78 : decode b_Ref_lesser 78 = .ok (.lreturn, 1) := by decide +kernel
theorem d_Ref_lesser_79 : decode b_Ref_lesser 79 = .ok (.aload_n 0, 1) := by decide +kernel
theorem d_Ref_lesser_80 : decode b_Ref_lesser 80 = .ok (.lload_n 2, 1) := by decide +kernel
theorem d_Ref_lesser_81 : decode b_Ref_lesser 81 = .ok (.iconst 1, 1) := by decide +kernel
theorem d_Ref_lesser_82 : decode b_Ref_lesser 82 = .ok (.lload 4, 2) := by decide +kernel
theorem d_Ref_lesser_84 : decode b_Ref_lesser 84 = .ok (.invokevirtual 100, 3) := by decide +kernel
theorem d_Ref_lesser_87 : decode b_Ref_lesser 87 = .ok (.iload_n 1, 1) := by decide +kernel
theorem d_Ref_lesser_88 : decode b_Ref_lesser 88 = .ok (.if_icmp .eq 7, 3) := by decide +kernel
theorem d_Ref_lesser_91 : decode b_Ref_lesser 91 = .ok (.lload_n 2, 1) := by decide +kernel
theorem d_Ref_lesser_92 : decode b_Ref_lesser 92 = .ok (.goto 5, 3) := by decide +kernel
theorem d_Ref_lesser_95 : decode b_Ref_lesser 95 = .ok (.lload 4, 2) := by decide +kernel
theorem d_Ref_lesser_97 : decode b_Ref_lesser 97 = .ok (.lreturn, 1) := by decide +kernel
abbrev b_Ref_less : ByteArray := prog_11_method_26_code
def y_Ref_less : MethodName := ⟨"BitArithmeticModel", "less", "(JZJ)Z"⟩
theorem d_Ref_less_0 : decode b_Ref_less 0 = .ok (.aload_n 0, 1) := by decide +kernel
theorem d_Ref_less_1 : decode b_Ref_less 1 = .ok (.lload_n 1, 1) := by decide +kernel
theorem d_Ref_less_2 : decode b_Ref_less 2 = .ok (.invokevirtual 84, 3) := by decide +kernel
theorem d_Ref_less_5 : decode b_Ref_less 5 = .ok (.ifCond .eq 12, 3) := by decide +kernel
theorem d_Ref_less_8 : decode b_Ref_less 8 = .ok (.aload_n 0, 1) := by decide +kernel
theorem d_Ref_less_9 : decode b_Ref_less 9 = .ok (.lload_n 1, 1) := by decide +kernel
theorem d_Ref_less_10 : decode b_Ref_less 10 = .ok (.invokevirtual 80, 3) := by decide +kernel
theorem d_Ref_less_13 : decode b_Ref_less 13 = .ok (.lneg, 1) := by decide +kernel
theorem d_Ref_less_14 : decode b_Ref_less 14 = .ok (.goto 8, 3) := by decide +kernel
theorem d_Ref_less_17 : decode b_Ref_less 17 = .ok (.aload_n 0, 1) := by decide +kernel
theorem d_Ref_less_18 : decode b_Ref_less 18 = .ok (.lload_n 1, 1) := by decide +kernel
theorem d_Ref_less_19 : decode b_Ref_less 19 = .ok (.invokevirtual 80, 3) := by decide +kernel
theorem d_Ref_less_22 : decode b_Ref_less 22 = .ok (.lstore 6, 2) := by decide +kernel
theorem d_Ref_less_24 : decode b_Ref_less 24 = .ok (.aload_n 0, 1) := by decide +kernel
theorem d_Ref_less_25 : decode b_Ref_less 25 = .ok (.lload 4, 2) := by decide +kernel
theorem d_Ref_less_27 : decode b_Ref_less 27 = .ok (.invokevirtual 84, 3) := by decide +kernel
theorem d_Ref_less_30 : decode b_Ref_less 30 = .ok (.ifCond .eq 13, 3) := by decide +kernel
theorem d_Ref_less_33 : decode b_Ref_less 33 = .ok (.aload_n 0, 1) := by decide +kernel
theorem d_Ref_less_34 : decode b_Ref_less 34 = .ok (.lload 4, 2) := by decide +kernel
theorem d_Ref_less_36 : decode b_Ref_less 36 = .ok (.invokevirtual 80, 3) := by decide +kernel
theorem d_Ref_less_39 : decode b_Ref_less 39 = .ok (.lneg, 1) := by decide +kernel
theorem d_Ref_less_40 : decode b_Ref_less 40 = .ok (.goto 9, 3) := by decide +kernel
theorem d_Ref_less_43 : decode b_Ref_less 43 = .ok (.aload_n 0, 1) := by decide +kernel
theorem d_Ref_less_44 : decode b_Ref_less 44 = .ok (.lload 4, 2) := by decide +kernel
theorem d_Ref_less_46 : decode b_Ref_less 46 = .ok (.invokevirtual 80, 3) := by decide +kernel
theorem d_Ref_less_49 : decode b_Ref_less 49 = .ok (.lstore 8, 2) := by decide +kernel
theorem d_Ref_less_51 : decode b_Ref_less 51 = .ok (.lload 6, 2) := by decide +kernel
theorem d_Ref_less_53 : decode b_Ref_less 53 = .ok (.lload 8, 2) := by decide +kernel
theorem d_Ref_less_55 : decode b_Ref_less 55 = .ok (.lcmp, 1) := by decide +kernel
theorem d_Ref_less_56 : decode b_Ref_less 56 = .ok (.ifCond .lt 15, 3) := by decide +kernel
theorem d_Ref_less_59 : decode b_Ref_less 59 = .ok (.iload_n 3, 1) := by decide +kernel
theorem d_Ref_less_60 : decode b_Ref_less 60 = .ok (.ifCond .eq 15, 3) := by decide +kernel
theorem d_Ref_less_63 : decode b_Ref_less 63 = .ok (.lload 6, 2) := by decide +kernel
theorem d_Ref_less_65 : decode b_Ref_less 65 = .ok (.lload 8, 2) := by decide +kernel
theorem d_Ref_less_67 : decode b_Ref_less 67 = .ok (.lcmp, 1) := by decide +kernel
theorem d_Ref_less_68 : decode b_Ref_less 68 = .ok (.ifCond .ne 7, 3) := by decide +kernel
theorem d_Ref_less_71 : decode b_Ref_less 71 = .ok (.iconst 1, 1) := by decide +kernel
theorem d_Ref_less_72 : decode b_Ref_less 72 = .ok (.goto 4, 3) := by decide +kernel
theorem d_Ref_less_75 : decode b_Ref_less 75 = .ok (.iconst 0, 1) := by decide +kernel
theorem d_Ref_less_76 : decode b_Ref_less 76 = .ok (.ireturn, 1) := by decide +kernel
abbrev b_Ref_reckoned : ByteArray := prog_11_method_42_code
def y_Ref_reckoned : MethodName := ⟨"BitArithmeticModel", "reckoned", "(IIJJ)J"⟩
theorem d_Ref_reckoned_0 : decode b_Ref_reckoned 0 = .ok (.lload 5, 2) := by decide +kernel
theorem d_Ref_reckoned_2 : decode b_Ref_reckoned 2 = .ok (.iload_n 2, 1) := by decide +kernel
theorem d_Ref_reckoned_3 : decode b_Ref_reckoned 3 = .ok (.iconst 1, 1) := by decide +kernel
theorem d_Ref_reckoned_4 : decode b_Ref_reckoned 4 = .ok (.isub, 1) := by decide +kernel
theorem d_Ref_reckoned_5 : decode b_Ref_reckoned 5 = .ok (.i2l, 1) := by decide +kernel
theorem d_Ref_reckoned_6 : decode b_Ref_reckoned 6 = .ok (.land, 1) := by decide +kernel
theorem d_Ref_reckoned_7 : decode b_Ref_reckoned 7 = .ok (.l2i, 1) := by decide +kernel
theorem d_Ref_reckoned_8 : decode b_Ref_reckoned 8 = .ok (.istore 7, 2) := by decide +kernel
theorem d_Ref_reckoned_10 : decode b_Ref_reckoned 10 = .ok (.iload_n 1, 1) := by decide +kernel
theorem d_Ref_reckoned_11 : decode b_Ref_reckoned 11 = .ok (.tableswitch 146 0 16 #[81, 81, 81, 89, 94, 99, 104, 104, 104, 104, 114, 119, 124, 129, 129, 129, 138], 81) := by decide +kernel
theorem d_Ref_reckoned_92 : decode b_Ref_reckoned 92 = .ok (.lload_n 3, 1) := by decide +kernel
theorem d_Ref_reckoned_93 : decode b_Ref_reckoned 93 = .ok (.iload_n 2, 1) := by decide +kernel
theorem d_Ref_reckoned_94 : decode b_Ref_reckoned 94 = .ok (.iload_n 1, 1) := by decide +kernel
theorem d_Ref_reckoned_95 : decode b_Ref_reckoned 95 = .ok (.invokestatic 174, 3) := by decide +kernel
theorem d_Ref_reckoned_98 : decode b_Ref_reckoned 98 = .ok (.i2l, 1) := by decide +kernel
theorem d_Ref_reckoned_99 : decode b_Ref_reckoned 99 = .ok (.lreturn, 1) := by decide +kernel
theorem d_Ref_reckoned_100 : decode b_Ref_reckoned 100 = .ok (.lload_n 3, 1) := by decide +kernel
theorem d_Ref_reckoned_101 : decode b_Ref_reckoned 101 = .ok (.lload 5, 2) := by decide +kernel
theorem d_Ref_reckoned_103 : decode b_Ref_reckoned 103 = .ok (.ladd, 1) := by decide +kernel
theorem d_Ref_reckoned_104 : decode b_Ref_reckoned 104 = .ok (.lreturn, 1) := by decide +kernel
theorem d_Ref_reckoned_105 : decode b_Ref_reckoned 105 = .ok (.lload_n 3, 1) := by decide +kernel
theorem d_Ref_reckoned_106 : decode b_Ref_reckoned 106 = .ok (.lload 5, 2) := by decide +kernel
theorem d_Ref_reckoned_108 : decode b_Ref_reckoned 108 = .ok (.lsub, 1) := by decide +kernel
theorem d_Ref_reckoned_109 : decode b_Ref_reckoned 109 = .ok (.lreturn, 1) := by decide +kernel
theorem d_Ref_reckoned_110 : decode b_Ref_reckoned 110 = .ok (.lload_n 3, 1) := by decide +kernel
theorem d_Ref_reckoned_111 : decode b_Ref_reckoned 111 = .ok (.lload 5, 2) := by decide +kernel
theorem d_Ref_reckoned_113 : decode b_Ref_reckoned 113 = .ok (.lmul, 1) := by decide +kernel
theorem d_Ref_reckoned_114 : decode b_Ref_reckoned 114 = .ok (.lreturn, 1) := by decide +kernel
theorem d_Ref_reckoned_115 : decode b_Ref_reckoned 115 = .ok (.aload_n 0, 1) := by decide +kernel
theorem d_Ref_reckoned_116 : decode b_Ref_reckoned 116 = .ok (.iload_n 1, 1) := by decide +kernel
theorem d_Ref_reckoned_117 : decode b_Ref_reckoned 117 = .ok (.iload_n 2, 1) := by decide +kernel
theorem d_Ref_reckoned_118 : decode b_Ref_reckoned 118 = .ok (.lload_n 3, 1) := by decide +kernel
theorem d_Ref_reckoned_119 : decode b_Ref_reckoned 119 = .ok (.lload 5, 2) := by decide +kernel
theorem d_Ref_reckoned_121 : decode b_Ref_reckoned 121 = .ok (.invokevirtual 178, 3) := by decide +kernel
theorem d_Ref_reckoned_124 : decode b_Ref_reckoned 124 = .ok (.lreturn, 1) := by decide +kernel
theorem d_Ref_reckoned_125 : decode b_Ref_reckoned 125 = .ok (.lload_n 3, 1) := by decide +kernel
theorem d_Ref_reckoned_126 : decode b_Ref_reckoned 126 = .ok (.lload 5, 2) := by decide +kernel
theorem d_Ref_reckoned_128 : decode b_Ref_reckoned 128 = .ok (.land, 1) := by decide +kernel
theorem d_Ref_reckoned_129 : decode b_Ref_reckoned 129 = .ok (.lreturn, 1) := by decide +kernel
theorem d_Ref_reckoned_130 : decode b_Ref_reckoned 130 = .ok (.lload_n 3, 1) := by decide +kernel
theorem d_Ref_reckoned_131 : decode b_Ref_reckoned 131 = .ok (.lload 5, 2) := by decide +kernel
theorem d_Ref_reckoned_133 : decode b_Ref_reckoned 133 = .ok (.lor, 1) := by decide +kernel
theorem d_Ref_reckoned_134 : decode b_Ref_reckoned 134 = .ok (.lreturn, 1) := by decide +kernel
theorem d_Ref_reckoned_135 : decode b_Ref_reckoned 135 = .ok (.lload_n 3, 1) := by decide +kernel
theorem d_Ref_reckoned_136 : decode b_Ref_reckoned 136 = .ok (.lload 5, 2) := by decide +kernel
theorem d_Ref_reckoned_138 : decode b_Ref_reckoned 138 = .ok (.lxor, 1) := by decide +kernel
theorem d_Ref_reckoned_139 : decode b_Ref_reckoned 139 = .ok (.lreturn, 1) := by decide +kernel
theorem d_Ref_reckoned_140 : decode b_Ref_reckoned 140 = .ok (.iload_n 1, 1) := by decide +kernel
theorem d_Ref_reckoned_141 : decode b_Ref_reckoned 141 = .ok (.iload_n 2, 1) := by decide +kernel
theorem d_Ref_reckoned_142 : decode b_Ref_reckoned 142 = .ok (.lload_n 3, 1) := by decide +kernel
theorem d_Ref_reckoned_143 : decode b_Ref_reckoned 143 = .ok (.iload 7, 2) := by decide +kernel
theorem d_Ref_reckoned_145 : decode b_Ref_reckoned 145 = .ok (.invokestatic 182, 3) := by decide +kernel
theorem d_Ref_reckoned_148 : decode b_Ref_reckoned 148 = .ok (.lreturn, 1) := by decide +kernel
theorem d_Ref_reckoned_149 : decode b_Ref_reckoned 149 = .ok (.lload_n 3, 1) := by decide +kernel
theorem d_Ref_reckoned_150 : decode b_Ref_reckoned 150 = .ok (.iload_n 2, 1) := by decide +kernel
theorem d_Ref_reckoned_151 : decode b_Ref_reckoned 151 = .ok (.iload 7, 2) := by decide +kernel
theorem d_Ref_reckoned_153 : decode b_Ref_reckoned 153 = .ok (.invokestatic 186, 3) := by decide +kernel
theorem d_Ref_reckoned_156 : decode b_Ref_reckoned 156 = .ok (.lreturn, 1) := by decide +kernel
theorem d_Ref_reckoned_157 : decode b_Ref_reckoned 157 = .ok (.lload_n 3, 1) := by decide +kernel
theorem d_Ref_reckoned_158 : decode b_Ref_reckoned 158 = .ok (.iload_n 2, 1) := by decide +kernel
theorem d_Ref_reckoned_159 : decode b_Ref_reckoned 159 = .ok (.iload_n 2, 1) := by decide +kernel
theorem d_Ref_reckoned_160 : decode b_Ref_reckoned 160 = .ok (.iload 7, 2) := by decide +kernel
theorem d_Ref_reckoned_162 : decode b_Ref_reckoned 162 = .ok (.isub, 1) := by decide +kernel
theorem d_Ref_reckoned_163 : decode b_Ref_reckoned 163 = .ok (.iload_n 2, 1) := by decide +kernel
theorem d_Ref_reckoned_164 : decode b_Ref_reckoned 164 = .ok (.irem, 1) := by decide +kernel
theorem d_Ref_reckoned_165 : decode b_Ref_reckoned 165 = .ok (.invokestatic 186, 3) := by decide +kernel
theorem d_Ref_reckoned_168 : decode b_Ref_reckoned 168 = .ok (.lreturn, 1) := by decide +kernel
abbrev b_Ref_count : ByteArray := prog_11_method_37_code
def y_Ref_count : MethodName := ⟨"BitArithmeticModel", "count", "(JII)I"⟩
theorem d_Ref_count_0 : decode b_Ref_count 0 = .ok (.iconst 0, 1) := by decide +kernel
theorem d_Ref_count_1 : decode b_Ref_count 1 = .ok (.istore 4, 2) := by decide +kernel
theorem d_Ref_count_3 : decode b_Ref_count 3 = .ok (.iconst 0, 1) := by decide +kernel
theorem d_Ref_count_4 : decode b_Ref_count 4 = .ok (.istore 5, 2) := by decide +kernel
theorem d_Ref_count_6 : decode b_Ref_count 6 = .ok (.iload_n 2, 1) := by decide +kernel
theorem d_Ref_count_7 : decode b_Ref_count 7 = .ok (.istore 6, 2) := by decide +kernel
theorem d_Ref_count_9 : decode b_Ref_count 9 = .ok (.iload_n 2, 1) := by decide +kernel
theorem d_Ref_count_10 : decode b_Ref_count 10 = .ok (.istore 7, 2) := by decide +kernel
theorem d_Ref_count_12 : decode b_Ref_count 12 = .ok (.iconst 0, 1) := by decide +kernel
theorem d_Ref_count_13 : decode b_Ref_count 13 = .ok (.istore 8, 2) := by decide +kernel
theorem d_Ref_count_15 : decode b_Ref_count 15 = .ok (.iload 8, 2) := by decide +kernel
theorem d_Ref_count_17 : decode b_Ref_count 17 = .ok (.iload_n 2, 1) := by decide +kernel
theorem d_Ref_count_18 : decode b_Ref_count 18 = .ok (.if_icmp .ge 81, 3) := by decide +kernel
theorem d_Ref_count_21 : decode b_Ref_count 21 = .ok (.lload_n 0, 1) := by decide +kernel
theorem d_Ref_count_22 : decode b_Ref_count 22 = .ok (.iload 8, 2) := by decide +kernel
theorem d_Ref_count_24 : decode b_Ref_count 24 = .ok (.lshr, 1) := by decide +kernel
theorem d_Ref_count_25 : decode b_Ref_count 25 = .ok (.lconst 1, 1) := by decide +kernel
theorem d_Ref_count_26 : decode b_Ref_count 26 = .ok (.land, 1) := by decide +kernel
theorem d_Ref_count_27 : decode b_Ref_count 27 = .ok (.lconst 1, 1) := by decide +kernel
theorem d_Ref_count_28 : decode b_Ref_count 28 = .ok (.lcmp, 1) := by decide +kernel
theorem d_Ref_count_29 : decode b_Ref_count 29 = .ok (.ifCond .ne 7, 3) := by decide +kernel
theorem d_Ref_count_32 : decode b_Ref_count 32 = .ok (.iconst 1, 1) := by decide +kernel
theorem d_Ref_count_33 : decode b_Ref_count 33 = .ok (.goto 4, 3) := by decide +kernel
theorem d_Ref_count_36 : decode b_Ref_count 36 = .ok (.iconst 0, 1) := by decide +kernel
theorem d_Ref_count_37 : decode b_Ref_count 37 = .ok (.istore 9, 2) := by decide +kernel
theorem d_Ref_count_39 : decode b_Ref_count 39 = .ok (.iload 9, 2) := by decide +kernel
theorem d_Ref_count_41 : decode b_Ref_count 41 = .ok (.ifCond .eq 10, 3) := by decide +kernel
theorem d_Ref_count_44 : decode b_Ref_count 44 = .ok (.iload 5, 2) := by decide +kernel
theorem d_Ref_count_46 : decode b_Ref_count 46 = .ok (.iconst 1, 1) := by decide +kernel
theorem d_Ref_count_47 : decode b_Ref_count 47 = .ok (.iadd, 1) := by decide +kernel
theorem d_Ref_count_48 : decode b_Ref_count 48 = .ok (.goto 5, 3) := by decide +kernel
theorem d_Ref_count_51 : decode b_Ref_count 51 = .ok (.iload 5, 2) := by decide +kernel
theorem d_Ref_count_53 : decode b_Ref_count 53 = .ok (.istore 5, 2) := by decide +kernel
theorem d_Ref_count_55 : decode b_Ref_count 55 = .ok (.iload 9, 2) := by decide +kernel
theorem d_Ref_count_57 : decode b_Ref_count 57 = .ok (.ifCond .eq 12, 3) := by decide +kernel
theorem d_Ref_count_60 : decode b_Ref_count 60 = .ok (.iload_n 2, 1) := by decide +kernel
theorem d_Ref_count_61 : decode b_Ref_count 61 = .ok (.iconst 1, 1) := by decide +kernel
theorem d_Ref_count_62 : decode b_Ref_count 62 = .ok (.isub, 1) := by decide +kernel
theorem d_Ref_count_63 : decode b_Ref_count 63 = .ok (.iload 8, 2) := by decide +kernel
theorem d_Ref_count_65 : decode b_Ref_count 65 = .ok (.isub, 1) := by decide +kernel
theorem d_Ref_count_66 : decode b_Ref_count 66 = .ok (.goto 5, 3) := by decide +kernel
theorem d_Ref_count_69 : decode b_Ref_count 69 = .ok (.iload 6, 2) := by decide +kernel
theorem d_Ref_count_71 : decode b_Ref_count 71 = .ok (.istore 6, 2) := by decide +kernel
theorem d_Ref_count_73 : decode b_Ref_count 73 = .ok (.iload 9, 2) := by decide +kernel
theorem d_Ref_count_75 : decode b_Ref_count 75 = .ok (.ifCond .eq 14, 3) := by decide +kernel
theorem d_Ref_count_78 : decode b_Ref_count 78 = .ok (.iload 7, 2) := by decide +kernel
theorem d_Ref_count_80 : decode b_Ref_count 80 = .ok (.iload_n 2, 1) := by decide +kernel
theorem d_Ref_count_81 : decode b_Ref_count 81 = .ok (.if_icmp .ne 8, 3) := by decide +kernel
theorem d_Ref_count_84 : decode b_Ref_count 84 = .ok (.iload 8, 2) := by decide +kernel
theorem d_Ref_count_86 : decode b_Ref_count 86 = .ok (.goto 5, 3) := by decide +kernel
theorem d_Ref_count_89 : decode b_Ref_count 89 = .ok (.iload 7, 2) := by decide +kernel
theorem d_Ref_count_91 : decode b_Ref_count 91 = .ok (.istore 7, 2) := by decide +kernel
theorem d_Ref_count_93 : decode b_Ref_count 93 = .ok (.iinc 8 1, 3) := by decide +kernel
theorem d_Ref_count_96 : decode b_Ref_count 96 = .ok (.goto (-81), 3) := by decide +kernel
theorem d_Ref_count_99 : decode b_Ref_count 99 = .ok (.iload_n 3, 1) := by decide +kernel
theorem d_Ref_count_100 : decode b_Ref_count 100 = .ok (.ifCond .ne 8, 3) := by decide +kernel
theorem d_Ref_count_103 : decode b_Ref_count 103 = .ok (.iload 6, 2) := by decide +kernel
theorem d_Ref_count_105 : decode b_Ref_count 105 = .ok (.goto 15, 3) := by decide +kernel
theorem d_Ref_count_108 : decode b_Ref_count 108 = .ok (.iload_n 3, 1) := by decide +kernel
theorem d_Ref_count_109 : decode b_Ref_count 109 = .ok (.iconst 1, 1) := by decide +kernel
theorem d_Ref_count_110 : decode b_Ref_count 110 = .ok (.if_icmp .ne 8, 3) := by decide +kernel
theorem d_Ref_count_113 : decode b_Ref_count 113 = .ok (.iload 7, 2) := by decide +kernel
theorem d_Ref_count_115 : decode b_Ref_count 115 = .ok (.goto 5, 3) := by decide +kernel
theorem d_Ref_count_118 : decode b_Ref_count 118 = .ok (.iload 5, 2) := by decide +kernel
theorem d_Ref_count_120 : decode b_Ref_count 120 = .ok (.istore 4, 2) := by decide +kernel
theorem d_Ref_count_122 : decode b_Ref_count 122 = .ok (.iload 4, 2) := by decide +kernel
theorem d_Ref_count_124 : decode b_Ref_count 124 = .ok (.ireturn, 1) := by decide +kernel
abbrev b_Ref_byDivision : ByteArray := prog_11_method_39_code
def y_Ref_byDivision : MethodName := ⟨"BitArithmeticModel", "byDivision", "(IIJJ)J"⟩
theorem d_Ref_byDivision_0 : decode b_Ref_byDivision 0 = .ok (.iload_n 1, 1) := by decide +kernel
theorem d_Ref_byDivision_1 : decode b_Ref_byDivision 1 = .ok (.bipush 6, 2) := by decide +kernel
theorem d_Ref_byDivision_3 : decode b_Ref_byDivision 3 = .ok (.if_icmp .eq 9, 3) := by decide +kernel
theorem d_Ref_byDivision_6 : decode b_Ref_byDivision 6 = .ok (.iload_n 1, 1) := by decide +kernel
theorem d_Ref_byDivision_7 : decode b_Ref_byDivision 7 = .ok (.bipush 8, 2) := by decide +kernel
theorem d_Ref_byDivision_9 : decode b_Ref_byDivision 9 = .ok (.if_icmp .ne 7, 3) := by decide +kernel
theorem d_Ref_byDivision_12 : decode b_Ref_byDivision 12 = .ok (.iconst 1, 1) := by decide +kernel
theorem d_Ref_byDivision_13 : decode b_Ref_byDivision 13 = .ok (.goto 4, 3) := by decide +kernel
theorem d_Ref_byDivision_16 : decode b_Ref_byDivision 16 = .ok (.iconst 0, 1) := by decide +kernel
theorem d_Ref_byDivision_17 : decode b_Ref_byDivision 17 = .ok (.istore 7, 2) := by decide +kernel
theorem d_Ref_byDivision_19 : decode b_Ref_byDivision 19 = .ok (.iload_n 1, 1) := by decide +kernel
theorem d_Ref_byDivision_20 : decode b_Ref_byDivision 20 = .ok (.bipush 7, 2) := by decide +kernel
theorem d_Ref_byDivision_22 : decode b_Ref_byDivision 22 = .ok (.if_icmp .le 7, 3) := by decide +kernel
theorem d_Ref_byDivision_25 : decode b_Ref_byDivision 25 = .ok (.iconst 1, 1) := by decide +kernel
theorem d_Ref_byDivision_26 : decode b_Ref_byDivision 26 = .ok (.goto 4, 3) := by decide +kernel
theorem d_Ref_byDivision_29 : decode b_Ref_byDivision 29 = .ok (.iconst 0, 1) := by decide +kernel
theorem d_Ref_byDivision_30 : decode b_Ref_byDivision 30 = .ok (.istore 8, 2) := by decide +kernel
theorem d_Ref_byDivision_32 : decode b_Ref_byDivision 32 = .ok (.lload 5, 2) := by decide +kernel
theorem d_Ref_byDivision_34 : decode b_Ref_byDivision 34 = .ok (.lconst 0, 1) := by decide +kernel
theorem d_Ref_byDivision_35 : decode b_Ref_byDivision 35 = .ok (.lcmp, 1) := by decide +kernel
theorem d_Ref_byDivision_36 : decode b_Ref_byDivision 36 = .ok (.ifCond .ne 10, 3) := by decide +kernel
theorem d_Ref_byDivision_39 : decode b_Ref_byDivision 39 = .ok (.aload_n 0, 1) := by decide +kernel
theorem d_Ref_byDivision_40 : decode b_Ref_byDivision 40 = .ok (.iconst 2, 1) := by decide +kernel
theorem d_Ref_byDivision_41 : decode b_Ref_byDivision 41 = .ok (.putfield 20, 3) := by decide +kernel
theorem d_Ref_byDivision_44 : decode b_Ref_byDivision 44 = .ok (.lconst 0, 1) := by decide +kernel
theorem d_Ref_byDivision_45 : decode b_Ref_byDivision 45 = .ok (.lreturn, 1) := by decide +kernel
theorem d_Ref_byDivision_46 : decode b_Ref_byDivision 46 = .ok (.iload 7, 2) := by decide +kernel
theorem d_Ref_byDivision_48 : decode b_Ref_byDivision 48 = .ok (.ifCond .ne 12, 3) := by decide +kernel
theorem d_Ref_byDivision_51 : decode b_Ref_byDivision 51 = .ok (.lload_n 3, 1) := by decide +kernel
theorem d_Ref_byDivision_52 : decode b_Ref_byDivision 52 = .ok (.lload 5, 2) := by decide +kernel
theorem d_Ref_byDivision_54 : decode b_Ref_byDivision 54 = .ok (.iload 8, 2) := by decide +kernel
theorem d_Ref_byDivision_56 : decode b_Ref_byDivision 56 = .ok (.invokestatic 164, 3) := by decide +kernel
theorem d_Ref_byDivision_59 : decode b_Ref_byDivision 59 = .ok (.lreturn, 1) := by decide +kernel
theorem d_Ref_byDivision_60 : decode b_Ref_byDivision 60 = .ok (.lload_n 3, 1) := by decide +kernel
theorem d_Ref_byDivision_61 : decode b_Ref_byDivision 61 = .ok (.iload_n 2, 1) := by decide +kernel
theorem d_Ref_byDivision_62 : decode b_Ref_byDivision 62 = .ok (.invokestatic 168, 3) := by decide +kernel
theorem d_Ref_byDivision_65 : decode b_Ref_byDivision 65 = .ok (.lstore 9, 2) := by decide +kernel
theorem d_Ref_byDivision_67 : decode b_Ref_byDivision 67 = .ok (.lload 5, 2) := by decide +kernel
theorem d_Ref_byDivision_69 : decode b_Ref_byDivision 69 = .ok (.iload_n 2, 1) := by decide +kernel
theorem d_Ref_byDivision_70 : decode b_Ref_byDivision 70 = .ok (.invokestatic 168, 3) := by decide +kernel
theorem d_Ref_byDivision_73 : decode b_Ref_byDivision 73 = .ok (.lstore 11, 2) := by decide +kernel
theorem d_Ref_byDivision_75 : decode b_Ref_byDivision 75 = .ok (.lload 9, 2) := by decide +kernel
theorem d_Ref_byDivision_77 : decode b_Ref_byDivision 77 = .ok (.lconst 0, 1) := by decide +kernel
theorem d_Ref_byDivision_78 : decode b_Ref_byDivision 78 = .ok (.lcmp, 1) := by decide +kernel
theorem d_Ref_byDivision_79 : decode b_Ref_byDivision 79 = .ok (.ifCond .ge 9, 3) := by decide +kernel
theorem d_Ref_byDivision_82 : decode b_Ref_byDivision 82 = .ok (.lload 9, 2) := by decide +kernel
theorem d_Ref_byDivision_84 : decode b_Ref_byDivision 84 = .ok (.lneg, 1) := by decide +kernel
theorem d_Ref_byDivision_85 : decode b_Ref_byDivision 85 = .ok (.goto 5, 3) := by decide +kernel
theorem d_Ref_byDivision_88 : decode b_Ref_byDivision 88 = .ok (.lload 9, 2) := by decide +kernel
theorem d_Ref_byDivision_90 : decode b_Ref_byDivision 90 = .ok (.lload 11, 2) := by decide +kernel
theorem d_Ref_byDivision_92 : decode b_Ref_byDivision 92 = .ok (.lconst 0, 1) := by decide +kernel
theorem d_Ref_byDivision_93 : decode b_Ref_byDivision 93 = .ok (.lcmp, 1) := by decide +kernel
theorem d_Ref_byDivision_94 : decode b_Ref_byDivision 94 = .ok (.ifCond .ge 9, 3) := by decide +kernel
theorem d_Ref_byDivision_97 : decode b_Ref_byDivision 97 = .ok (.lload 11, 2) := by decide +kernel
theorem d_Ref_byDivision_99 : decode b_Ref_byDivision 99 = .ok (.lneg, 1) := by decide +kernel
theorem d_Ref_byDivision_100 : decode b_Ref_byDivision 100 = .ok (.goto 5, 3) := by decide +kernel
theorem d_Ref_byDivision_103 : decode b_Ref_byDivision 103 = .ok (.lload 11, 2) := by decide +kernel
theorem d_Ref_byDivision_105 : decode b_Ref_byDivision 105 = .ok (.iload 8, 2) := by decide +kernel
theorem d_Ref_byDivision_107 : decode b_Ref_byDivision 107 = .ok (.invokestatic 164, 3) := by decide +kernel
theorem d_Ref_byDivision_110 : decode b_Ref_byDivision 110 = .ok (.lstore 13, 2) := by decide +kernel
theorem d_Ref_byDivision_112 : decode b_Ref_byDivision 112 = .ok (.iload 8, 2) := by decide +kernel
theorem d_Ref_byDivision_114 : decode b_Ref_byDivision 114 = .ok (.ifCond .eq 18, 3) := by decide +kernel
theorem d_Ref_byDivision_117 : decode b_Ref_byDivision 117 = .ok (.lload 9, 2) := by decide +kernel
theorem d_Ref_byDivision_119 : decode b_Ref_byDivision 119 = .ok (.lconst 0, 1) := by decide +kernel
theorem d_Ref_byDivision_120 : decode b_Ref_byDivision 120 = .ok (.lcmp, 1) := by decide +kernel
theorem d_Ref_byDivision_121 : decode b_Ref_byDivision 121 = .ok (.ifCond .ge 7, 3) := by decide +kernel
theorem d_Ref_byDivision_124 : decode b_Ref_byDivision 124 = .ok (.iconst 1, 1) := by decide +kernel
theorem d_Ref_byDivision_125 : decode b_Ref_byDivision 125 = .ok (.goto 39, 3) := by decide +kernel
theorem d_Ref_byDivision_128 : decode b_Ref_byDivision 128 = .ok (.iconst 0, 1) := by decide +kernel
theorem d_Ref_byDivision_129 : decode b_Ref_byDivision 129 = .ok (.goto 35, 3) := by decide +kernel
theorem d_Ref_byDivision_132 : decode b_Ref_byDivision 132 = .ok (.lload 9, 2) := by decide +kernel
theorem d_Ref_byDivision_134 : decode b_Ref_byDivision 134 = .ok (.lconst 0, 1) := by decide +kernel
theorem d_Ref_byDivision_135 : decode b_Ref_byDivision 135 = .ok (.lcmp, 1) := by decide +kernel
theorem d_Ref_byDivision_136 : decode b_Ref_byDivision 136 = .ok (.ifCond .ge 7, 3) := by decide +kernel
theorem d_Ref_byDivision_139 : decode b_Ref_byDivision 139 = .ok (.iconst 1, 1) := by decide +kernel
theorem d_Ref_byDivision_140 : decode b_Ref_byDivision 140 = .ok (.goto 4, 3) := by decide +kernel
theorem d_Ref_byDivision_143 : decode b_Ref_byDivision 143 = .ok (.iconst 0, 1) := by decide +kernel
theorem d_Ref_byDivision_144 : decode b_Ref_byDivision 144 = .ok (.lload 11, 2) := by decide +kernel
theorem d_Ref_byDivision_146 : decode b_Ref_byDivision 146 = .ok (.lconst 0, 1) := by decide +kernel
theorem d_Ref_byDivision_147 : decode b_Ref_byDivision 147 = .ok (.lcmp, 1) := by decide +kernel
theorem d_Ref_byDivision_148 : decode b_Ref_byDivision 148 = .ok (.ifCond .ge 7, 3) := by decide +kernel
theorem d_Ref_byDivision_151 : decode b_Ref_byDivision 151 = .ok (.iconst 1, 1) := by decide +kernel
theorem d_Ref_byDivision_152 : decode b_Ref_byDivision 152 = .ok (.goto 4, 3) := by decide +kernel
theorem d_Ref_byDivision_155 : decode b_Ref_byDivision 155 = .ok (.iconst 0, 1) := by decide +kernel
theorem d_Ref_byDivision_156 : decode b_Ref_byDivision 156 = .ok (.if_icmp .eq 7, 3) := by decide +kernel
theorem d_Ref_byDivision_159 : decode b_Ref_byDivision 159 = .ok (.iconst 1, 1) := by decide +kernel
theorem d_Ref_byDivision_160 : decode b_Ref_byDivision 160 = .ok (.goto 4, 3) := by decide +kernel
theorem d_Ref_byDivision_163 : decode b_Ref_byDivision 163 = .ok (.iconst 0, 1) := by decide +kernel
theorem d_Ref_byDivision_164 : decode b_Ref_byDivision 164 = .ok (.istore 15, 2) := by decide +kernel
theorem d_Ref_byDivision_166 : decode b_Ref_byDivision 166 = .ok (.iload 8, 2) := by decide +kernel
theorem d_Ref_byDivision_168 : decode b_Ref_byDivision 168 = .ok (.ifCond .ne 26, 3) := by decide +kernel
theorem d_Ref_byDivision_171 : decode b_Ref_byDivision 171 = .ok (.iload 15, 2) := by decide +kernel
theorem d_Ref_byDivision_173 : decode b_Ref_byDivision 173 = .ok (.ifCond .ne 21, 3) := by decide +kernel
theorem d_Ref_byDivision_176 : decode b_Ref_byDivision 176 = .ok (.lload 13, 2) := by decide +kernel
theorem d_Ref_byDivision_178 : decode b_Ref_byDivision 178 = .ok (.lconst 1, 1) := by decide +kernel
theorem d_Ref_byDivision_179 : decode b_Ref_byDivision 179 = .ok (.iload_n 2, 1) := by decide +kernel
theorem d_Ref_byDivision_180 : decode b_Ref_byDivision 180 = .ok (.iconst 1, 1) := by decide +kernel
theorem d_Ref_byDivision_181 : decode b_Ref_byDivision 181 = .ok (.isub, 1) := by decide +kernel
theorem d_Ref_byDivision_182 : decode b_Ref_byDivision 182 = .ok (.lshl, 1) := by decide +kernel
theorem d_Ref_byDivision_183 : decode b_Ref_byDivision 183 = .ok (.lcmp, 1) := by decide +kernel
theorem d_Ref_byDivision_184 : decode b_Ref_byDivision 184 = .ok (.ifCond .ne 10, 3) := by decide +kernel
theorem d_Ref_byDivision_187 : decode b_Ref_byDivision 187 = .ok (.aload_n 0, 1) := by decide +kernel
theorem d_Ref_byDivision_188 : decode b_Ref_byDivision 188 = .ok (.iconst 3, 1) := by decide +kernel
theorem d_Ref_byDivision_189 : decode b_Ref_byDivision 189 = .ok (.putfield 20, 3) := by decide +kernel
theorem d_Ref_byDivision_192 : decode b_Ref_byDivision 192 = .ok (.lconst 0, 1) := by decide +kernel
theorem d_Ref_byDivision_193 : decode b_Ref_byDivision 193 = .ok (.lreturn, 1) := by decide +kernel
theorem d_Ref_byDivision_194 : decode b_Ref_byDivision 194 = .ok (.iload 15, 2) := by decide +kernel
theorem d_Ref_byDivision_196 : decode b_Ref_byDivision 196 = .ok (.ifCond .eq 9, 3) := by decide +kernel
theorem d_Ref_byDivision_199 : decode b_Ref_byDivision 199 = .ok (.lload 13, 2) := by decide +kernel
theorem d_Ref_byDivision_201 : decode b_Ref_byDivision 201 = .ok (.lneg, 1) := by decide +kernel
theorem d_Ref_byDivision_202 : decode b_Ref_byDivision 202 = .ok (.goto 5, 3) := by decide +kernel
theorem d_Ref_byDivision_205 : decode b_Ref_byDivision 205 = .ok (.lload 13, 2) := by decide +kernel
theorem d_Ref_byDivision_207 : decode b_Ref_byDivision 207 = .ok (.lreturn, 1) := by decide +kernel
abbrev b_Ref_divided : ByteArray := prog_11_method_38_code
def y_Ref_divided : MethodName := ⟨"BitArithmeticModel", "divided", "(JJZ)J"⟩
theorem d_Ref_divided_0 : decode b_Ref_divided 0 = .ok (.lconst 0, 1) := by decide +kernel
theorem d_Ref_divided_1 : decode b_Ref_divided 1 = .ok (.lstore 5, 2) := by decide +kernel
theorem d_Ref_divided_3 : decode b_Ref_divided 3 = .ok (.lconst 0, 1) := by decide +kernel
theorem d_Ref_divided_4 : decode b_Ref_divided 4 = .ok (.lstore 7, 2) := by decide +kernel
theorem d_Ref_divided_6 : decode b_Ref_divided 6 = .ok (.bipush 63, 2) := by decide +kernel
theorem d_Ref_divided_8 : decode b_Ref_divided 8 = .ok (.istore 9, 2) := by decide +kernel
theorem d_Ref_divided_10 : decode b_Ref_divided 10 = .ok (.iload 9, 2) := by decide +kernel
theorem d_Ref_divided_12 : decode b_Ref_divided 12 = .ok (.ifCond .lt 70, 3) := by decide +kernel
theorem d_Ref_divided_15 : decode b_Ref_divided 15 = .ok (.lload 5, 2) := by decide +kernel
theorem d_Ref_divided_17 : decode b_Ref_divided 17 = .ok (.lconst 0, 1) := by decide +kernel
theorem d_Ref_divided_18 : decode b_Ref_divided 18 = .ok (.lcmp, 1) := by decide +kernel
theorem d_Ref_divided_19 : decode b_Ref_divided 19 = .ok (.ifCond .ge 7, 3) := by decide +kernel
theorem d_Ref_divided_22 : decode b_Ref_divided 22 = .ok (.iconst 1, 1) := by decide +kernel
theorem d_Ref_divided_23 : decode b_Ref_divided 23 = .ok (.goto 4, 3) := by decide +kernel
theorem d_Ref_divided_26 : decode b_Ref_divided 26 = .ok (.iconst 0, 1) := by decide +kernel
theorem d_Ref_divided_27 : decode b_Ref_divided 27 = .ok (.istore 10, 2) := by decide +kernel
theorem d_Ref_divided_29 : decode b_Ref_divided 29 = .ok (.ldc2_w 58, 3) := by decide +kernel
theorem d_Ref_divided_32 : decode b_Ref_divided 32 = .ok (.lload 5, 2) := by decide +kernel
theorem d_Ref_divided_34 : decode b_Ref_divided 34 = .ok (.lmul, 1) := by decide +kernel
theorem d_Ref_divided_35 : decode b_Ref_divided 35 = .ok (.lload_n 0, 1) := by decide +kernel
theorem d_Ref_divided_36 : decode b_Ref_divided 36 = .ok (.iload 9, 2) := by decide +kernel
theorem d_Ref_divided_38 : decode b_Ref_divided 38 = .ok (.lshr, 1) := by decide +kernel
theorem d_Ref_divided_39 : decode b_Ref_divided 39 = .ok (.lconst 1, 1) := by decide +kernel
theorem d_Ref_divided_40 : decode b_Ref_divided 40 = .ok (.land, 1) := by decide +kernel
theorem d_Ref_divided_41 : decode b_Ref_divided 41 = .ok (.ladd, 1) := by decide +kernel
theorem d_Ref_divided_42 : decode b_Ref_divided 42 = .ok (.lstore 5, 2) := by decide +kernel
theorem d_Ref_divided_44 : decode b_Ref_divided 44 = .ok (.lload 7, 2) := by decide +kernel
theorem d_Ref_divided_46 : decode b_Ref_divided 46 = .ok (.iconst 1, 1) := by decide +kernel
theorem d_Ref_divided_47 : decode b_Ref_divided 47 = .ok (.lshl, 1) := by decide +kernel
theorem d_Ref_divided_48 : decode b_Ref_divided 48 = .ok (.lstore 7, 2) := by decide +kernel
theorem d_Ref_divided_50 : decode b_Ref_divided 50 = .ok (.iload 10, 2) := by decide +kernel
theorem d_Ref_divided_52 : decode b_Ref_divided 52 = .ok (.ifCond .ne 12, 3) := by decide +kernel
theorem d_Ref_divided_55 : decode b_Ref_divided 55 = .ok (.lload 5, 2) := by decide +kernel
theorem d_Ref_divided_57 : decode b_Ref_divided 57 = .ok (.lload_n 2, 1) := by decide +kernel
theorem d_Ref_divided_58 : decode b_Ref_divided 58 = .ok (.invokestatic 160, 3) := by decide +kernel
theorem d_Ref_divided_61 : decode b_Ref_divided 61 = .ok (.ifCond .ne 15, 3) := by decide +kernel
theorem d_Ref_divided_64 : decode b_Ref_divided 64 = .ok (.lload 5, 2) := by decide +kernel
theorem d_Ref_divided_66 : decode b_Ref_divided 66 = .ok (.lload_n 2, 1) := by decide +kernel
theorem d_Ref_divided_67 : decode b_Ref_divided 67 = .ok (.lsub, 1) := by decide +kernel
theorem d_Ref_divided_68 : decode b_Ref_divided 68 = .ok (.lstore 5, 2) := by decide +kernel
theorem d_Ref_divided_70 : decode b_Ref_divided 70 = .ok (.lload 7, 2) := by decide +kernel
theorem d_Ref_divided_72 : decode b_Ref_divided 72 = .ok (.lconst 1, 1) := by decide +kernel
theorem d_Ref_divided_73 : decode b_Ref_divided 73 = .ok (.ladd, 1) := by decide +kernel
theorem d_Ref_divided_74 : decode b_Ref_divided 74 = .ok (.lstore 7, 2) := by decide +kernel
theorem d_Ref_divided_76 : decode b_Ref_divided 76 = .ok (.iinc 9 (-1), 3) := by decide +kernel
theorem d_Ref_divided_79 : decode b_Ref_divided 79 = .ok (.goto (-69), 3) := by decide +kernel
theorem d_Ref_divided_82 : decode b_Ref_divided 82 = .ok (.iload 4, 2) := by decide +kernel
theorem d_Ref_divided_84 : decode b_Ref_divided 84 = .ok (.ifCond .eq 8, 3) := by decide +kernel
theorem d_Ref_divided_87 : decode b_Ref_divided 87 = .ok (.lload 5, 2) := by decide +kernel
theorem d_Ref_divided_89 : decode b_Ref_divided 89 = .ok (.goto 5, 3) := by decide +kernel
theorem d_Ref_divided_92 : decode b_Ref_divided 92 = .ok (.lload 7, 2) := by decide +kernel
theorem d_Ref_divided_94 : decode b_Ref_divided 94 = .ok (.lreturn, 1) := by decide +kernel
abbrev b_Ref_moved : ByteArray := prog_11_method_41_code
def y_Ref_moved : MethodName := ⟨"BitArithmeticModel", "moved", "(IIJI)J"⟩
theorem d_Ref_moved_0 : decode b_Ref_moved 0 = .ok (.lload_n 2, 1) := by decide +kernel
theorem d_Ref_moved_1 : decode b_Ref_moved 1 = .ok (.lstore 5, 2) := by decide +kernel
theorem d_Ref_moved_3 : decode b_Ref_moved 3 = .ok (.iconst 0, 1) := by decide +kernel
theorem d_Ref_moved_4 : decode b_Ref_moved 4 = .ok (.istore 7, 2) := by decide +kernel
theorem d_Ref_moved_6 : decode b_Ref_moved 6 = .ok (.iload 7, 2) := by decide +kernel
theorem d_Ref_moved_8 : decode b_Ref_moved 8 = .ok (.iload 4, 2) := by decide +kernel
theorem d_Ref_moved_10 : decode b_Ref_moved 10 = .ok (.if_icmp .ge 63, 3) := by decide +kernel
theorem d_Ref_moved_13 : decode b_Ref_moved 13 = .ok (.iload_n 0, 1) := by decide +kernel
theorem d_Ref_moved_14 : decode b_Ref_moved 14 = .ok (.bipush 13, 2) := by decide +kernel
theorem d_Ref_moved_16 : decode b_Ref_moved 16 = .ok (.if_icmp .ne 12, 3) := by decide +kernel
theorem d_Ref_moved_19 : decode b_Ref_moved 19 = .ok (.ldc2_w 58, 3) := by decide +kernel
theorem d_Ref_moved_22 : decode b_Ref_moved 22 = .ok (.lload 5, 2) := by decide +kernel
theorem d_Ref_moved_24 : decode b_Ref_moved 24 = .ok (.lmul, 1) := by decide +kernel
theorem d_Ref_moved_25 : decode b_Ref_moved 25 = .ok (.goto 7, 3) := by decide +kernel
theorem d_Ref_moved_28 : decode b_Ref_moved 28 = .ok (.lload 5, 2) := by decide +kernel
theorem d_Ref_moved_30 : decode b_Ref_moved 30 = .ok (.iconst 1, 1) := by decide +kernel
theorem d_Ref_moved_31 : decode b_Ref_moved 31 = .ok (.lushr, 1) := by decide +kernel
theorem d_Ref_moved_32 : decode b_Ref_moved 32 = .ok (.lstore 5, 2) := by decide +kernel
theorem d_Ref_moved_34 : decode b_Ref_moved 34 = .ok (.iload_n 0, 1) := by decide +kernel
theorem d_Ref_moved_35 : decode b_Ref_moved 35 = .ok (.bipush 14, 2) := by decide +kernel
theorem d_Ref_moved_37 : decode b_Ref_moved 37 = .ok (.if_icmp .ne 26, 3) := by decide +kernel
theorem d_Ref_moved_40 : decode b_Ref_moved 40 = .ok (.lload_n 2, 1) := by decide +kernel
theorem d_Ref_moved_41 : decode b_Ref_moved 41 = .ok (.iload_n 1, 1) := by decide +kernel
theorem d_Ref_moved_42 : decode b_Ref_moved 42 = .ok (.iconst 1, 1) := by decide +kernel
theorem d_Ref_moved_43 : decode b_Ref_moved 43 = .ok (.isub, 1) := by decide +kernel
theorem d_Ref_moved_44 : decode b_Ref_moved 44 = .ok (.lshr, 1) := by decide +kernel
theorem d_Ref_moved_45 : decode b_Ref_moved 45 = .ok (.lconst 1, 1) := by decide +kernel
theorem d_Ref_moved_46 : decode b_Ref_moved 46 = .ok (.land, 1) := by decide +kernel
theorem d_Ref_moved_47 : decode b_Ref_moved 47 = .ok (.lconst 1, 1) := by decide +kernel
theorem d_Ref_moved_48 : decode b_Ref_moved 48 = .ok (.lcmp, 1) := by decide +kernel
theorem d_Ref_moved_49 : decode b_Ref_moved 49 = .ok (.ifCond .ne 14, 3) := by decide +kernel
theorem d_Ref_moved_52 : decode b_Ref_moved 52 = .ok (.lload 5, 2) := by decide +kernel
theorem d_Ref_moved_54 : decode b_Ref_moved 54 = .ok (.lconst 1, 1) := by decide +kernel
theorem d_Ref_moved_55 : decode b_Ref_moved 55 = .ok (.iload_n 1, 1) := by decide +kernel
theorem d_Ref_moved_56 : decode b_Ref_moved 56 = .ok (.iconst 1, 1) := by decide +kernel
theorem d_Ref_moved_57 : decode b_Ref_moved 57 = .ok (.isub, 1) := by decide +kernel
theorem d_Ref_moved_58 : decode b_Ref_moved 58 = .ok (.lshl, 1) := by decide +kernel
theorem d_Ref_moved_59 : decode b_Ref_moved 59 = .ok (.lor, 1) := by decide +kernel
theorem d_Ref_moved_60 : decode b_Ref_moved 60 = .ok (.goto 5, 3) := by decide +kernel
theorem d_Ref_moved_63 : decode b_Ref_moved 63 = .ok (.lload 5, 2) := by decide +kernel
theorem d_Ref_moved_65 : decode b_Ref_moved 65 = .ok (.lstore 5, 2) := by decide +kernel
theorem d_Ref_moved_67 : decode b_Ref_moved 67 = .ok (.iinc 7 1, 3) := by decide +kernel
theorem d_Ref_moved_70 : decode b_Ref_moved 70 = .ok (.goto (-64), 3) := by decide +kernel
theorem d_Ref_moved_73 : decode b_Ref_moved 73 = .ok (.lload 5, 2) := by decide +kernel
theorem d_Ref_moved_75 : decode b_Ref_moved 75 = .ok (.lreturn, 1) := by decide +kernel
abbrev b_Ref_turned : ByteArray := prog_11_method_40_code
def y_Ref_turned : MethodName := ⟨"BitArithmeticModel", "turned", "(JII)J"⟩
theorem d_Ref_turned_0 : decode b_Ref_turned 0 = .ok (.lload_n 0, 1) := by decide +kernel
theorem d_Ref_turned_1 : decode b_Ref_turned 1 = .ok (.lstore 4, 2) := by decide +kernel
theorem d_Ref_turned_3 : decode b_Ref_turned 3 = .ok (.iconst 0, 1) := by decide +kernel
theorem d_Ref_turned_4 : decode b_Ref_turned 4 = .ok (.istore 6, 2) := by decide +kernel
theorem d_Ref_turned_6 : decode b_Ref_turned 6 = .ok (.iload 6, 2) := by decide +kernel
theorem d_Ref_turned_8 : decode b_Ref_turned 8 = .ok (.iload_n 3, 1) := by decide +kernel
theorem d_Ref_turned_9 : decode b_Ref_turned 9 = .ok (.if_icmp .ge 45, 3) := by decide +kernel
theorem d_Ref_turned_12 : decode b_Ref_turned 12 = .ok (.lload 4, 2) := by decide +kernel
theorem d_Ref_turned_14 : decode b_Ref_turned 14 = .ok (.iload_n 2, 1) := by decide +kernel
theorem d_Ref_turned_15 : decode b_Ref_turned 15 = .ok (.iconst 1, 1) := by decide +kernel
theorem d_Ref_turned_16 : decode b_Ref_turned 16 = .ok (.isub, 1) := by decide +kernel
theorem d_Ref_turned_17 : decode b_Ref_turned 17 = .ok (.lshr, 1) := by decide +kernel
theorem d_Ref_turned_18 : decode b_Ref_turned 18 = .ok (.lconst 1, 1) := by decide +kernel
theorem d_Ref_turned_19 : decode b_Ref_turned 19 = .ok (.land, 1) := by decide +kernel
theorem d_Ref_turned_20 : decode b_Ref_turned 20 = .ok (.lstore 7, 2) := by decide +kernel
theorem d_Ref_turned_22 : decode b_Ref_turned 22 = .ok (.iload_n 2, 1) := by decide +kernel
theorem d_Ref_turned_23 : decode b_Ref_turned 23 = .ok (.bipush 32, 2) := by decide +kernel
theorem d_Ref_turned_25 : decode b_Ref_turned 25 = .ok (.if_icmp .ne 14, 3) := by decide +kernel
theorem d_Ref_turned_28 : decode b_Ref_turned 28 = .ok (.lload 4, 2) := by decide +kernel
theorem d_Ref_turned_30 : decode b_Ref_turned 30 = .ok (.iconst 1, 1) := by decide +kernel
theorem d_Ref_turned_31 : decode b_Ref_turned 31 = .ok (.lshl, 1) := by decide +kernel
theorem d_Ref_turned_32 : decode b_Ref_turned 32 = .ok (.ldc2_w 172, 3) := by decide +kernel
theorem d_Ref_turned_35 : decode b_Ref_turned 35 = .ok (.land, 1) := by decide +kernel
theorem d_Ref_turned_36 : decode b_Ref_turned 36 = .ok (.goto 7, 3) := by decide +kernel
theorem d_Ref_turned_39 : decode b_Ref_turned 39 = .ok (.lload 4, 2) := by decide +kernel
theorem d_Ref_turned_41 : decode b_Ref_turned 41 = .ok (.iconst 1, 1) := by decide +kernel
theorem d_Ref_turned_42 : decode b_Ref_turned 42 = .ok (.lshl, 1) := by decide +kernel
theorem d_Ref_turned_43 : decode b_Ref_turned 43 = .ok (.lload 7, 2) := by decide +kernel
theorem d_Ref_turned_45 : decode b_Ref_turned 45 = .ok (.lor, 1) := by decide +kernel
theorem d_Ref_turned_46 : decode b_Ref_turned 46 = .ok (.lstore 4, 2) := by decide +kernel
theorem d_Ref_turned_48 : decode b_Ref_turned 48 = .ok (.iinc 6 1, 3) := by decide +kernel
theorem d_Ref_turned_51 : decode b_Ref_turned 51 = .ok (.goto (-45), 3) := by decide +kernel
theorem d_Ref_turned_54 : decode b_Ref_turned 54 = .ok (.lload 4, 2) := by decide +kernel
theorem d_Ref_turned_56 : decode b_Ref_turned 56 = .ok (.lreturn, 1) := by decide +kernel
abbrev b_Ref_compared : ByteArray := prog_11_method_27_code
def y_Ref_compared : MethodName := ⟨"BitArithmeticModel", "compared", "(IJJ)Z"⟩
theorem d_Ref_compared_0 : decode b_Ref_compared 0 = .ok (.aload_n 0, 1) := by decide +kernel
theorem d_Ref_compared_1 : decode b_Ref_compared 1 = .ok (.lload_n 2, 1) := by decide +kernel
theorem d_Ref_compared_2 : decode b_Ref_compared 2 = .ok (.invokevirtual 97, 3) := by decide +kernel
theorem d_Ref_compared_5 : decode b_Ref_compared 5 = .ok (.ifCond .ne 12, 3) := by decide +kernel
theorem d_Ref_compared_8 : decode b_Ref_compared 8 = .ok (.aload_n 0, 1) := by decide +kernel
theorem d_Ref_compared_9 : decode b_Ref_compared 9 = .ok (.lload 4, 2) := by decide +kernel
theorem d_Ref_compared_11 : decode b_Ref_compared 11 = .ok (.invokevirtual 97, 3) := by decide +kernel
theorem d_Ref_compared_14 : decode b_Ref_compared 14 = .ok (.ifCond .eq 14, 3) := by decide +kernel
theorem d_Ref_compared_17 : decode b_Ref_compared 17 = .ok (.iload_n 1, 1) := by decide +kernel
theorem d_Ref_compared_18 : decode b_Ref_compared 18 = .ok (.iconst 1, 1) := by decide +kernel
theorem d_Ref_compared_19 : decode b_Ref_compared 19 = .ok (.if_icmp .ne 7, 3) := by decide +kernel
theorem d_Ref_compared_22 : decode b_Ref_compared 22 = .ok (.iconst 1, 1) := by decide +kernel
theorem d_Ref_compared_23 : decode b_Ref_compared 23 = .ok (.goto 4, 3) := by decide +kernel
theorem d_Ref_compared_26 : decode b_Ref_compared 26 = .ok (.iconst 0, 1) := by decide +kernel
theorem d_Ref_compared_27 : decode b_Ref_compared 27 = .ok (.ireturn, 1) := by decide +kernel
theorem d_Ref_compared_28 : decode b_Ref_compared 28 = .ok (.aload_n 0, 1) := by decide +kernel
theorem d_Ref_compared_29 : decode b_Ref_compared 29 = .ok (.lload_n 2, 1) := by decide +kernel
theorem d_Ref_compared_30 : decode b_Ref_compared 30 = .ok (.iconst 1, 1) := by decide +kernel
theorem d_Ref_compared_31 : decode b_Ref_compared 31 = .ok (.lload 4, 2) := by decide +kernel
theorem d_Ref_compared_33 : decode b_Ref_compared 33 = .ok (.invokevirtual 100, 3) := by decide +kernel
theorem d_Ref_compared_36 : decode b_Ref_compared 36 = .ok (.ifCond .eq 18, 3) := by decide +kernel
theorem d_Ref_compared_39 : decode b_Ref_compared 39 = .ok (.aload_n 0, 1) := by decide +kernel
theorem d_Ref_compared_40 : decode b_Ref_compared 40 = .ok (.lload 4, 2) := by decide +kernel
theorem d_Ref_compared_42 : decode b_Ref_compared 42 = .ok (.iconst 1, 1) := by decide +kernel
theorem d_Ref_compared_43 : decode b_Ref_compared 43 = .ok (.lload_n 2, 1) := by decide +kernel
theorem d_Ref_compared_44 : decode b_Ref_compared 44 = .ok (.invokevirtual 100, 3) := by decide +kernel
theorem d_Ref_compared_47 : decode b_Ref_compared 47 = .ok (.ifCond .eq 7, 3) := by decide +kernel
theorem d_Ref_compared_50 : decode b_Ref_compared 50 = .ok (.iconst 1, 1) := by decide +kernel
theorem d_Ref_compared_51 : decode b_Ref_compared 51 = .ok (.goto 4, 3) := by decide +kernel
theorem d_Ref_compared_54 : decode b_Ref_compared 54 = .ok (.iconst 0, 1) := by decide +kernel
theorem d_Ref_compared_55 : decode b_Ref_compared 55 = .ok (.istore 6, 2) := by decide +kernel
theorem d_Ref_compared_57 : decode b_Ref_compared 57 = .ok (.iload_n 1, 1) := by decide +kernel
theorem d_Ref_compared_58 : decode b_Ref_compared 58 = .ok (.tableswitch 75 0 4 #[34, 37, 48, 57, 66], 34) := by decide +kernel
theorem d_Ref_compared_92 : decode b_Ref_compared 92 = .ok (.iload 6, 2) := by decide +kernel
theorem d_Ref_compared_94 : decode b_Ref_compared 94 = .ok (.ireturn, 1) := by decide +kernel
theorem d_Ref_compared_95 : decode b_Ref_compared 95 = .ok (.iload 6, 2) := by decide +kernel
theorem d_Ref_compared_97 : decode b_Ref_compared 97 = .ok (.ifCond .ne 7, 3) := by decide +kernel
theorem d_Ref_compared_100 : decode b_Ref_compared 100 = .ok (.iconst 1, 1) := by decide +kernel
theorem d_Ref_compared_101 : decode b_Ref_compared 101 = .ok (.goto 4, 3) := by decide +kernel
theorem d_Ref_compared_104 : decode b_Ref_compared 104 = .ok (.iconst 0, 1) := by decide +kernel
theorem d_Ref_compared_105 : decode b_Ref_compared 105 = .ok (.ireturn, 1) := by decide +kernel
theorem d_Ref_compared_106 : decode b_Ref_compared 106 = .ok (.aload_n 0, 1) := by decide +kernel
theorem d_Ref_compared_107 : decode b_Ref_compared 107 = .ok (.lload_n 2, 1) := by decide +kernel
theorem d_Ref_compared_108 : decode b_Ref_compared 108 = .ok (.iconst 0, 1) := by decide +kernel
theorem d_Ref_compared_109 : decode b_Ref_compared 109 = .ok (.lload 4, 2) := by decide +kernel
theorem d_Ref_compared_111 : decode b_Ref_compared 111 = .ok (.invokevirtual 100, 3) := by decide +kernel
theorem d_Ref_compared_114 : decode b_Ref_compared 114 = .ok (.ireturn, 1) := by decide +kernel
theorem d_Ref_compared_115 : decode b_Ref_compared 115 = .ok (.aload_n 0, 1) := by decide +kernel
theorem d_Ref_compared_116 : decode b_Ref_compared 116 = .ok (.lload 4, 2) := by decide +kernel
theorem d_Ref_compared_118 : decode b_Ref_compared 118 = .ok (.iconst 0, 1) := by decide +kernel
theorem d_Ref_compared_119 : decode b_Ref_compared 119 = .ok (.lload_n 2, 1) := by decide +kernel
theorem d_Ref_compared_120 : decode b_Ref_compared 120 = .ok (.invokevirtual 100, 3) := by decide +kernel
theorem d_Ref_compared_123 : decode b_Ref_compared 123 = .ok (.ireturn, 1) := by decide +kernel
theorem d_Ref_compared_124 : decode b_Ref_compared 124 = .ok (.aload_n 0, 1) := by decide +kernel
theorem d_Ref_compared_125 : decode b_Ref_compared 125 = .ok (.lload_n 2, 1) := by decide +kernel
theorem d_Ref_compared_126 : decode b_Ref_compared 126 = .ok (.iconst 1, 1) := by decide +kernel
theorem d_Ref_compared_127 : decode b_Ref_compared 127 = .ok (.lload 4, 2) := by decide +kernel
theorem d_Ref_compared_129 : decode b_Ref_compared 129 = .ok (.invokevirtual 100, 3) := by decide +kernel
theorem d_Ref_compared_132 : decode b_Ref_compared 132 = .ok (.ireturn, 1) := by decide +kernel
theorem d_Ref_compared_133 : decode b_Ref_compared 133 = .ok (.aload_n 0, 1) := by decide +kernel
theorem d_Ref_compared_134 : decode b_Ref_compared 134 = .ok (.lload 4, 2) := by decide +kernel
theorem d_Ref_compared_136 : decode b_Ref_compared 136 = .ok (.iconst 1, 1) := by decide +kernel
theorem d_Ref_compared_137 : decode b_Ref_compared 137 = .ok (.lload_n 2, 1) := by decide +kernel
theorem d_Ref_compared_138 : decode b_Ref_compared 138 = .ok (.invokevirtual 100, 3) := by decide +kernel
theorem d_Ref_compared_141 : decode b_Ref_compared 141 = .ok (.ireturn, 1) := by decide +kernel
abbrev b_Ref_isSo : ByteArray := prog_11_method_43_code
def y_Ref_isSo : MethodName := ⟨"BitArithmeticModel", "isSo", "(IIJJ)Z"⟩
theorem d_Ref_isSo_0 : decode b_Ref_isSo 0 = .ok (.lload_n 2, 1) := by decide +kernel
theorem d_Ref_isSo_1 : decode b_Ref_isSo 1 = .ok (.iload_n 1, 1) := by decide +kernel
theorem d_Ref_isSo_2 : decode b_Ref_isSo 2 = .ok (.invokestatic 168, 3) := by decide +kernel
theorem d_Ref_isSo_5 : decode b_Ref_isSo 5 = .ok (.lstore 6, 2) := by decide +kernel
theorem d_Ref_isSo_7 : decode b_Ref_isSo 7 = .ok (.lload 4, 2) := by decide +kernel
theorem d_Ref_isSo_9 : decode b_Ref_isSo 9 = .ok (.iload_n 1, 1) := by decide +kernel
theorem d_Ref_isSo_10 : decode b_Ref_isSo 10 = .ok (.invokestatic 168, 3) := by decide +kernel
theorem d_Ref_isSo_13 : decode b_Ref_isSo 13 = .ok (.lstore 8, 2) := by decide +kernel
theorem d_Ref_isSo_15 : decode b_Ref_isSo 15 = .ok (.iload_n 0, 1) := by decide +kernel
theorem d_Ref_isSo_16 : decode b_Ref_isSo 16 = .ok (.tableswitch 163 0 8 #[52, 65, 78, 92, 99, 113, 120, 134, 149], 52) := by decide +kernel
theorem d_Ref_isSo_68 : decode b_Ref_isSo 68 = .ok (.lload_n 2, 1) := by decide +kernel
theorem d_Ref_isSo_69 : decode b_Ref_isSo 69 = .ok (.lload 4, 2) := by decide +kernel
theorem d_Ref_isSo_71 : decode b_Ref_isSo 71 = .ok (.lcmp, 1) := by decide +kernel
theorem d_Ref_isSo_72 : decode b_Ref_isSo 72 = .ok (.ifCond .ne 7, 3) := by decide +kernel
theorem d_Ref_isSo_75 : decode b_Ref_isSo 75 = .ok (.iconst 1, 1) := by decide +kernel
theorem d_Ref_isSo_76 : decode b_Ref_isSo 76 = .ok (.goto 4, 3) := by decide +kernel
theorem d_Ref_isSo_79 : decode b_Ref_isSo 79 = .ok (.iconst 0, 1) := by decide +kernel
theorem d_Ref_isSo_80 : decode b_Ref_isSo 80 = .ok (.ireturn, 1) := by decide +kernel
theorem d_Ref_isSo_81 : decode b_Ref_isSo 81 = .ok (.lload_n 2, 1) := by decide +kernel
theorem d_Ref_isSo_82 : decode b_Ref_isSo 82 = .ok (.lload 4, 2) := by decide +kernel
theorem d_Ref_isSo_84 : decode b_Ref_isSo 84 = .ok (.lcmp, 1) := by decide +kernel
theorem d_Ref_isSo_85 : decode b_Ref_isSo 85 = .ok (.ifCond .eq 7, 3) := by decide +kernel
theorem d_Ref_isSo_88 : decode b_Ref_isSo 88 = .ok (.iconst 1, 1) := by decide +kernel
theorem d_Ref_isSo_89 : decode b_Ref_isSo 89 = .ok (.goto 4, 3) := by decide +kernel
theorem d_Ref_isSo_92 : decode b_Ref_isSo 92 = .ok (.iconst 0, 1) := by decide +kernel
theorem d_Ref_isSo_93 : decode b_Ref_isSo 93 = .ok (.ireturn, 1) := by decide +kernel
theorem d_Ref_isSo_94 : decode b_Ref_isSo 94 = .ok (.lload 6, 2) := by decide +kernel
theorem d_Ref_isSo_96 : decode b_Ref_isSo 96 = .ok (.lload 8, 2) := by decide +kernel
theorem d_Ref_isSo_98 : decode b_Ref_isSo 98 = .ok (.lcmp, 1) := by decide +kernel
theorem d_Ref_isSo_99 : decode b_Ref_isSo 99 = .ok (.ifCond .ge 7, 3) := by decide +kernel
theorem d_Ref_isSo_102 : decode b_Ref_isSo 102 = .ok (.iconst 1, 1) := by decide +kernel
theorem d_Ref_isSo_103 : decode b_Ref_isSo 103 = .ok (.goto 4, 3) := by decide +kernel
theorem d_Ref_isSo_106 : decode b_Ref_isSo 106 = .ok (.iconst 0, 1) := by decide +kernel
theorem d_Ref_isSo_107 : decode b_Ref_isSo 107 = .ok (.ireturn, 1) := by decide +kernel
theorem d_Ref_isSo_108 : decode b_Ref_isSo 108 = .ok (.lload_n 2, 1) := by decide +kernel
theorem d_Ref_isSo_109 : decode b_Ref_isSo 109 = .ok (.lload 4, 2) := by decide +kernel
theorem d_Ref_isSo_111 : decode b_Ref_isSo 111 = .ok (.invokestatic 160, 3) := by decide +kernel
theorem d_Ref_isSo_114 : decode b_Ref_isSo 114 = .ok (.ireturn, 1) := by decide +kernel
theorem d_Ref_isSo_115 : decode b_Ref_isSo 115 = .ok (.lload 6, 2) := by decide +kernel
theorem d_Ref_isSo_117 : decode b_Ref_isSo 117 = .ok (.lload 8, 2) := by decide +kernel
theorem d_Ref_isSo_119 : decode b_Ref_isSo 119 = .ok (.lcmp, 1) := by decide +kernel
theorem d_Ref_isSo_120 : decode b_Ref_isSo 120 = .ok (.ifCond .le 7, 3) := by decide +kernel
theorem d_Ref_isSo_123 : decode b_Ref_isSo 123 = .ok (.iconst 1, 1) := by decide +kernel
theorem d_Ref_isSo_124 : decode b_Ref_isSo 124 = .ok (.goto 4, 3) := by decide +kernel
theorem d_Ref_isSo_127 : decode b_Ref_isSo 127 = .ok (.iconst 0, 1) := by decide +kernel
theorem d_Ref_isSo_128 : decode b_Ref_isSo 128 = .ok (.ireturn, 1) := by decide +kernel
theorem d_Ref_isSo_129 : decode b_Ref_isSo 129 = .ok (.lload 4, 2) := by decide +kernel
theorem d_Ref_isSo_131 : decode b_Ref_isSo 131 = .ok (.lload_n 2, 1) := by decide +kernel
theorem d_Ref_isSo_132 : decode b_Ref_isSo 132 = .ok (.invokestatic 160, 3) := by decide +kernel
theorem d_Ref_isSo_135 : decode b_Ref_isSo 135 = .ok (.ireturn, 1) := by decide +kernel
theorem d_Ref_isSo_136 : decode b_Ref_isSo 136 = .ok (.lload 6, 2) := by decide +kernel
theorem d_Ref_isSo_138 : decode b_Ref_isSo 138 = .ok (.lload 8, 2) := by decide +kernel
theorem d_Ref_isSo_140 : decode b_Ref_isSo 140 = .ok (.lcmp, 1) := by decide +kernel
theorem d_Ref_isSo_141 : decode b_Ref_isSo 141 = .ok (.ifCond .gt 7, 3) := by decide +kernel
theorem d_Ref_isSo_144 : decode b_Ref_isSo 144 = .ok (.iconst 1, 1) := by decide +kernel
theorem d_Ref_isSo_145 : decode b_Ref_isSo 145 = .ok (.goto 4, 3) := by decide +kernel
theorem d_Ref_isSo_148 : decode b_Ref_isSo 148 = .ok (.iconst 0, 1) := by decide +kernel
theorem d_Ref_isSo_149 : decode b_Ref_isSo 149 = .ok (.ireturn, 1) := by decide +kernel
theorem d_Ref_isSo_150 : decode b_Ref_isSo 150 = .ok (.lload 4, 2) := by decide +kernel
theorem d_Ref_isSo_152 : decode b_Ref_isSo 152 = .ok (.lload_n 2, 1) := by decide +kernel
theorem d_Ref_isSo_153 : decode b_Ref_isSo 153 = .ok (.invokestatic 160, 3) := by decide +kernel
theorem d_Ref_isSo_156 : decode b_Ref_isSo 156 = .ok (.ifCond .ne 7, 3) := by decide +kernel
theorem d_Ref_isSo_159 : decode b_Ref_isSo 159 = .ok (.iconst 1, 1) := by decide +kernel
theorem d_Ref_isSo_160 : decode b_Ref_isSo 160 = .ok (.goto 4, 3) := by decide +kernel
theorem d_Ref_isSo_163 : decode b_Ref_isSo 163 = .ok (.iconst 0, 1) := by decide +kernel
theorem d_Ref_isSo_164 : decode b_Ref_isSo 164 = .ok (.ireturn, 1) := by decide +kernel
theorem d_Ref_isSo_165 : decode b_Ref_isSo 165 = .ok (.lload 6, 2) := by decide +kernel
theorem d_Ref_isSo_167 : decode b_Ref_isSo 167 = .ok (.lload 8, 2) := by decide +kernel
theorem d_Ref_isSo_169 : decode b_Ref_isSo 169 = .ok (.lcmp, 1) := by decide +kernel
theorem d_Ref_isSo_170 : decode b_Ref_isSo 170 = .ok (.ifCond .lt 7, 3) := by decide +kernel
theorem d_Ref_isSo_173 : decode b_Ref_isSo 173 = .ok (.iconst 1, 1) := by decide +kernel
theorem d_Ref_isSo_174 : decode b_Ref_isSo 174 = .ok (.goto 4, 3) := by decide +kernel
theorem d_Ref_isSo_177 : decode b_Ref_isSo 177 = .ok (.iconst 0, 1) := by decide +kernel
theorem d_Ref_isSo_178 : decode b_Ref_isSo 178 = .ok (.ireturn, 1) := by decide +kernel
theorem d_Ref_isSo_179 : decode b_Ref_isSo 179 = .ok (.lload_n 2, 1) := by decide +kernel
theorem d_Ref_isSo_180 : decode b_Ref_isSo 180 = .ok (.lload 4, 2) := by decide +kernel
theorem d_Ref_isSo_182 : decode b_Ref_isSo 182 = .ok (.invokestatic 160, 3) := by decide +kernel
theorem d_Ref_isSo_185 : decode b_Ref_isSo 185 = .ok (.ifCond .ne 7, 3) := by decide +kernel
theorem d_Ref_isSo_188 : decode b_Ref_isSo 188 = .ok (.iconst 1, 1) := by decide +kernel
theorem d_Ref_isSo_189 : decode b_Ref_isSo 189 = .ok (.goto 4, 3) := by decide +kernel
theorem d_Ref_isSo_192 : decode b_Ref_isSo 192 = .ok (.iconst 0, 1) := by decide +kernel
theorem d_Ref_isSo_193 : decode b_Ref_isSo 193 = .ok (.ireturn, 1) := by decide +kernel
abbrev b_Ref_next : ByteArray := prog_11_method_50_code
def y_Ref_next : MethodName := ⟨"BitArithmeticModel", "next", "(IJ)J"⟩
theorem d_Ref_next_0 : decode b_Ref_next 0 = .ok (.aload_n 0, 1) := by decide +kernel
theorem d_Ref_next_1 : decode b_Ref_next 1 = .ok (.iload_n 1, 1) := by decide +kernel
theorem d_Ref_next_2 : decode b_Ref_next 2 = .ok (.aload_n 0, 1) := by decide +kernel
theorem d_Ref_next_3 : decode b_Ref_next 3 = .ok (.getfield 23, 3) := by decide +kernel
theorem d_Ref_next_6 : decode b_Ref_next 6 = .ok (.lload_n 2, 1) := by decide +kernel
theorem d_Ref_next_7 : decode b_Ref_next 7 = .ok (.invokevirtual 225, 3) := by decide +kernel
theorem d_Ref_next_10 : decode b_Ref_next 10 = .ok (.lreturn, 1) := by decide +kernel
abbrev b_Ref_into : ByteArray := prog_11_method_51_code
def y_Ref_into : MethodName := ⟨"BitArithmeticModel", "into", "(IJ)J"⟩
theorem d_Ref_into_0 : decode b_Ref_into 0 = .ok (.aload_n 0, 1) := by decide +kernel
theorem d_Ref_into_1 : decode b_Ref_into 1 = .ok (.iload_n 1, 1) := by decide +kernel
theorem d_Ref_into_2 : decode b_Ref_into 2 = .ok (.lload_n 2, 1) := by decide +kernel
theorem d_Ref_into_3 : decode b_Ref_into 3 = .ok (.aload_n 0, 1) := by decide +kernel
theorem d_Ref_into_4 : decode b_Ref_into 4 = .ok (.getfield 23, 3) := by decide +kernel
theorem d_Ref_into_7 : decode b_Ref_into 7 = .ok (.invokevirtual 225, 3) := by decide +kernel
theorem d_Ref_into_10 : decode b_Ref_into 10 = .ok (.lreturn, 1) := by decide +kernel
