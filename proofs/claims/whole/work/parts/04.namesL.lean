abbrev b_MainLaw_run : ByteArray := method_3_code
def y_MainLaw_run : MethodName := ⟨"BitArithmeticLaw", "run", "(LBitArithmetic;IJJ[J)I"⟩
theorem d_MainLaw_run_0 : decode b_MainLaw_run 0 = .ok (.aload 6, 2) := by decide +kernel
theorem d_MainLaw_run_2 : decode b_MainLaw_run 2 = .ok (.iconst 0, 1) := by decide +kernel
theorem d_MainLaw_run_3 : decode b_MainLaw_run 3 = .ok (.aload_n 0, 1) := by decide +kernel
theorem d_MainLaw_run_4 : decode b_MainLaw_run 4 = .ok (.iload_n 1, 1) := by decide +kernel
theorem d_MainLaw_run_5 : decode b_MainLaw_run 5 = .ok (.lload_n 2, 1) := by decide +kernel
theorem d_MainLaw_run_6 : decode b_MainLaw_run 6 = .ok (.lload 4, 2) := by decide +kernel
theorem d_MainLaw_run_8 : decode b_MainLaw_run 8 = .ok (.invokevirtual 7, 3) := by decide +kernel
theorem d_MainLaw_run_11 : decode b_MainLaw_run 11 = .ok (.lastore, 1) := by decide +kernel
theorem d_MainLaw_run_12 : decode b_MainLaw_run 12 = .ok (.goto 19, 3) := by decide +kernel
theorem d_MainLaw_run_15 : decode b_MainLaw_run 15 = .ok (.astore 7, 2) := by decide +kernel
theorem d_MainLaw_run_17 : decode b_MainLaw_run 17 = .ok (.iconst 1, 1) := by decide +kernel
theorem d_MainLaw_run_18 : decode b_MainLaw_run 18 = .ok (.ireturn, 1) := by decide +kernel
theorem d_MainLaw_run_19 : decode b_MainLaw_run 19 = .ok (.astore 7, 2) := by decide +kernel
theorem d_MainLaw_run_21 : decode b_MainLaw_run 21 = .ok (.iconst 2, 1) := by decide +kernel
theorem d_MainLaw_run_22 : decode b_MainLaw_run 22 = .ok (.ireturn, 1) := by decide +kernel
theorem d_MainLaw_run_23 : decode b_MainLaw_run 23 = .ok (.astore 7, 2) := by decide +kernel
theorem d_MainLaw_run_25 : decode b_MainLaw_run 25 = .ok (.iconst 3, 1) := by decide +kernel
theorem d_MainLaw_run_26 : decode b_MainLaw_run 26 = .ok (.ireturn, 1) := by decide +kernel
theorem d_MainLaw_run_27 : decode b_MainLaw_run 27 = .ok (.astore 7, 2) := by decide +kernel
theorem d_MainLaw_run_29 : decode b_MainLaw_run 29 = .ok (.iconst 4, 1) := by decide +kernel
theorem d_MainLaw_run_30 : decode b_MainLaw_run 30 = .ok (.ireturn, 1) := by decide +kernel
theorem d_MainLaw_run_31 : decode b_MainLaw_run 31 = .ok (.iconst 0, 1) := by decide +kernel
theorem d_MainLaw_run_32 : decode b_MainLaw_run 32 = .ok (.ireturn, 1) := by decide +kernel
abbrev b_MainLaw_next : ByteArray := method_4_code
def y_MainLaw_next : MethodName := ⟨"BitArithmeticLaw", "next", "(LBitArithmetic;IJ[J)I"⟩
theorem d_MainLaw_next_0 : decode b_MainLaw_next 0 = .ok (.aload 4, 2) := by decide +kernel
theorem d_MainLaw_next_2 : decode b_MainLaw_next 2 = .ok (.iconst 0, 1) := by decide +kernel
theorem d_MainLaw_next_3 : decode b_MainLaw_next 3 = .ok (.aload_n 0, 1) := by decide +kernel
theorem d_MainLaw_next_4 : decode b_MainLaw_next 4 = .ok (.iload_n 1, 1) := by decide +kernel
theorem d_MainLaw_next_5 : decode b_MainLaw_next 5 = .ok (.lload_n 2, 1) := by decide +kernel
theorem d_MainLaw_next_6 : decode b_MainLaw_next 6 = .ok (.invokevirtual 21, 3) := by decide +kernel
theorem d_MainLaw_next_9 : decode b_MainLaw_next 9 = .ok (.lastore, 1) := by decide +kernel
theorem d_MainLaw_next_10 : decode b_MainLaw_next 10 = .ok (.goto 19, 3) := by decide +kernel
theorem d_MainLaw_next_13 : decode b_MainLaw_next 13 = .ok (.astore 5, 2) := by decide +kernel
theorem d_MainLaw_next_15 : decode b_MainLaw_next 15 = .ok (.iconst 1, 1) := by decide +kernel
theorem d_MainLaw_next_16 : decode b_MainLaw_next 16 = .ok (.ireturn, 1) := by decide +kernel
theorem d_MainLaw_next_17 : decode b_MainLaw_next 17 = .ok (.astore 5, 2) := by decide +kernel
theorem d_MainLaw_next_19 : decode b_MainLaw_next 19 = .ok (.iconst 2, 1) := by decide +kernel
theorem d_MainLaw_next_20 : decode b_MainLaw_next 20 = .ok (.ireturn, 1) := by decide +kernel
theorem d_MainLaw_next_21 : decode b_MainLaw_next 21 = .ok (.astore 5, 2) := by decide +kernel
theorem d_MainLaw_next_23 : decode b_MainLaw_next 23 = .ok (.iconst 3, 1) := by decide +kernel
theorem d_MainLaw_next_24 : decode b_MainLaw_next 24 = .ok (.ireturn, 1) := by decide +kernel
theorem d_MainLaw_next_25 : decode b_MainLaw_next 25 = .ok (.astore 5, 2) := by decide +kernel
theorem d_MainLaw_next_27 : decode b_MainLaw_next 27 = .ok (.iconst 4, 1) := by decide +kernel
theorem d_MainLaw_next_28 : decode b_MainLaw_next 28 = .ok (.ireturn, 1) := by decide +kernel
theorem d_MainLaw_next_29 : decode b_MainLaw_next 29 = .ok (.iconst 0, 1) := by decide +kernel
theorem d_MainLaw_next_30 : decode b_MainLaw_next 30 = .ok (.ireturn, 1) := by decide +kernel
abbrev b_MainLaw_into : ByteArray := method_5_code
def y_MainLaw_into : MethodName := ⟨"BitArithmeticLaw", "into", "(LBitArithmetic;IJ[J)I"⟩
theorem d_MainLaw_into_0 : decode b_MainLaw_into 0 = .ok (.aload 4, 2) := by decide +kernel
theorem d_MainLaw_into_2 : decode b_MainLaw_into 2 = .ok (.iconst 0, 1) := by decide +kernel
theorem d_MainLaw_into_3 : decode b_MainLaw_into 3 = .ok (.aload_n 0, 1) := by decide +kernel
theorem d_MainLaw_into_4 : decode b_MainLaw_into 4 = .ok (.iload_n 1, 1) := by decide +kernel
theorem d_MainLaw_into_5 : decode b_MainLaw_into 5 = .ok (.lload_n 2, 1) := by decide +kernel
theorem d_MainLaw_into_6 : decode b_MainLaw_into 6 = .ok (.invokevirtual 25, 3) := by decide +kernel
theorem d_MainLaw_into_9 : decode b_MainLaw_into 9 = .ok (.lastore, 1) := by decide +kernel
theorem d_MainLaw_into_10 : decode b_MainLaw_into 10 = .ok (.goto 19, 3) := by decide +kernel
theorem d_MainLaw_into_13 : decode b_MainLaw_into 13 = .ok (.astore 5, 2) := by decide +kernel
theorem d_MainLaw_into_15 : decode b_MainLaw_into 15 = .ok (.iconst 1, 1) := by decide +kernel
theorem d_MainLaw_into_16 : decode b_MainLaw_into 16 = .ok (.ireturn, 1) := by decide +kernel
theorem d_MainLaw_into_17 : decode b_MainLaw_into 17 = .ok (.astore 5, 2) := by decide +kernel
theorem d_MainLaw_into_19 : decode b_MainLaw_into 19 = .ok (.iconst 2, 1) := by decide +kernel
theorem d_MainLaw_into_20 : decode b_MainLaw_into 20 = .ok (.ireturn, 1) := by decide +kernel
theorem d_MainLaw_into_21 : decode b_MainLaw_into 21 = .ok (.astore 5, 2) := by decide +kernel
theorem d_MainLaw_into_23 : decode b_MainLaw_into 23 = .ok (.iconst 3, 1) := by decide +kernel
theorem d_MainLaw_into_24 : decode b_MainLaw_into 24 = .ok (.ireturn, 1) := by decide +kernel
theorem d_MainLaw_into_25 : decode b_MainLaw_into 25 = .ok (.astore 5, 2) := by decide +kernel
theorem d_MainLaw_into_27 : decode b_MainLaw_into 27 = .ok (.iconst 4, 1) := by decide +kernel
theorem d_MainLaw_into_28 : decode b_MainLaw_into 28 = .ok (.ireturn, 1) := by decide +kernel
theorem d_MainLaw_into_29 : decode b_MainLaw_into 29 = .ok (.iconst 0, 1) := by decide +kernel
theorem d_MainLaw_into_30 : decode b_MainLaw_into 30 = .ok (.ireturn, 1) := by decide +kernel
