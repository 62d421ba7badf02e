abbrev cL_amount : ByteArray := method_3_code
def yL_amount : MethodName := ⟨RL, "amount", "(LTwoLevel;II[J)I"⟩
theorem dX10_amount_0 : decode cX10_amount 0 = .ok (.aload_n 0, 1) := by decide +kernel
theorem dX10_amount_1 : decode cX10_amount 1 = .ok (.iload_n 1, 1) := by decide +kernel
theorem dX10_amount_2 : decode cX10_amount 2 = .ok (.invokevirtual 137, 3) := by decide +kernel
theorem dX10_amount_5 : decode cX10_amount 5 = .ok (.ifCond .ne 13, 3) := by decide +kernel
theorem dX10_amount_8 : decode cX10_amount 8 = .ok (.new 141, 3) := by decide +kernel
theorem dX10_amount_11 : decode cX10_amount 11 = .ok (.dup, 1) := by decide +kernel
theorem dX10_amount_12 : decode cX10_amount 12 = .ok (.ldc 143, 2) := by decide +kernel
theorem dX10_amount_14 : decode cX10_amount 14 = .ok (.invokespecial 145, 3) := by decide +kernel
theorem dX10_amount_17 : decode cX10_amount 17 = .ok (.athrow, 1) := by decide +kernel
theorem dX10_amount_18 : decode cX10_amount 18 = .ok (.iload_n 2, 1) := by decide +kernel
theorem dX10_amount_19 : decode cX10_amount 19 = .ok (.invokestatic 148, 3) := by decide +kernel
theorem dX10_amount_22 : decode cX10_amount 22 = .ok (.ifCond .ne 13, 3) := by decide +kernel
theorem dX10_amount_25 : decode cX10_amount 25 = .ok (.new 151, 3) := by decide +kernel
theorem dX10_amount_28 : decode cX10_amount 28 = .ok (.dup, 1) := by decide +kernel
theorem dX10_amount_29 : decode cX10_amount 29 = .ok (.ldc 153, 2) := by decide +kernel
theorem dX10_amount_31 : decode cX10_amount 31 = .ok (.invokespecial 155, 3) := by decide +kernel
theorem dX10_amount_34 : decode cX10_amount 34 = .ok (.athrow, 1) := by decide +kernel
theorem dX10_amount_35 : decode cX10_amount 35 = .ok (.aload_n 0, 1) := by decide +kernel
theorem dX10_amount_36 : decode cX10_amount 36 = .ok (.getfield 47, 3) := by decide +kernel
theorem dX10_amount_39 : decode cX10_amount 39 = .ok (.iload_n 1, 1) := by decide +kernel
theorem dX10_amount_40 : decode cX10_amount 40 = .ok (.iload_n 2, 1) := by decide +kernel
theorem dX10_amount_41 : decode cX10_amount 41 = .ok (.invokevirtual 156, 3) := by decide +kernel
theorem dX10_amount_44 : decode cX10_amount 44 = .ok (.ireturn, 1) := by decide +kernel
theorem dL_amount_0 : decode cL_amount 0 = .ok (.aload_n 3, 1) := by decide +kernel
theorem dL_amount_1 : decode cL_amount 1 = .ok (.iconst 0, 1) := by decide +kernel
theorem dL_amount_2 : decode cL_amount 2 = .ok (.aload_n 0, 1) := by decide +kernel
theorem dL_amount_3 : decode cL_amount 3 = .ok (.iload_n 1, 1) := by decide +kernel
theorem dL_amount_4 : decode cL_amount 4 = .ok (.iload_n 2, 1) := by decide +kernel
theorem dL_amount_5 : decode cL_amount 5 = .ok (.invokevirtual 7, 3) := by decide +kernel
theorem dL_amount_8 : decode cL_amount 8 = .ok (.i2l, 1) := by decide +kernel
theorem dL_amount_9 : decode cL_amount 9 = .ok (.lastore, 1) := by decide +kernel
theorem dL_amount_10 : decode cL_amount 10 = .ok (.goto 11, 3) := by decide +kernel
theorem dL_amount_13 : decode cL_amount 13 = .ok (.astore 4, 2) := by decide +kernel
theorem dL_amount_15 : decode cL_amount 15 = .ok (.iconst 1, 1) := by decide +kernel
theorem dL_amount_16 : decode cL_amount 16 = .ok (.ireturn, 1) := by decide +kernel
theorem dL_amount_17 : decode cL_amount 17 = .ok (.astore 4, 2) := by decide +kernel
theorem dL_amount_19 : decode cL_amount 19 = .ok (.iconst 2, 1) := by decide +kernel
theorem dL_amount_20 : decode cL_amount 20 = .ok (.ireturn, 1) := by decide +kernel
theorem dL_amount_21 : decode cL_amount 21 = .ok (.iconst 0, 1) := by decide +kernel
theorem dL_amount_22 : decode cL_amount 22 = .ok (.ireturn, 1) := by decide +kernel
