-- decode rows
theorem d_J_init_Object_0 : decode b_J_init_Object 0 = .ok (.return_, 1) := by decide +kernel
theorem d_J_init_Throwable_V_0 : decode b_J_init_Throwable_V 0 = .ok (.aload_n 0, 1) := by decide +kernel
theorem d_J_init_Throwable_V_1 : decode b_J_init_Throwable_V 1 = .ok (.invokespecial 1, 3) := by decide +kernel
theorem d_J_init_Throwable_V_4 : decode b_J_init_Throwable_V 4 = .ok (.aload_n 0, 1) := by decide +kernel
theorem d_J_init_Throwable_V_5 : decode b_J_init_Throwable_V 5 = .ok (.aload_n 0, 1) := by decide +kernel
theorem d_J_init_Throwable_V_6 : decode b_J_init_Throwable_V 6 = .ok (.putfield 7, 3) := by decide +kernel
theorem d_J_init_Throwable_V_9 : decode b_J_init_Throwable_V 9 = .ok (.aload_n 0, 1) := by decide +kernel
theorem d_J_init_Throwable_V_10 : decode b_J_init_Throwable_V 10 = .ok (.getstatic 13, 3) := by decide +kernel
theorem d_J_init_Throwable_V_13 : decode b_J_init_Throwable_V 13 = .ok (.putfield 17, 3) := by decide +kernel
theorem d_J_init_Throwable_V_16 : decode b_J_init_Throwable_V 16 = .ok (.aload_n 0, 1) := by decide +kernel
theorem d_J_init_Throwable_V_17 : decode b_J_init_Throwable_V 17 = .ok (.getstatic 20, 3) := by decide +kernel
theorem d_J_init_Throwable_V_20 : decode b_J_init_Throwable_V 20 = .ok (.putfield 24, 3) := by decide +kernel
theorem d_J_init_Throwable_V_23 : decode b_J_init_Throwable_V 23 = .ok (.aload_n 0, 1) := by decide +kernel
theorem d_J_init_Throwable_V_24 : decode b_J_init_Throwable_V 24 = .ok (.invokevirtual 27, 3) := by decide +kernel
theorem d_J_init_Throwable_V_27 : decode b_J_init_Throwable_V 27 = .ok (.pop, 1) := by decide +kernel
theorem d_J_init_Throwable_V_28 : decode b_J_init_Throwable_V 28 = .ok (.return_, 1) := by decide +kernel
theorem d_J_init_IllegalArgumentException_0 : decode b_J_init_IllegalArgumentException 0 = .ok (.aload_n 0, 1) := by decide +kernel
theorem d_J_init_IllegalArgumentException_1 : decode b_J_init_IllegalArgumentException 1 = .ok (.aload_n 1, 1) := by decide +kernel
theorem d_J_init_IllegalArgumentException_2 : decode b_J_init_IllegalArgumentException 2 = .ok (.invokespecial 7, 3) := by decide +kernel
theorem d_J_init_IllegalArgumentException_5 : decode b_J_init_IllegalArgumentException 5 = .ok (.return_, 1) := by decide +kernel
theorem d_J_init_RuntimeException_0 : decode b_J_init_RuntimeException 0 = .ok (.aload_n 0, 1) := by decide +kernel
theorem d_J_init_RuntimeException_1 : decode b_J_init_RuntimeException 1 = .ok (.aload_n 1, 1) := by decide +kernel
theorem d_J_init_RuntimeException_2 : decode b_J_init_RuntimeException 2 = .ok (.invokespecial 7, 3) := by decide +kernel
theorem d_J_init_RuntimeException_5 : decode b_J_init_RuntimeException 5 = .ok (.return_, 1) := by decide +kernel
theorem d_J_init_Exception_0 : decode b_J_init_Exception 0 = .ok (.aload_n 0, 1) := by decide +kernel
theorem d_J_init_Exception_1 : decode b_J_init_Exception 1 = .ok (.aload_n 1, 1) := by decide +kernel
theorem d_J_init_Exception_2 : decode b_J_init_Exception 2 = .ok (.invokespecial 7, 3) := by decide +kernel
theorem d_J_init_Exception_5 : decode b_J_init_Exception 5 = .ok (.return_, 1) := by decide +kernel
theorem d_J_init_Throwable_LjavalangStringV_0 : decode b_J_init_Throwable_LjavalangStringV 0 = .ok (.aload_n 0, 1) := by decide +kernel
theorem d_J_init_Throwable_LjavalangStringV_1 : decode b_J_init_Throwable_LjavalangStringV 1 = .ok (.invokespecial 1, 3) := by decide +kernel
theorem d_J_init_Throwable_LjavalangStringV_4 : decode b_J_init_Throwable_LjavalangStringV 4 = .ok (.aload_n 0, 1) := by decide +kernel
theorem d_J_init_Throwable_LjavalangStringV_5 : decode b_J_init_Throwable_LjavalangStringV 5 = .ok (.aload_n 0, 1) := by decide +kernel
theorem d_J_init_Throwable_LjavalangStringV_6 : decode b_J_init_Throwable_LjavalangStringV 6 = .ok (.putfield 7, 3) := by decide +kernel
theorem d_J_init_Throwable_LjavalangStringV_9 : decode b_J_init_Throwable_LjavalangStringV 9 = .ok (.aload_n 0, 1) := by decide +kernel
theorem d_J_init_Throwable_LjavalangStringV_10 : decode b_J_init_Throwable_LjavalangStringV 10 = .ok (.getstatic 13, 3) := by decide +kernel
theorem d_J_init_Throwable_LjavalangStringV_13 : decode b_J_init_Throwable_LjavalangStringV 13 = .ok (.putfield 17, 3) := by decide +kernel
theorem d_J_init_Throwable_LjavalangStringV_16 : decode b_J_init_Throwable_LjavalangStringV 16 = .ok (.aload_n 0, 1) := by decide +kernel
theorem d_J_init_Throwable_LjavalangStringV_17 : decode b_J_init_Throwable_LjavalangStringV 17 = .ok (.getstatic 20, 3) := by decide +kernel
theorem d_J_init_Throwable_LjavalangStringV_20 : decode b_J_init_Throwable_LjavalangStringV 20 = .ok (.putfield 24, 3) := by decide +kernel
theorem d_J_init_Throwable_LjavalangStringV_23 : decode b_J_init_Throwable_LjavalangStringV 23 = .ok (.aload_n 0, 1) := by decide +kernel
theorem d_J_init_Throwable_LjavalangStringV_24 : decode b_J_init_Throwable_LjavalangStringV 24 = .ok (.invokevirtual 27, 3) := by decide +kernel
theorem d_J_init_Throwable_LjavalangStringV_27 : decode b_J_init_Throwable_LjavalangStringV 27 = .ok (.pop, 1) := by decide +kernel
theorem d_J_init_Throwable_LjavalangStringV_28 : decode b_J_init_Throwable_LjavalangStringV 28 = .ok (.aload_n 0, 1) := by decide +kernel
theorem d_J_init_Throwable_LjavalangStringV_29 : decode b_J_init_Throwable_LjavalangStringV 29 = .ok (.aload_n 1, 1) := by decide +kernel
theorem d_J_init_Throwable_LjavalangStringV_30 : decode b_J_init_Throwable_LjavalangStringV 30 = .ok (.putfield 31, 3) := by decide +kernel
theorem d_J_init_Throwable_LjavalangStringV_33 : decode b_J_init_Throwable_LjavalangStringV 33 = .ok (.return_, 1) := by decide +kernel
theorem d_J_fill_Arrays_0 : decode b_J_fill_Arrays 0 = .ok (.iconst 0, 1) := by decide +kernel
theorem d_J_fill_Arrays_1 : decode b_J_fill_Arrays 1 = .ok (.istore_n 3, 1) := by decide +kernel
theorem d_J_fill_Arrays_2 : decode b_J_fill_Arrays 2 = .ok (.aload_n 0, 1) := by decide +kernel
theorem d_J_fill_Arrays_3 : decode b_J_fill_Arrays 3 = .ok (.arraylength, 1) := by decide +kernel
theorem d_J_fill_Arrays_4 : decode b_J_fill_Arrays 4 = .ok (.istore 4, 2) := by decide +kernel
theorem d_J_fill_Arrays_6 : decode b_J_fill_Arrays 6 = .ok (.iload_n 3, 1) := by decide +kernel
theorem d_J_fill_Arrays_7 : decode b_J_fill_Arrays 7 = .ok (.iload 4, 2) := by decide +kernel
theorem d_J_fill_Arrays_9 : decode b_J_fill_Arrays 9 = .ok (.if_icmp .ge 13, 3) := by decide +kernel
theorem d_J_fill_Arrays_12 : decode b_J_fill_Arrays 12 = .ok (.aload_n 0, 1) := by decide +kernel
theorem d_J_fill_Arrays_13 : decode b_J_fill_Arrays 13 = .ok (.iload_n 3, 1) := by decide +kernel
theorem d_J_fill_Arrays_14 : decode b_J_fill_Arrays 14 = .ok (.lload_n 1, 1) := by decide +kernel
theorem d_J_fill_Arrays_15 : decode b_J_fill_Arrays 15 = .ok (.lastore, 1) := by decide +kernel
theorem d_J_fill_Arrays_16 : decode b_J_fill_Arrays 16 = .ok (.iinc 3 1, 3) := by decide +kernel
theorem d_J_fill_Arrays_19 : decode b_J_fill_Arrays 19 = .ok (.goto (-13), 3) := by decide +kernel
theorem d_J_fill_Arrays_22 : decode b_J_fill_Arrays 22 = .ok (.return_, 1) := by decide +kernel
theorem d_J_numberOfLeadingZeros_Integer_0 : decode b_J_numberOfLeadingZeros_Integer 0 = .ok (.iload_n 0, 1) := by decide +kernel
theorem d_J_numberOfLeadingZeros_Integer_1 : decode b_J_numberOfLeadingZeros_Integer 1 = .ok (.ifCond .gt 14, 3) := by decide +kernel
theorem d_J_numberOfLeadingZeros_Integer_4 : decode b_J_numberOfLeadingZeros_Integer 4 = .ok (.iload_n 0, 1) := by decide +kernel
theorem d_J_numberOfLeadingZeros_Integer_5 : decode b_J_numberOfLeadingZeros_Integer 5 = .ok (.ifCond .ne 8, 3) := by decide +kernel
theorem d_J_numberOfLeadingZeros_Integer_8 : decode b_J_numberOfLeadingZeros_Integer 8 = .ok (.bipush 32, 2) := by decide +kernel
theorem d_J_numberOfLeadingZeros_Integer_10 : decode b_J_numberOfLeadingZeros_Integer 10 = .ok (.goto 4, 3) := by decide +kernel
theorem d_J_numberOfLeadingZeros_Integer_13 : decode b_J_numberOfLeadingZeros_Integer 13 = .ok (.iconst 0, 1) := by decide +kernel
theorem d_J_numberOfLeadingZeros_Integer_14 : decode b_J_numberOfLeadingZeros_Integer 14 = .ok (.ireturn, 1) := by decide +kernel
theorem d_J_numberOfLeadingZeros_Integer_15 : decode b_J_numberOfLeadingZeros_Integer 15 = .ok (.bipush 31, 2) := by decide +kernel
theorem d_J_numberOfLeadingZeros_Integer_17 : decode b_J_numberOfLeadingZeros_Integer 17 = .ok (.istore_n 1, 1) := by decide +kernel
theorem d_J_numberOfLeadingZeros_Integer_18 : decode b_J_numberOfLeadingZeros_Integer 18 = .ok (.iload_n 0, 1) := by decide +kernel
theorem d_J_numberOfLeadingZeros_Integer_19 : decode b_J_numberOfLeadingZeros_Integer 19 = .ok (.ldc_w 264, 3) := by decide +kernel
theorem d_J_numberOfLeadingZeros_Integer_22 : decode b_J_numberOfLeadingZeros_Integer 22 = .ok (.if_icmp .lt 11, 3) := by decide +kernel
theorem d_J_numberOfLeadingZeros_Integer_25 : decode b_J_numberOfLeadingZeros_Integer 25 = .ok (.iinc 1 (-16), 3) := by decide +kernel
theorem d_J_numberOfLeadingZeros_Integer_28 : decode b_J_numberOfLeadingZeros_Integer 28 = .ok (.iload_n 0, 1) := by decide +kernel
theorem d_J_numberOfLeadingZeros_Integer_29 : decode b_J_numberOfLeadingZeros_Integer 29 = .ok (.bipush 16, 2) := by decide +kernel
theorem d_J_numberOfLeadingZeros_Integer_31 : decode b_J_numberOfLeadingZeros_Integer 31 = .ok (.iushr, 1) := by decide +kernel
theorem d_J_numberOfLeadingZeros_Integer_32 : decode b_J_numberOfLeadingZeros_Integer 32 = .ok (.istore_n 0, 1) := by decide +kernel
theorem d_J_numberOfLeadingZeros_Integer_33 : decode b_J_numberOfLeadingZeros_Integer 33 = .ok (.iload_n 0, 1) := by decide +kernel
theorem d_J_numberOfLeadingZeros_Integer_34 : decode b_J_numberOfLeadingZeros_Integer 34 = .ok (.sipush 256, 3) := by decide +kernel
theorem d_J_numberOfLeadingZeros_Integer_37 : decode b_J_numberOfLeadingZeros_Integer 37 = .ok (.if_icmp .lt 11, 3) := by decide +kernel
theorem d_J_numberOfLeadingZeros_Integer_40 : decode b_J_numberOfLeadingZeros_Integer 40 = .ok (.iinc 1 (-8), 3) := by decide +kernel
theorem d_J_numberOfLeadingZeros_Integer_43 : decode b_J_numberOfLeadingZeros_Integer 43 = .ok (.iload_n 0, 1) := by decide +kernel
theorem d_J_numberOfLeadingZeros_Integer_44 : decode b_J_numberOfLeadingZeros_Integer 44 = .ok (.bipush 8, 2) := by decide +kernel
theorem d_J_numberOfLeadingZeros_Integer_46 : decode b_J_numberOfLeadingZeros_Integer 46 = .ok (.iushr, 1) := by decide +kernel
theorem d_J_numberOfLeadingZeros_Integer_47 : decode b_J_numberOfLeadingZeros_Integer 47 = .ok (.istore_n 0, 1) := by decide +kernel
theorem d_J_numberOfLeadingZeros_Integer_48 : decode b_J_numberOfLeadingZeros_Integer 48 = .ok (.iload_n 0, 1) := by decide +kernel
theorem d_J_numberOfLeadingZeros_Integer_49 : decode b_J_numberOfLeadingZeros_Integer 49 = .ok (.bipush 16, 2) := by decide +kernel
theorem d_J_numberOfLeadingZeros_Integer_51 : decode b_J_numberOfLeadingZeros_Integer 51 = .ok (.if_icmp .lt 10, 3) := by decide +kernel
theorem d_J_numberOfLeadingZeros_Integer_54 : decode b_J_numberOfLeadingZeros_Integer 54 = .ok (.iinc 1 (-4), 3) := by decide +kernel
theorem d_J_numberOfLeadingZeros_Integer_57 : decode b_J_numberOfLeadingZeros_Integer 57 = .ok (.iload_n 0, 1) := by decide +kernel
theorem d_J_numberOfLeadingZeros_Integer_58 : decode b_J_numberOfLeadingZeros_Integer 58 = .ok (.iconst 4, 1) := by decide +kernel
theorem d_J_numberOfLeadingZeros_Integer_59 : decode b_J_numberOfLeadingZeros_Integer 59 = .ok (.iushr, 1) := by decide +kernel
theorem d_J_numberOfLeadingZeros_Integer_60 : decode b_J_numberOfLeadingZeros_Integer 60 = .ok (.istore_n 0, 1) := by decide +kernel
theorem d_J_numberOfLeadingZeros_Integer_61 : decode b_J_numberOfLeadingZeros_Integer 61 = .ok (.iload_n 0, 1) := by decide +kernel
theorem d_J_numberOfLeadingZeros_Integer_62 : decode b_J_numberOfLeadingZeros_Integer 62 = .ok (.iconst 4, 1) := by decide +kernel
theorem d_J_numberOfLeadingZeros_Integer_63 : decode b_J_numberOfLeadingZeros_Integer 63 = .ok (.if_icmp .lt 10, 3) := by decide +kernel
theorem d_J_numberOfLeadingZeros_Integer_66 : decode b_J_numberOfLeadingZeros_Integer 66 = .ok (.iinc 1 (-2), 3) := by decide +kernel
theorem d_J_numberOfLeadingZeros_Integer_69 : decode b_J_numberOfLeadingZeros_Integer 69 = .ok (.iload_n 0, 1) := by decide +kernel
theorem d_J_numberOfLeadingZeros_Integer_70 : decode b_J_numberOfLeadingZeros_Integer 70 = .ok (.iconst 2, 1) := by decide +kernel
theorem d_J_numberOfLeadingZeros_Integer_71 : decode b_J_numberOfLeadingZeros_Integer 71 = .ok (.iushr, 1) := by decide +kernel
theorem d_J_numberOfLeadingZeros_Integer_72 : decode b_J_numberOfLeadingZeros_Integer 72 = .ok (.istore_n 0, 1) := by decide +kernel
theorem d_J_numberOfLeadingZeros_Integer_73 : decode b_J_numberOfLeadingZeros_Integer 73 = .ok (.iload_n 1, 1) := by decide +kernel
theorem d_J_numberOfLeadingZeros_Integer_74 : decode b_J_numberOfLeadingZeros_Integer 74 = .ok (.iload_n 0, 1) := by decide +kernel
theorem d_J_numberOfLeadingZeros_Integer_75 : decode b_J_numberOfLeadingZeros_Integer 75 = .ok (.iconst 1, 1) := by decide +kernel
theorem d_J_numberOfLeadingZeros_Integer_76 : decode b_J_numberOfLeadingZeros_Integer 76 = .ok (.iushr, 1) := by decide +kernel
theorem d_J_numberOfLeadingZeros_Integer_77 : decode b_J_numberOfLeadingZeros_Integer 77 = .ok (.isub, 1) := by decide +kernel
theorem d_J_numberOfLeadingZeros_Integer_78 : decode b_J_numberOfLeadingZeros_Integer 78 = .ok (.ireturn, 1) := by decide +kernel
