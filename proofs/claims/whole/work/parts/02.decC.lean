-- decode rows
theorem d_C_init_0 : decode b_C_init 0 = .ok (.aload_n 0, 1) := by decide +kernel
theorem d_C_init_1 : decode b_C_init 1 = .ok (.invokespecial 1, 3) := by decide +kernel
theorem d_C_init_4 : decode b_C_init 4 = .ok (.aload_n 0, 1) := by decide +kernel
theorem d_C_init_5 : decode b_C_init 5 = .ok (.bipush 16, 2) := by decide +kernel
theorem d_C_init_7 : decode b_C_init 7 = .ok (.bipush 8, 2) := by decide +kernel
theorem d_C_init_9 : decode b_C_init 9 = .ok (.multianewarray 9 2, 4) := by decide +kernel
theorem d_C_init_13 : decode b_C_init 13 = .ok (.putfield 11, 3) := by decide +kernel
theorem d_C_init_16 : decode b_C_init 16 = .ok (.aload_n 0, 1) := by decide +kernel
theorem d_C_init_17 : decode b_C_init 17 = .ok (.bipush 8, 2) := by decide +kernel
theorem d_C_init_19 : decode b_C_init 19 = .ok (.newarray .long, 2) := by decide +kernel
theorem d_C_init_21 : decode b_C_init 21 = .ok (.putfield 14, 3) := by decide +kernel
theorem d_C_init_24 : decode b_C_init 24 = .ok (.aload_n 0, 1) := by decide +kernel
theorem d_C_init_25 : decode b_C_init 25 = .ok (.bipush 8, 2) := by decide +kernel
theorem d_C_init_27 : decode b_C_init 27 = .ok (.newarray .long, 2) := by decide +kernel
theorem d_C_init_29 : decode b_C_init 29 = .ok (.putfield 18, 3) := by decide +kernel
theorem d_C_init_32 : decode b_C_init 32 = .ok (.aload_n 0, 1) := by decide +kernel
theorem d_C_init_33 : decode b_C_init 33 = .ok (.bipush 8, 2) := by decide +kernel
theorem d_C_init_35 : decode b_C_init 35 = .ok (.newarray .long, 2) := by decide +kernel
theorem d_C_init_37 : decode b_C_init 37 = .ok (.putfield 21, 3) := by decide +kernel
theorem d_C_init_40 : decode b_C_init 40 = .ok (.aload_n 0, 1) := by decide +kernel
theorem d_C_init_41 : decode b_C_init 41 = .ok (.bipush 16, 2) := by decide +kernel
theorem d_C_init_43 : decode b_C_init 43 = .ok (.newarray .long, 2) := by decide +kernel
theorem d_C_init_45 : decode b_C_init 45 = .ok (.putfield 24, 3) := by decide +kernel
theorem d_C_init_48 : decode b_C_init 48 = .ok (.aload_n 0, 1) := by decide +kernel
theorem d_C_init_49 : decode b_C_init 49 = .ok (.bipush 16, 2) := by decide +kernel
theorem d_C_init_51 : decode b_C_init 51 = .ok (.newarray .long, 2) := by decide +kernel
theorem d_C_init_53 : decode b_C_init 53 = .ok (.putfield 27, 3) := by decide +kernel
theorem d_C_init_56 : decode b_C_init 56 = .ok (.aload_n 0, 1) := by decide +kernel
theorem d_C_init_57 : decode b_C_init 57 = .ok (.bipush 8, 2) := by decide +kernel
theorem d_C_init_59 : decode b_C_init 59 = .ok (.newarray .long, 2) := by decide +kernel
theorem d_C_init_61 : decode b_C_init 61 = .ok (.putfield 30, 3) := by decide +kernel
theorem d_C_init_64 : decode b_C_init 64 = .ok (.return_, 1) := by decide +kernel
theorem d_C_set_0 : decode b_C_set 0 = .ok (.iload_n 1, 1) := by decide +kernel
theorem d_C_set_1 : decode b_C_set 1 = .ok (.bipush 16, 2) := by decide +kernel
theorem d_C_set_3 : decode b_C_set 3 = .ok (.invokestatic 33, 3) := by decide +kernel
theorem d_C_set_6 : decode b_C_set 6 = .ok (.aload_n 0, 1) := by decide +kernel
theorem d_C_set_7 : decode b_C_set 7 = .ok (.getfield 11, 3) := by decide +kernel
theorem d_C_set_10 : decode b_C_set 10 = .ok (.iload_n 1, 1) := by decide +kernel
theorem d_C_set_11 : decode b_C_set 11 = .ok (.aaload, 1) := by decide +kernel
theorem d_C_set_12 : decode b_C_set 12 = .ok (.iconst 0, 1) := by decide +kernel
theorem d_C_set_13 : decode b_C_set 13 = .ok (.lload_n 2, 1) := by decide +kernel
theorem d_C_set_14 : decode b_C_set 14 = .ok (.invokestatic 37, 3) := by decide +kernel
theorem d_C_set_17 : decode b_C_set 17 = .ok (.aload_n 0, 1) := by decide +kernel
theorem d_C_set_18 : decode b_C_set 18 = .ok (.getfield 11, 3) := by decide +kernel
theorem d_C_set_21 : decode b_C_set 21 = .ok (.iload_n 1, 1) := by decide +kernel
theorem d_C_set_22 : decode b_C_set 22 = .ok (.aaload, 1) := by decide +kernel
theorem d_C_set_23 : decode b_C_set 23 = .ok (.iconst 1, 1) := by decide +kernel
theorem d_C_set_24 : decode b_C_set 24 = .ok (.lload 4, 2) := by decide +kernel
theorem d_C_set_26 : decode b_C_set 26 = .ok (.invokestatic 37, 3) := by decide +kernel
theorem d_C_set_29 : decode b_C_set 29 = .ok (.aload_n 0, 1) := by decide +kernel
theorem d_C_set_30 : decode b_C_set 30 = .ok (.getfield 11, 3) := by decide +kernel
theorem d_C_set_33 : decode b_C_set 33 = .ok (.iload_n 1, 1) := by decide +kernel
theorem d_C_set_34 : decode b_C_set 34 = .ok (.aaload, 1) := by decide +kernel
theorem d_C_set_35 : decode b_C_set 35 = .ok (.iconst 2, 1) := by decide +kernel
theorem d_C_set_36 : decode b_C_set 36 = .ok (.lload 6, 2) := by decide +kernel
theorem d_C_set_38 : decode b_C_set 38 = .ok (.invokestatic 37, 3) := by decide +kernel
theorem d_C_set_41 : decode b_C_set 41 = .ok (.aload_n 0, 1) := by decide +kernel
theorem d_C_set_42 : decode b_C_set 42 = .ok (.getfield 11, 3) := by decide +kernel
theorem d_C_set_45 : decode b_C_set 45 = .ok (.iload_n 1, 1) := by decide +kernel
theorem d_C_set_46 : decode b_C_set 46 = .ok (.aaload, 1) := by decide +kernel
theorem d_C_set_47 : decode b_C_set 47 = .ok (.iconst 3, 1) := by decide +kernel
theorem d_C_set_48 : decode b_C_set 48 = .ok (.lload 8, 2) := by decide +kernel
theorem d_C_set_50 : decode b_C_set 50 = .ok (.invokestatic 37, 3) := by decide +kernel
theorem d_C_set_53 : decode b_C_set 53 = .ok (.return_, 1) := by decide +kernel
theorem d_C_refuseOutside_0 : decode b_C_refuseOutside 0 = .ok (.iload_n 0, 1) := by decide +kernel
theorem d_C_refuseOutside_1 : decode b_C_refuseOutside 1 = .ok (.ifCond .lt 8, 3) := by decide +kernel
theorem d_C_refuseOutside_4 : decode b_C_refuseOutside 4 = .ok (.iload_n 0, 1) := by decide +kernel
theorem d_C_refuseOutside_5 : decode b_C_refuseOutside 5 = .ok (.iload_n 1, 1) := by decide +kernel
theorem d_C_refuseOutside_6 : decode b_C_refuseOutside 6 = .ok (.if_icmp .lt 13, 3) := by decide +kernel
theorem d_C_refuseOutside_9 : decode b_C_refuseOutside 9 = .ok (.new 91, 3) := by decide +kernel
theorem d_C_refuseOutside_12 : decode b_C_refuseOutside 12 = .ok (.dup, 1) := by decide +kernel
theorem d_C_refuseOutside_13 : decode b_C_refuseOutside 13 = .ok (.ldc 93, 2) := by decide +kernel
theorem d_C_refuseOutside_15 : decode b_C_refuseOutside 15 = .ok (.invokespecial 95, 3) := by decide +kernel
theorem d_C_refuseOutside_18 : decode b_C_refuseOutside 18 = .ok (.athrow, 1) := by decide +kernel
theorem d_C_refuseOutside_19 : decode b_C_refuseOutside 19 = .ok (.return_, 1) := by decide +kernel
theorem d_C_writePart_0 : decode b_C_writePart 0 = .ok (.iload_n 1, 1) := by decide +kernel
theorem d_C_writePart_1 : decode b_C_writePart 1 = .ok (.invokestatic 41, 3) := by decide +kernel
theorem d_C_writePart_4 : decode b_C_writePart 4 = .ok (.istore 4, 2) := by decide +kernel
theorem d_C_writePart_6 : decode b_C_writePart 6 = .ok (.aload_n 0, 1) := by decide +kernel
theorem d_C_writePart_7 : decode b_C_writePart 7 = .ok (.iload 4, 2) := by decide +kernel
theorem d_C_writePart_9 : decode b_C_writePart 9 = .ok (.lload_n 2, 1) := by decide +kernel
theorem d_C_writePart_10 : decode b_C_writePart 10 = .ok (.ldc2_w 142, 3) := by decide +kernel
theorem d_C_writePart_13 : decode b_C_writePart 13 = .ok (.land, 1) := by decide +kernel
theorem d_C_writePart_14 : decode b_C_writePart 14 = .ok (.lastore, 1) := by decide +kernel
theorem d_C_writePart_15 : decode b_C_writePart 15 = .ok (.aload_n 0, 1) := by decide +kernel
theorem d_C_writePart_16 : decode b_C_writePart 16 = .ok (.iload 4, 2) := by decide +kernel
theorem d_C_writePart_18 : decode b_C_writePart 18 = .ok (.iconst 1, 1) := by decide +kernel
theorem d_C_writePart_19 : decode b_C_writePart 19 = .ok (.iadd, 1) := by decide +kernel
theorem d_C_writePart_20 : decode b_C_writePart 20 = .ok (.lload_n 2, 1) := by decide +kernel
theorem d_C_writePart_21 : decode b_C_writePart 21 = .ok (.bipush 32, 2) := by decide +kernel
theorem d_C_writePart_23 : decode b_C_writePart 23 = .ok (.lushr, 1) := by decide +kernel
theorem d_C_writePart_24 : decode b_C_writePart 24 = .ok (.lastore, 1) := by decide +kernel
theorem d_C_writePart_25 : decode b_C_writePart 25 = .ok (.return_, 1) := by decide +kernel
theorem d_C_lowLimbOfPart_0 : decode b_C_lowLimbOfPart 0 = .ok (.iconst 2, 1) := by decide +kernel
theorem d_C_lowLimbOfPart_1 : decode b_C_lowLimbOfPart 1 = .ok (.iconst 3, 1) := by decide +kernel
theorem d_C_lowLimbOfPart_2 : decode b_C_lowLimbOfPart 2 = .ok (.iload_n 0, 1) := by decide +kernel
theorem d_C_lowLimbOfPart_3 : decode b_C_lowLimbOfPart 3 = .ok (.isub, 1) := by decide +kernel
theorem d_C_lowLimbOfPart_4 : decode b_C_lowLimbOfPart 4 = .ok (.imul, 1) := by decide +kernel
theorem d_C_lowLimbOfPart_5 : decode b_C_lowLimbOfPart 5 = .ok (.ireturn, 1) := by decide +kernel
theorem d_C_get_0 : decode b_C_get 0 = .ok (.iload_n 1, 1) := by decide +kernel
theorem d_C_get_1 : decode b_C_get 1 = .ok (.bipush 16, 2) := by decide +kernel
theorem d_C_get_3 : decode b_C_get 3 = .ok (.invokestatic 33, 3) := by decide +kernel
theorem d_C_get_6 : decode b_C_get 6 = .ok (.iload_n 2, 1) := by decide +kernel
theorem d_C_get_7 : decode b_C_get 7 = .ok (.iconst 4, 1) := by decide +kernel
theorem d_C_get_8 : decode b_C_get 8 = .ok (.invokestatic 33, 3) := by decide +kernel
theorem d_C_get_11 : decode b_C_get 11 = .ok (.iload_n 2, 1) := by decide +kernel
theorem d_C_get_12 : decode b_C_get 12 = .ok (.invokestatic 41, 3) := by decide +kernel
theorem d_C_get_15 : decode b_C_get 15 = .ok (.istore_n 3, 1) := by decide +kernel
theorem d_C_get_16 : decode b_C_get 16 = .ok (.aload_n 0, 1) := by decide +kernel
theorem d_C_get_17 : decode b_C_get 17 = .ok (.getfield 11, 3) := by decide +kernel
theorem d_C_get_20 : decode b_C_get 20 = .ok (.iload_n 1, 1) := by decide +kernel
theorem d_C_get_21 : decode b_C_get 21 = .ok (.aaload, 1) := by decide +kernel
theorem d_C_get_22 : decode b_C_get 22 = .ok (.iload_n 3, 1) := by decide +kernel
theorem d_C_get_23 : decode b_C_get 23 = .ok (.iconst 1, 1) := by decide +kernel
theorem d_C_get_24 : decode b_C_get 24 = .ok (.iadd, 1) := by decide +kernel
theorem d_C_get_25 : decode b_C_get 25 = .ok (.laload, 1) := by decide +kernel
theorem d_C_get_26 : decode b_C_get 26 = .ok (.bipush 32, 2) := by decide +kernel
theorem d_C_get_28 : decode b_C_get 28 = .ok (.lshl, 1) := by decide +kernel
theorem d_C_get_29 : decode b_C_get 29 = .ok (.aload_n 0, 1) := by decide +kernel
theorem d_C_get_30 : decode b_C_get 30 = .ok (.getfield 11, 3) := by decide +kernel
theorem d_C_get_33 : decode b_C_get 33 = .ok (.iload_n 1, 1) := by decide +kernel
theorem d_C_get_34 : decode b_C_get 34 = .ok (.aaload, 1) := by decide +kernel
theorem d_C_get_35 : decode b_C_get 35 = .ok (.iload_n 3, 1) := by decide +kernel
theorem d_C_get_36 : decode b_C_get 36 = .ok (.laload, 1) := by decide +kernel
theorem d_C_get_37 : decode b_C_get 37 = .ok (.lor, 1) := by decide +kernel
theorem d_C_get_38 : decode b_C_get 38 = .ok (.lreturn, 1) := by decide +kernel
theorem d_C_two_0 : decode b_C_two 0 = .ok (.iload_n 1, 1) := by decide +kernel
theorem d_C_two_1 : decode b_C_two 1 = .ok (.bipush 16, 2) := by decide +kernel
theorem d_C_two_3 : decode b_C_two 3 = .ok (.invokestatic 33, 3) := by decide +kernel
theorem d_C_two_6 : decode b_C_two 6 = .ok (.iload_n 2, 1) := by decide +kernel
theorem d_C_two_7 : decode b_C_two 7 = .ok (.bipush 16, 2) := by decide +kernel
theorem d_C_two_9 : decode b_C_two 9 = .ok (.invokestatic 33, 3) := by decide +kernel
theorem d_C_two_12 : decode b_C_two 12 = .ok (.iload_n 3, 1) := by decide +kernel
theorem d_C_two_13 : decode b_C_two 13 = .ok (.bipush 16, 2) := by decide +kernel
theorem d_C_two_15 : decode b_C_two 15 = .ok (.invokestatic 33, 3) := by decide +kernel
theorem d_C_two_18 : decode b_C_two 18 = .ok (.iload 4, 2) := by decide +kernel
theorem d_C_two_20 : decode b_C_two 20 = .ok (.bipush 16, 2) := by decide +kernel
theorem d_C_two_22 : decode b_C_two 22 = .ok (.invokestatic 33, 3) := by decide +kernel
theorem d_C_two_25 : decode b_C_two 25 = .ok (.iload_n 1, 1) := by decide +kernel
theorem d_C_two_26 : decode b_C_two 26 = .ok (.bipush 7, 2) := by decide +kernel
theorem d_C_two_28 : decode b_C_two 28 = .ok (.if_icmp .gt 24, 3) := by decide +kernel
theorem d_C_two_31 : decode b_C_two 31 = .ok (.aload_n 0, 1) := by decide +kernel
theorem d_C_two_32 : decode b_C_two 32 = .ok (.iload_n 1, 1) := by decide +kernel
theorem d_C_two_33 : decode b_C_two 33 = .ok (.aload_n 0, 1) := by decide +kernel
theorem d_C_two_34 : decode b_C_two 34 = .ok (.getfield 11, 3) := by decide +kernel
theorem d_C_two_37 : decode b_C_two 37 = .ok (.iload_n 3, 1) := by decide +kernel
theorem d_C_two_38 : decode b_C_two 38 = .ok (.aaload, 1) := by decide +kernel
theorem d_C_two_39 : decode b_C_two 39 = .ok (.aload_n 0, 1) := by decide +kernel
theorem d_C_two_40 : decode b_C_two 40 = .ok (.getfield 11, 3) := by decide +kernel
theorem d_C_two_43 : decode b_C_two 43 = .ok (.iload 4, 2) := by decide +kernel
theorem d_C_two_45 : decode b_C_two 45 = .ok (.aaload, 1) := by decide +kernel
theorem d_C_two_46 : decode b_C_two 46 = .ok (.invokevirtual 45, 3) := by decide +kernel
theorem d_C_two_49 : decode b_C_two 49 = .ok (.goto 21, 3) := by decide +kernel
theorem d_C_two_52 : decode b_C_two 52 = .ok (.aload_n 0, 1) := by decide +kernel
theorem d_C_two_53 : decode b_C_two 53 = .ok (.iload_n 1, 1) := by decide +kernel
theorem d_C_two_54 : decode b_C_two 54 = .ok (.aload_n 0, 1) := by decide +kernel
theorem d_C_two_55 : decode b_C_two 55 = .ok (.getfield 11, 3) := by decide +kernel
theorem d_C_two_58 : decode b_C_two 58 = .ok (.iload_n 3, 1) := by decide +kernel
theorem d_C_two_59 : decode b_C_two 59 = .ok (.aaload, 1) := by decide +kernel
theorem d_C_two_60 : decode b_C_two 60 = .ok (.aload_n 0, 1) := by decide +kernel
theorem d_C_two_61 : decode b_C_two 61 = .ok (.getfield 11, 3) := by decide +kernel
theorem d_C_two_64 : decode b_C_two 64 = .ok (.iload 4, 2) := by decide +kernel
theorem d_C_two_66 : decode b_C_two 66 = .ok (.aaload, 1) := by decide +kernel
theorem d_C_two_67 : decode b_C_two 67 = .ok (.invokevirtual 49, 3) := by decide +kernel
theorem d_C_two_70 : decode b_C_two 70 = .ok (.aload_n 0, 1) := by decide +kernel
theorem d_C_two_71 : decode b_C_two 71 = .ok (.getfield 11, 3) := by decide +kernel
theorem d_C_two_74 : decode b_C_two 74 = .ok (.iload_n 2, 1) := by decide +kernel
theorem d_C_two_75 : decode b_C_two 75 = .ok (.aaload, 1) := by decide +kernel
theorem d_C_two_76 : decode b_C_two 76 = .ok (.aload_n 0, 1) := by decide +kernel
theorem d_C_two_77 : decode b_C_two 77 = .ok (.getfield 14, 3) := by decide +kernel
theorem d_C_two_80 : decode b_C_two 80 = .ok (.invokestatic 52, 3) := by decide +kernel
theorem d_C_two_83 : decode b_C_two 83 = .ok (.return_, 1) := by decide +kernel
theorem d_C_calculate_0 : decode b_C_calculate 0 = .ok (.iload_n 1, 1) := by decide +kernel
theorem d_C_calculate_1 : decode b_C_calculate 1 = .ok (.tableswitch 193 0 7 #[47, 60, 72, 84, 104, 124, 160, 184], 47) := by decide +kernel
theorem d_C_calculate_48 : decode b_C_calculate 48 = .ok (.aload_n 0, 1) := by decide +kernel
theorem d_C_calculate_49 : decode b_C_calculate 49 = .ok (.getfield 14, 3) := by decide +kernel
theorem d_C_calculate_52 : decode b_C_calculate 52 = .ok (.aload_n 2, 1) := by decide +kernel
theorem d_C_calculate_53 : decode b_C_calculate 53 = .ok (.aload_n 3, 1) := by decide +kernel
theorem d_C_calculate_54 : decode b_C_calculate 54 = .ok (.invokestatic 66, 3) := by decide +kernel
theorem d_C_calculate_57 : decode b_C_calculate 57 = .ok (.pop2, 1) := by decide +kernel
theorem d_C_calculate_58 : decode b_C_calculate 58 = .ok (.goto 136, 3) := by decide +kernel
theorem d_C_calculate_61 : decode b_C_calculate 61 = .ok (.aload_n 0, 1) := by decide +kernel
theorem d_C_calculate_62 : decode b_C_calculate 62 = .ok (.getfield 14, 3) := by decide +kernel
theorem d_C_calculate_65 : decode b_C_calculate 65 = .ok (.aload_n 2, 1) := by decide +kernel
theorem d_C_calculate_66 : decode b_C_calculate 66 = .ok (.aload_n 3, 1) := by decide +kernel
theorem d_C_calculate_67 : decode b_C_calculate 67 = .ok (.invokestatic 98, 3) := by decide +kernel
theorem d_C_calculate_70 : decode b_C_calculate 70 = .ok (.goto 124, 3) := by decide +kernel
theorem d_C_calculate_73 : decode b_C_calculate 73 = .ok (.aload_n 0, 1) := by decide +kernel
theorem d_C_calculate_74 : decode b_C_calculate 74 = .ok (.getfield 14, 3) := by decide +kernel
theorem d_C_calculate_77 : decode b_C_calculate 77 = .ok (.aload_n 2, 1) := by decide +kernel
theorem d_C_calculate_78 : decode b_C_calculate 78 = .ok (.aload_n 3, 1) := by decide +kernel
theorem d_C_calculate_79 : decode b_C_calculate 79 = .ok (.invokestatic 56, 3) := by decide +kernel
theorem d_C_calculate_82 : decode b_C_calculate 82 = .ok (.goto 112, 3) := by decide +kernel
theorem d_C_calculate_85 : decode b_C_calculate 85 = .ok (.aload_n 0, 1) := by decide +kernel
theorem d_C_calculate_86 : decode b_C_calculate 86 = .ok (.aload_n 2, 1) := by decide +kernel
theorem d_C_calculate_87 : decode b_C_calculate 87 = .ok (.aload_n 3, 1) := by decide +kernel
theorem d_C_calculate_88 : decode b_C_calculate 88 = .ok (.invokevirtual 70, 3) := by decide +kernel
theorem d_C_calculate_91 : decode b_C_calculate 91 = .ok (.aload_n 0, 1) := by decide +kernel
theorem d_C_calculate_92 : decode b_C_calculate 92 = .ok (.getfield 14, 3) := by decide +kernel
theorem d_C_calculate_95 : decode b_C_calculate 95 = .ok (.aload_n 0, 1) := by decide +kernel
theorem d_C_calculate_96 : decode b_C_calculate 96 = .ok (.getfield 27, 3) := by decide +kernel
theorem d_C_calculate_99 : decode b_C_calculate 99 = .ok (.invokestatic 52, 3) := by decide +kernel
theorem d_C_calculate_102 : decode b_C_calculate 102 = .ok (.goto 92, 3) := by decide +kernel
theorem d_C_calculate_105 : decode b_C_calculate 105 = .ok (.aload_n 0, 1) := by decide +kernel
theorem d_C_calculate_106 : decode b_C_calculate 106 = .ok (.aload_n 2, 1) := by decide +kernel
theorem d_C_calculate_107 : decode b_C_calculate 107 = .ok (.aload_n 3, 1) := by decide +kernel
theorem d_C_calculate_108 : decode b_C_calculate 108 = .ok (.invokevirtual 70, 3) := by decide +kernel
theorem d_C_calculate_111 : decode b_C_calculate 111 = .ok (.aload_n 0, 1) := by decide +kernel
theorem d_C_calculate_112 : decode b_C_calculate 112 = .ok (.getfield 14, 3) := by decide +kernel
theorem d_C_calculate_115 : decode b_C_calculate 115 = .ok (.aload_n 0, 1) := by decide +kernel
theorem d_C_calculate_116 : decode b_C_calculate 116 = .ok (.getfield 30, 3) := by decide +kernel
theorem d_C_calculate_119 : decode b_C_calculate 119 = .ok (.invokestatic 52, 3) := by decide +kernel
theorem d_C_calculate_122 : decode b_C_calculate 122 = .ok (.goto 72, 3) := by decide +kernel
theorem d_C_calculate_125 : decode b_C_calculate 125 = .ok (.aload_n 0, 1) := by decide +kernel
theorem d_C_calculate_126 : decode b_C_calculate 126 = .ok (.aload_n 2, 1) := by decide +kernel
theorem d_C_calculate_127 : decode b_C_calculate 127 = .ok (.aload_n 3, 1) := by decide +kernel
theorem d_C_calculate_128 : decode b_C_calculate 128 = .ok (.invokevirtual 101, 3) := by decide +kernel
theorem d_C_calculate_131 : decode b_C_calculate 131 = .ok (.aload_n 0, 1) := by decide +kernel
theorem d_C_calculate_132 : decode b_C_calculate 132 = .ok (.getfield 14, 3) := by decide +kernel
theorem d_C_calculate_135 : decode b_C_calculate 135 = .ok (.aload_n 0, 1) := by decide +kernel
theorem d_C_calculate_136 : decode b_C_calculate 136 = .ok (.getfield 27, 3) := by decide +kernel
theorem d_C_calculate_139 : decode b_C_calculate 139 = .ok (.aload_n 2, 1) := by decide +kernel
theorem d_C_calculate_140 : decode b_C_calculate 140 = .ok (.invokestatic 79, 3) := by decide +kernel
theorem d_C_calculate_143 : decode b_C_calculate 143 = .ok (.aload_n 3, 1) := by decide +kernel
theorem d_C_calculate_144 : decode b_C_calculate 144 = .ok (.invokestatic 79, 3) := by decide +kernel
theorem d_C_calculate_147 : decode b_C_calculate 147 = .ok (.if_icmp .eq 7, 3) := by decide +kernel
theorem d_C_calculate_150 : decode b_C_calculate 150 = .ok (.iconst 1, 1) := by decide +kernel
theorem d_C_calculate_151 : decode b_C_calculate 151 = .ok (.goto 4, 3) := by decide +kernel
theorem d_C_calculate_154 : decode b_C_calculate 154 = .ok (.iconst 0, 1) := by decide +kernel
theorem d_C_calculate_155 : decode b_C_calculate 155 = .ok (.invokestatic 104, 3) := by decide +kernel
theorem d_C_calculate_158 : decode b_C_calculate 158 = .ok (.goto 36, 3) := by decide +kernel
theorem d_C_calculate_161 : decode b_C_calculate 161 = .ok (.aload_n 0, 1) := by decide +kernel
theorem d_C_calculate_162 : decode b_C_calculate 162 = .ok (.aload_n 2, 1) := by decide +kernel
theorem d_C_calculate_163 : decode b_C_calculate 163 = .ok (.aload_n 3, 1) := by decide +kernel
theorem d_C_calculate_164 : decode b_C_calculate 164 = .ok (.invokevirtual 101, 3) := by decide +kernel
theorem d_C_calculate_167 : decode b_C_calculate 167 = .ok (.aload_n 0, 1) := by decide +kernel
theorem d_C_calculate_168 : decode b_C_calculate 168 = .ok (.getfield 14, 3) := by decide +kernel
theorem d_C_calculate_171 : decode b_C_calculate 171 = .ok (.aload_n 0, 1) := by decide +kernel
theorem d_C_calculate_172 : decode b_C_calculate 172 = .ok (.getfield 30, 3) := by decide +kernel
theorem d_C_calculate_175 : decode b_C_calculate 175 = .ok (.aload_n 2, 1) := by decide +kernel
theorem d_C_calculate_176 : decode b_C_calculate 176 = .ok (.invokestatic 79, 3) := by decide +kernel
theorem d_C_calculate_179 : decode b_C_calculate 179 = .ok (.invokestatic 104, 3) := by decide +kernel
theorem d_C_calculate_182 : decode b_C_calculate 182 = .ok (.goto 12, 3) := by decide +kernel
theorem d_C_calculate_185 : decode b_C_calculate 185 = .ok (.aload_n 0, 1) := by decide +kernel
theorem d_C_calculate_186 : decode b_C_calculate 186 = .ok (.aload_n 2, 1) := by decide +kernel
theorem d_C_calculate_187 : decode b_C_calculate 187 = .ok (.aload_n 3, 1) := by decide +kernel
theorem d_C_calculate_188 : decode b_C_calculate 188 = .ok (.invokevirtual 108, 3) := by decide +kernel
theorem d_C_calculate_191 : decode b_C_calculate 191 = .ok (.goto 3, 3) := by decide +kernel
theorem d_C_calculate_194 : decode b_C_calculate 194 = .ok (.return_, 1) := by decide +kernel
theorem d_C_add_0 : decode b_C_add 0 = .ok (.lconst 0, 1) := by decide +kernel
theorem d_C_add_1 : decode b_C_add 1 = .ok (.lstore_n 3, 1) := by decide +kernel
theorem d_C_add_2 : decode b_C_add 2 = .ok (.iconst 0, 1) := by decide +kernel
theorem d_C_add_3 : decode b_C_add 3 = .ok (.istore 5, 2) := by decide +kernel
theorem d_C_add_5 : decode b_C_add 5 = .ok (.iload 5, 2) := by decide +kernel
theorem d_C_add_7 : decode b_C_add 7 = .ok (.bipush 8, 2) := by decide +kernel
theorem d_C_add_9 : decode b_C_add 9 = .ok (.if_icmp .ge 38, 3) := by decide +kernel
theorem d_C_add_12 : decode b_C_add 12 = .ok (.aload_n 1, 1) := by decide +kernel
theorem d_C_add_13 : decode b_C_add 13 = .ok (.iload 5, 2) := by decide +kernel
theorem d_C_add_15 : decode b_C_add 15 = .ok (.laload, 1) := by decide +kernel
theorem d_C_add_16 : decode b_C_add 16 = .ok (.aload_n 2, 1) := by decide +kernel
theorem d_C_add_17 : decode b_C_add 17 = .ok (.iload 5, 2) := by decide +kernel
theorem d_C_add_19 : decode b_C_add 19 = .ok (.laload, 1) := by decide +kernel
theorem d_C_add_20 : decode b_C_add 20 = .ok (.ladd, 1) := by decide +kernel
theorem d_C_add_21 : decode b_C_add 21 = .ok (.lload_n 3, 1) := by decide +kernel
theorem d_C_add_22 : decode b_C_add 22 = .ok (.ladd, 1) := by decide +kernel
theorem d_C_add_23 : decode b_C_add 23 = .ok (.lstore 6, 2) := by decide +kernel
theorem d_C_add_25 : decode b_C_add 25 = .ok (.aload_n 0, 1) := by decide +kernel
theorem d_C_add_26 : decode b_C_add 26 = .ok (.iload 5, 2) := by decide +kernel
theorem d_C_add_28 : decode b_C_add 28 = .ok (.lload 6, 2) := by decide +kernel
theorem d_C_add_30 : decode b_C_add 30 = .ok (.ldc2_w 142, 3) := by decide +kernel
theorem d_C_add_33 : decode b_C_add 33 = .ok (.land, 1) := by decide +kernel
theorem d_C_add_34 : decode b_C_add 34 = .ok (.lastore, 1) := by decide +kernel
theorem d_C_add_35 : decode b_C_add 35 = .ok (.lload 6, 2) := by decide +kernel
theorem d_C_add_37 : decode b_C_add 37 = .ok (.bipush 32, 2) := by decide +kernel
theorem d_C_add_39 : decode b_C_add 39 = .ok (.lushr, 1) := by decide +kernel
theorem d_C_add_40 : decode b_C_add 40 = .ok (.lstore_n 3, 1) := by decide +kernel
theorem d_C_add_41 : decode b_C_add 41 = .ok (.iinc 5 1, 3) := by decide +kernel
theorem d_C_add_44 : decode b_C_add 44 = .ok (.goto (-39), 3) := by decide +kernel
theorem d_C_add_47 : decode b_C_add 47 = .ok (.lload_n 3, 1) := by decide +kernel
theorem d_C_add_48 : decode b_C_add 48 = .ok (.lreturn, 1) := by decide +kernel
theorem d_C_subtract_0 : decode b_C_subtract 0 = .ok (.lconst 0, 1) := by decide +kernel
theorem d_C_subtract_1 : decode b_C_subtract 1 = .ok (.lstore_n 3, 1) := by decide +kernel
theorem d_C_subtract_2 : decode b_C_subtract 2 = .ok (.iconst 0, 1) := by decide +kernel
theorem d_C_subtract_3 : decode b_C_subtract 3 = .ok (.istore 5, 2) := by decide +kernel
theorem d_C_subtract_5 : decode b_C_subtract 5 = .ok (.iload 5, 2) := by decide +kernel
theorem d_C_subtract_7 : decode b_C_subtract 7 = .ok (.bipush 8, 2) := by decide +kernel
theorem d_C_subtract_9 : decode b_C_subtract 9 = .ok (.if_icmp .ge 45, 3) := by decide +kernel
theorem d_C_subtract_12 : decode b_C_subtract 12 = .ok (.aload_n 1, 1) := by decide +kernel
theorem d_C_subtract_13 : decode b_C_subtract 13 = .ok (.iload 5, 2) := by decide +kernel
theorem d_C_subtract_15 : decode b_C_subtract 15 = .ok (.laload, 1) := by decide +kernel
theorem d_C_subtract_16 : decode b_C_subtract 16 = .ok (.aload_n 2, 1) := by decide +kernel
theorem d_C_subtract_17 : decode b_C_subtract 17 = .ok (.iload 5, 2) := by decide +kernel
theorem d_C_subtract_19 : decode b_C_subtract 19 = .ok (.laload, 1) := by decide +kernel
theorem d_C_subtract_20 : decode b_C_subtract 20 = .ok (.lsub, 1) := by decide +kernel
theorem d_C_subtract_21 : decode b_C_subtract 21 = .ok (.lload_n 3, 1) := by decide +kernel
theorem d_C_subtract_22 : decode b_C_subtract 22 = .ok (.lsub, 1) := by decide +kernel
theorem d_C_subtract_23 : decode b_C_subtract 23 = .ok (.lstore 6, 2) := by decide +kernel
theorem d_C_subtract_25 : decode b_C_subtract 25 = .ok (.aload_n 0, 1) := by decide +kernel
theorem d_C_subtract_26 : decode b_C_subtract 26 = .ok (.iload 5, 2) := by decide +kernel
theorem d_C_subtract_28 : decode b_C_subtract 28 = .ok (.lload 6, 2) := by decide +kernel
theorem d_C_subtract_30 : decode b_C_subtract 30 = .ok (.ldc2_w 142, 3) := by decide +kernel
theorem d_C_subtract_33 : decode b_C_subtract 33 = .ok (.land, 1) := by decide +kernel
theorem d_C_subtract_34 : decode b_C_subtract 34 = .ok (.lastore, 1) := by decide +kernel
theorem d_C_subtract_35 : decode b_C_subtract 35 = .ok (.lload 6, 2) := by decide +kernel
theorem d_C_subtract_37 : decode b_C_subtract 37 = .ok (.lconst 0, 1) := by decide +kernel
theorem d_C_subtract_38 : decode b_C_subtract 38 = .ok (.lcmp, 1) := by decide +kernel
theorem d_C_subtract_39 : decode b_C_subtract 39 = .ok (.ifCond .ge 7, 3) := by decide +kernel
theorem d_C_subtract_42 : decode b_C_subtract 42 = .ok (.lconst 1, 1) := by decide +kernel
theorem d_C_subtract_43 : decode b_C_subtract 43 = .ok (.goto 4, 3) := by decide +kernel
theorem d_C_subtract_46 : decode b_C_subtract 46 = .ok (.lconst 0, 1) := by decide +kernel
theorem d_C_subtract_47 : decode b_C_subtract 47 = .ok (.lstore_n 3, 1) := by decide +kernel
theorem d_C_subtract_48 : decode b_C_subtract 48 = .ok (.iinc 5 1, 3) := by decide +kernel
theorem d_C_subtract_51 : decode b_C_subtract 51 = .ok (.goto (-46), 3) := by decide +kernel
theorem d_C_subtract_54 : decode b_C_subtract 54 = .ok (.return_, 1) := by decide +kernel
theorem d_C_multiply_0 : decode b_C_multiply 0 = .ok (.aload_n 0, 1) := by decide +kernel
theorem d_C_multiply_1 : decode b_C_multiply 1 = .ok (.lconst 0, 1) := by decide +kernel
theorem d_C_multiply_2 : decode b_C_multiply 2 = .ok (.invokestatic 60, 3) := by decide +kernel
theorem d_C_multiply_5 : decode b_C_multiply 5 = .ok (.iconst 0, 1) := by decide +kernel
theorem d_C_multiply_6 : decode b_C_multiply 6 = .ok (.istore_n 3, 1) := by decide +kernel
theorem d_C_multiply_7 : decode b_C_multiply 7 = .ok (.iload_n 3, 1) := by decide +kernel
theorem d_C_multiply_8 : decode b_C_multiply 8 = .ok (.bipush 8, 2) := by decide +kernel
theorem d_C_multiply_10 : decode b_C_multiply 10 = .ok (.if_icmp .ge 93, 3) := by decide +kernel
theorem d_C_multiply_13 : decode b_C_multiply 13 = .ok (.lconst 0, 1) := by decide +kernel
theorem d_C_multiply_14 : decode b_C_multiply 14 = .ok (.lstore 4, 2) := by decide +kernel
theorem d_C_multiply_16 : decode b_C_multiply 16 = .ok (.iconst 0, 1) := by decide +kernel
theorem d_C_multiply_17 : decode b_C_multiply 17 = .ok (.istore 6, 2) := by decide +kernel
theorem d_C_multiply_19 : decode b_C_multiply 19 = .ok (.iload 6, 2) := by decide +kernel
theorem d_C_multiply_21 : decode b_C_multiply 21 = .ok (.bipush 8, 2) := by decide +kernel
theorem d_C_multiply_23 : decode b_C_multiply 23 = .ok (.if_icmp .ge 57, 3) := by decide +kernel
theorem d_C_multiply_26 : decode b_C_multiply 26 = .ok (.iload_n 3, 1) := by decide +kernel
theorem d_C_multiply_27 : decode b_C_multiply 27 = .ok (.iload 6, 2) := by decide +kernel
theorem d_C_multiply_29 : decode b_C_multiply 29 = .ok (.iadd, 1) := by decide +kernel
theorem d_C_multiply_30 : decode b_C_multiply 30 = .ok (.aload_n 0, 1) := by decide +kernel
theorem d_C_multiply_31 : decode b_C_multiply 31 = .ok (.arraylength, 1) := by decide +kernel
theorem d_C_multiply_32 : decode b_C_multiply 32 = .ok (.if_icmp .ge 48, 3) := by decide +kernel
theorem d_C_multiply_35 : decode b_C_multiply 35 = .ok (.aload_n 1, 1) := by decide +kernel
theorem d_C_multiply_36 : decode b_C_multiply 36 = .ok (.iload_n 3, 1) := by decide +kernel
theorem d_C_multiply_37 : decode b_C_multiply 37 = .ok (.laload, 1) := by decide +kernel
theorem d_C_multiply_38 : decode b_C_multiply 38 = .ok (.aload_n 2, 1) := by decide +kernel
theorem d_C_multiply_39 : decode b_C_multiply 39 = .ok (.iload 6, 2) := by decide +kernel
theorem d_C_multiply_41 : decode b_C_multiply 41 = .ok (.laload, 1) := by decide +kernel
theorem d_C_multiply_42 : decode b_C_multiply 42 = .ok (.lmul, 1) := by decide +kernel
theorem d_C_multiply_43 : decode b_C_multiply 43 = .ok (.aload_n 0, 1) := by decide +kernel
theorem d_C_multiply_44 : decode b_C_multiply 44 = .ok (.iload_n 3, 1) := by decide +kernel
theorem d_C_multiply_45 : decode b_C_multiply 45 = .ok (.iload 6, 2) := by decide +kernel
theorem d_C_multiply_47 : decode b_C_multiply 47 = .ok (.iadd, 1) := by decide +kernel
theorem d_C_multiply_48 : decode b_C_multiply 48 = .ok (.laload, 1) := by decide +kernel
theorem d_C_multiply_49 : decode b_C_multiply 49 = .ok (.ladd, 1) := by decide +kernel
theorem d_C_multiply_50 : decode b_C_multiply 50 = .ok (.lload 4, 2) := by decide +kernel
theorem d_C_multiply_52 : decode b_C_multiply 52 = .ok (.ladd, 1) := by decide +kernel
theorem d_C_multiply_53 : decode b_C_multiply 53 = .ok (.lstore 7, 2) := by decide +kernel
theorem d_C_multiply_55 : decode b_C_multiply 55 = .ok (.aload_n 0, 1) := by decide +kernel
theorem d_C_multiply_56 : decode b_C_multiply 56 = .ok (.iload_n 3, 1) := by decide +kernel
theorem d_C_multiply_57 : decode b_C_multiply 57 = .ok (.iload 6, 2) := by decide +kernel
theorem d_C_multiply_59 : decode b_C_multiply 59 = .ok (.iadd, 1) := by decide +kernel
theorem d_C_multiply_60 : decode b_C_multiply 60 = .ok (.lload 7, 2) := by decide +kernel
theorem d_C_multiply_62 : decode b_C_multiply 62 = .ok (.ldc2_w 142, 3) := by decide +kernel
theorem d_C_multiply_65 : decode b_C_multiply 65 = .ok (.land, 1) := by decide +kernel
theorem d_C_multiply_66 : decode b_C_multiply 66 = .ok (.lastore, 1) := by decide +kernel
theorem d_C_multiply_67 : decode b_C_multiply 67 = .ok (.lload 7, 2) := by decide +kernel
theorem d_C_multiply_69 : decode b_C_multiply 69 = .ok (.bipush 32, 2) := by decide +kernel
theorem d_C_multiply_71 : decode b_C_multiply 71 = .ok (.lushr, 1) := by decide +kernel
theorem d_C_multiply_72 : decode b_C_multiply 72 = .ok (.lstore 4, 2) := by decide +kernel
theorem d_C_multiply_74 : decode b_C_multiply 74 = .ok (.iinc 6 1, 3) := by decide +kernel
theorem d_C_multiply_77 : decode b_C_multiply 77 = .ok (.goto (-58), 3) := by decide +kernel
theorem d_C_multiply_80 : decode b_C_multiply 80 = .ok (.iload_n 3, 1) := by decide +kernel
theorem d_C_multiply_81 : decode b_C_multiply 81 = .ok (.bipush 8, 2) := by decide +kernel
theorem d_C_multiply_83 : decode b_C_multiply 83 = .ok (.iadd, 1) := by decide +kernel
theorem d_C_multiply_84 : decode b_C_multiply 84 = .ok (.aload_n 0, 1) := by decide +kernel
theorem d_C_multiply_85 : decode b_C_multiply 85 = .ok (.arraylength, 1) := by decide +kernel
theorem d_C_multiply_86 : decode b_C_multiply 86 = .ok (.if_icmp .ge 11, 3) := by decide +kernel
theorem d_C_multiply_89 : decode b_C_multiply 89 = .ok (.aload_n 0, 1) := by decide +kernel
theorem d_C_multiply_90 : decode b_C_multiply 90 = .ok (.iload_n 3, 1) := by decide +kernel
theorem d_C_multiply_91 : decode b_C_multiply 91 = .ok (.bipush 8, 2) := by decide +kernel
theorem d_C_multiply_93 : decode b_C_multiply 93 = .ok (.iadd, 1) := by decide +kernel
theorem d_C_multiply_94 : decode b_C_multiply 94 = .ok (.lload 4, 2) := by decide +kernel
theorem d_C_multiply_96 : decode b_C_multiply 96 = .ok (.lastore, 1) := by decide +kernel
theorem d_C_multiply_97 : decode b_C_multiply 97 = .ok (.iinc 3 1, 3) := by decide +kernel
theorem d_C_multiply_100 : decode b_C_multiply 100 = .ok (.goto (-93), 3) := by decide +kernel
theorem d_C_multiply_103 : decode b_C_multiply 103 = .ok (.return_, 1) := by decide +kernel
theorem d_C_divide_0 : decode b_C_divide 0 = .ok (.aload_n 0, 1) := by decide +kernel
theorem d_C_divide_1 : decode b_C_divide 1 = .ok (.getfield 27, 3) := by decide +kernel
theorem d_C_divide_4 : decode b_C_divide 4 = .ok (.lconst 0, 1) := by decide +kernel
theorem d_C_divide_5 : decode b_C_divide 5 = .ok (.invokestatic 60, 3) := by decide +kernel
theorem d_C_divide_8 : decode b_C_divide 8 = .ok (.aload_n 0, 1) := by decide +kernel
theorem d_C_divide_9 : decode b_C_divide 9 = .ok (.getfield 30, 3) := by decide +kernel
theorem d_C_divide_12 : decode b_C_divide 12 = .ok (.lconst 0, 1) := by decide +kernel
theorem d_C_divide_13 : decode b_C_divide 13 = .ok (.invokestatic 60, 3) := by decide +kernel
theorem d_C_divide_16 : decode b_C_divide 16 = .ok (.aload_n 2, 1) := by decide +kernel
theorem d_C_divide_17 : decode b_C_divide 17 = .ok (.invokestatic 87, 3) := by decide +kernel
theorem d_C_divide_20 : decode b_C_divide 20 = .ok (.ifCond .ne 4, 3) := by decide +kernel
theorem d_C_divide_23 : decode b_C_divide 23 = .ok (.return_, 1) := by decide +kernel
theorem d_C_divide_24 : decode b_C_divide 24 = .ok (.aload_n 1, 1) := by decide +kernel
theorem d_C_divide_25 : decode b_C_divide 25 = .ok (.invokestatic 87, 3) := by decide +kernel
theorem d_C_divide_28 : decode b_C_divide 28 = .ok (.iconst 1, 1) := by decide +kernel
theorem d_C_divide_29 : decode b_C_divide 29 = .ok (.isub, 1) := by decide +kernel
theorem d_C_divide_30 : decode b_C_divide 30 = .ok (.istore_n 3, 1) := by decide +kernel
theorem d_C_divide_31 : decode b_C_divide 31 = .ok (.iload_n 3, 1) := by decide +kernel
theorem d_C_divide_32 : decode b_C_divide 32 = .ok (.ifCond .lt 71, 3) := by decide +kernel
theorem d_C_divide_35 : decode b_C_divide 35 = .ok (.aload_n 0, 1) := by decide +kernel
theorem d_C_divide_36 : decode b_C_divide 36 = .ok (.getfield 30, 3) := by decide +kernel
theorem d_C_divide_39 : decode b_C_divide 39 = .ok (.aload_n 1, 1) := by decide +kernel
theorem d_C_divide_40 : decode b_C_divide 40 = .ok (.iload_n 3, 1) := by decide +kernel
theorem d_C_divide_41 : decode b_C_divide 41 = .ok (.invokestatic 150, 3) := by decide +kernel
theorem d_C_divide_44 : decode b_C_divide 44 = .ok (.invokestatic 154, 3) := by decide +kernel
theorem d_C_divide_47 : decode b_C_divide 47 = .ok (.lstore 4, 2) := by decide +kernel
theorem d_C_divide_49 : decode b_C_divide 49 = .ok (.lload 4, 2) := by decide +kernel
theorem d_C_divide_51 : decode b_C_divide 51 = .ok (.lconst 0, 1) := by decide +kernel
theorem d_C_divide_52 : decode b_C_divide 52 = .ok (.lcmp, 1) := by decide +kernel
theorem d_C_divide_53 : decode b_C_divide 53 = .ok (.ifCond .ne 14, 3) := by decide +kernel
theorem d_C_divide_56 : decode b_C_divide 56 = .ok (.aload_n 0, 1) := by decide +kernel
theorem d_C_divide_57 : decode b_C_divide 57 = .ok (.getfield 30, 3) := by decide +kernel
theorem d_C_divide_60 : decode b_C_divide 60 = .ok (.aload_n 2, 1) := by decide +kernel
theorem d_C_divide_61 : decode b_C_divide 61 = .ok (.invokestatic 83, 3) := by decide +kernel
theorem d_C_divide_64 : decode b_C_divide 64 = .ok (.ifCond .lt 33, 3) := by decide +kernel
theorem d_C_divide_67 : decode b_C_divide 67 = .ok (.aload_n 0, 1) := by decide +kernel
theorem d_C_divide_68 : decode b_C_divide 68 = .ok (.getfield 30, 3) := by decide +kernel
theorem d_C_divide_71 : decode b_C_divide 71 = .ok (.aload_n 0, 1) := by decide +kernel
theorem d_C_divide_72 : decode b_C_divide 72 = .ok (.getfield 30, 3) := by decide +kernel
theorem d_C_divide_75 : decode b_C_divide 75 = .ok (.aload_n 2, 1) := by decide +kernel
theorem d_C_divide_76 : decode b_C_divide 76 = .ok (.invokestatic 98, 3) := by decide +kernel
theorem d_C_divide_79 : decode b_C_divide 79 = .ok (.aload_n 0, 1) := by decide +kernel
theorem d_C_divide_80 : decode b_C_divide 80 = .ok (.getfield 27, 3) := by decide +kernel
theorem d_C_divide_83 : decode b_C_divide 83 = .ok (.iload_n 3, 1) := by decide +kernel
theorem d_C_divide_84 : decode b_C_divide 84 = .ok (.bipush 32, 2) := by decide +kernel
theorem d_C_divide_86 : decode b_C_divide 86 = .ok (.idiv, 1) := by decide +kernel
theorem d_C_divide_87 : decode b_C_divide 87 = .ok (.dup2, 1) := by decide +kernel
theorem d_C_divide_88 : decode b_C_divide 88 = .ok (.laload, 1) := by decide +kernel
theorem d_C_divide_89 : decode b_C_divide 89 = .ok (.lconst 1, 1) := by decide +kernel
theorem d_C_divide_90 : decode b_C_divide 90 = .ok (.iload_n 3, 1) := by decide +kernel
theorem d_C_divide_91 : decode b_C_divide 91 = .ok (.bipush 32, 2) := by decide +kernel
theorem d_C_divide_93 : decode b_C_divide 93 = .ok (.irem, 1) := by decide +kernel
theorem d_C_divide_94 : decode b_C_divide 94 = .ok (.lshl, 1) := by decide +kernel
theorem d_C_divide_95 : decode b_C_divide 95 = .ok (.lor, 1) := by decide +kernel
theorem d_C_divide_96 : decode b_C_divide 96 = .ok (.lastore, 1) := by decide +kernel
theorem d_C_divide_97 : decode b_C_divide 97 = .ok (.iinc 3 (-1), 3) := by decide +kernel
theorem d_C_divide_100 : decode b_C_divide 100 = .ok (.goto (-69), 3) := by decide +kernel
theorem d_C_divide_103 : decode b_C_divide 103 = .ok (.return_, 1) := by decide +kernel
theorem d_C_usedBits_0 : decode b_C_usedBits 0 = .ok (.aload_n 0, 1) := by decide +kernel
theorem d_C_usedBits_1 : decode b_C_usedBits 1 = .ok (.arraylength, 1) := by decide +kernel
theorem d_C_usedBits_2 : decode b_C_usedBits 2 = .ok (.iconst 1, 1) := by decide +kernel
theorem d_C_usedBits_3 : decode b_C_usedBits 3 = .ok (.isub, 1) := by decide +kernel
theorem d_C_usedBits_4 : decode b_C_usedBits 4 = .ok (.istore_n 1, 1) := by decide +kernel
theorem d_C_usedBits_5 : decode b_C_usedBits 5 = .ok (.iload_n 1, 1) := by decide +kernel
theorem d_C_usedBits_6 : decode b_C_usedBits 6 = .ok (.ifCond .lt 32, 3) := by decide +kernel
theorem d_C_usedBits_9 : decode b_C_usedBits 9 = .ok (.aload_n 0, 1) := by decide +kernel
theorem d_C_usedBits_10 : decode b_C_usedBits 10 = .ok (.iload_n 1, 1) := by decide +kernel
theorem d_C_usedBits_11 : decode b_C_usedBits 11 = .ok (.laload, 1) := by decide +kernel
theorem d_C_usedBits_12 : decode b_C_usedBits 12 = .ok (.lconst 0, 1) := by decide +kernel
theorem d_C_usedBits_13 : decode b_C_usedBits 13 = .ok (.lcmp, 1) := by decide +kernel
theorem d_C_usedBits_14 : decode b_C_usedBits 14 = .ok (.ifCond .eq 18, 3) := by decide +kernel
theorem d_C_usedBits_17 : decode b_C_usedBits 17 = .ok (.bipush 32, 2) := by decide +kernel
theorem d_C_usedBits_19 : decode b_C_usedBits 19 = .ok (.iload_n 1, 1) := by decide +kernel
theorem d_C_usedBits_20 : decode b_C_usedBits 20 = .ok (.iconst 1, 1) := by decide +kernel
theorem d_C_usedBits_21 : decode b_C_usedBits 21 = .ok (.iadd, 1) := by decide +kernel
theorem d_C_usedBits_22 : decode b_C_usedBits 22 = .ok (.imul, 1) := by decide +kernel
theorem d_C_usedBits_23 : decode b_C_usedBits 23 = .ok (.aload_n 0, 1) := by decide +kernel
theorem d_C_usedBits_24 : decode b_C_usedBits 24 = .ok (.iload_n 1, 1) := by decide +kernel
theorem d_C_usedBits_25 : decode b_C_usedBits 25 = .ok (.laload, 1) := by decide +kernel
theorem d_C_usedBits_26 : decode b_C_usedBits 26 = .ok (.l2i, 1) := by decide +kernel
theorem d_C_usedBits_27 : decode b_C_usedBits 27 = .ok (.invokestatic 164, 3) := by decide +kernel
theorem d_C_usedBits_30 : decode b_C_usedBits 30 = .ok (.isub, 1) := by decide +kernel
theorem d_C_usedBits_31 : decode b_C_usedBits 31 = .ok (.ireturn, 1) := by decide +kernel
theorem d_C_usedBits_32 : decode b_C_usedBits 32 = .ok (.iinc 1 (-1), 3) := by decide +kernel
theorem d_C_usedBits_35 : decode b_C_usedBits 35 = .ok (.goto (-30), 3) := by decide +kernel
theorem d_C_usedBits_38 : decode b_C_usedBits 38 = .ok (.iconst 0, 1) := by decide +kernel
theorem d_C_usedBits_39 : decode b_C_usedBits 39 = .ok (.ireturn, 1) := by decide +kernel
theorem d_C_bitAt_0 : decode b_C_bitAt 0 = .ok (.aload_n 0, 1) := by decide +kernel
theorem d_C_bitAt_1 : decode b_C_bitAt 1 = .ok (.iload_n 1, 1) := by decide +kernel
theorem d_C_bitAt_2 : decode b_C_bitAt 2 = .ok (.bipush 32, 2) := by decide +kernel
theorem d_C_bitAt_4 : decode b_C_bitAt 4 = .ok (.idiv, 1) := by decide +kernel
theorem d_C_bitAt_5 : decode b_C_bitAt 5 = .ok (.laload, 1) := by decide +kernel
theorem d_C_bitAt_6 : decode b_C_bitAt 6 = .ok (.iload_n 1, 1) := by decide +kernel
theorem d_C_bitAt_7 : decode b_C_bitAt 7 = .ok (.bipush 32, 2) := by decide +kernel
theorem d_C_bitAt_9 : decode b_C_bitAt 9 = .ok (.irem, 1) := by decide +kernel
theorem d_C_bitAt_10 : decode b_C_bitAt 10 = .ok (.lushr, 1) := by decide +kernel
theorem d_C_bitAt_11 : decode b_C_bitAt 11 = .ok (.lconst 1, 1) := by decide +kernel
theorem d_C_bitAt_12 : decode b_C_bitAt 12 = .ok (.land, 1) := by decide +kernel
theorem d_C_bitAt_13 : decode b_C_bitAt 13 = .ok (.lreturn, 1) := by decide +kernel
theorem d_C_doubleAndAdd_0 : decode b_C_doubleAndAdd 0 = .ok (.lload_n 1, 1) := by decide +kernel
theorem d_C_doubleAndAdd_1 : decode b_C_doubleAndAdd 1 = .ok (.lstore_n 3, 1) := by decide +kernel
theorem d_C_doubleAndAdd_2 : decode b_C_doubleAndAdd 2 = .ok (.iconst 0, 1) := by decide +kernel
theorem d_C_doubleAndAdd_3 : decode b_C_doubleAndAdd 3 = .ok (.istore 5, 2) := by decide +kernel
theorem d_C_doubleAndAdd_5 : decode b_C_doubleAndAdd 5 = .ok (.iload 5, 2) := by decide +kernel
theorem d_C_doubleAndAdd_7 : decode b_C_doubleAndAdd 7 = .ok (.bipush 8, 2) := by decide +kernel
theorem d_C_doubleAndAdd_9 : decode b_C_doubleAndAdd 9 = .ok (.if_icmp .ge 35, 3) := by decide +kernel
theorem d_C_doubleAndAdd_12 : decode b_C_doubleAndAdd 12 = .ok (.aload_n 0, 1) := by decide +kernel
theorem d_C_doubleAndAdd_13 : decode b_C_doubleAndAdd 13 = .ok (.iload 5, 2) := by decide +kernel
theorem d_C_doubleAndAdd_15 : decode b_C_doubleAndAdd 15 = .ok (.laload, 1) := by decide +kernel
theorem d_C_doubleAndAdd_16 : decode b_C_doubleAndAdd 16 = .ok (.iconst 1, 1) := by decide +kernel
theorem d_C_doubleAndAdd_17 : decode b_C_doubleAndAdd 17 = .ok (.lshl, 1) := by decide +kernel
theorem d_C_doubleAndAdd_18 : decode b_C_doubleAndAdd 18 = .ok (.lload_n 3, 1) := by decide +kernel
theorem d_C_doubleAndAdd_19 : decode b_C_doubleAndAdd 19 = .ok (.lor, 1) := by decide +kernel
theorem d_C_doubleAndAdd_20 : decode b_C_doubleAndAdd 20 = .ok (.lstore 6, 2) := by decide +kernel
theorem d_C_doubleAndAdd_22 : decode b_C_doubleAndAdd 22 = .ok (.aload_n 0, 1) := by decide +kernel
theorem d_C_doubleAndAdd_23 : decode b_C_doubleAndAdd 23 = .ok (.iload 5, 2) := by decide +kernel
theorem d_C_doubleAndAdd_25 : decode b_C_doubleAndAdd 25 = .ok (.lload 6, 2) := by decide +kernel
theorem d_C_doubleAndAdd_27 : decode b_C_doubleAndAdd 27 = .ok (.ldc2_w 142, 3) := by decide +kernel
theorem d_C_doubleAndAdd_30 : decode b_C_doubleAndAdd 30 = .ok (.land, 1) := by decide +kernel
theorem d_C_doubleAndAdd_31 : decode b_C_doubleAndAdd 31 = .ok (.lastore, 1) := by decide +kernel
theorem d_C_doubleAndAdd_32 : decode b_C_doubleAndAdd 32 = .ok (.lload 6, 2) := by decide +kernel
theorem d_C_doubleAndAdd_34 : decode b_C_doubleAndAdd 34 = .ok (.bipush 32, 2) := by decide +kernel
theorem d_C_doubleAndAdd_36 : decode b_C_doubleAndAdd 36 = .ok (.lushr, 1) := by decide +kernel
theorem d_C_doubleAndAdd_37 : decode b_C_doubleAndAdd 37 = .ok (.lstore_n 3, 1) := by decide +kernel
theorem d_C_doubleAndAdd_38 : decode b_C_doubleAndAdd 38 = .ok (.iinc 5 1, 3) := by decide +kernel
theorem d_C_doubleAndAdd_41 : decode b_C_doubleAndAdd 41 = .ok (.goto (-36), 3) := by decide +kernel
theorem d_C_doubleAndAdd_44 : decode b_C_doubleAndAdd 44 = .ok (.lload_n 3, 1) := by decide +kernel
theorem d_C_doubleAndAdd_45 : decode b_C_doubleAndAdd 45 = .ok (.lreturn, 1) := by decide +kernel
theorem d_C_order_0 : decode b_C_order 0 = .ok (.bipush 7, 2) := by decide +kernel
theorem d_C_order_2 : decode b_C_order 2 = .ok (.istore_n 2, 1) := by decide +kernel
theorem d_C_order_3 : decode b_C_order 3 = .ok (.iload_n 2, 1) := by decide +kernel
theorem d_C_order_4 : decode b_C_order 4 = .ok (.ifCond .lt 35, 3) := by decide +kernel
theorem d_C_order_7 : decode b_C_order 7 = .ok (.aload_n 0, 1) := by decide +kernel
theorem d_C_order_8 : decode b_C_order 8 = .ok (.iload_n 2, 1) := by decide +kernel
theorem d_C_order_9 : decode b_C_order 9 = .ok (.laload, 1) := by decide +kernel
theorem d_C_order_10 : decode b_C_order 10 = .ok (.aload_n 1, 1) := by decide +kernel
theorem d_C_order_11 : decode b_C_order 11 = .ok (.iload_n 2, 1) := by decide +kernel
theorem d_C_order_12 : decode b_C_order 12 = .ok (.laload, 1) := by decide +kernel
theorem d_C_order_13 : decode b_C_order 13 = .ok (.lcmp, 1) := by decide +kernel
theorem d_C_order_14 : decode b_C_order 14 = .ok (.ifCond .eq 19, 3) := by decide +kernel
theorem d_C_order_17 : decode b_C_order 17 = .ok (.aload_n 0, 1) := by decide +kernel
theorem d_C_order_18 : decode b_C_order 18 = .ok (.iload_n 2, 1) := by decide +kernel
theorem d_C_order_19 : decode b_C_order 19 = .ok (.laload, 1) := by decide +kernel
theorem d_C_order_20 : decode b_C_order 20 = .ok (.aload_n 1, 1) := by decide +kernel
theorem d_C_order_21 : decode b_C_order 21 = .ok (.iload_n 2, 1) := by decide +kernel
theorem d_C_order_22 : decode b_C_order 22 = .ok (.laload, 1) := by decide +kernel
theorem d_C_order_23 : decode b_C_order 23 = .ok (.lcmp, 1) := by decide +kernel
theorem d_C_order_24 : decode b_C_order 24 = .ok (.ifCond .ge 7, 3) := by decide +kernel
theorem d_C_order_27 : decode b_C_order 27 = .ok (.iconst (-1), 1) := by decide +kernel
theorem d_C_order_28 : decode b_C_order 28 = .ok (.goto 4, 3) := by decide +kernel
theorem d_C_order_31 : decode b_C_order 31 = .ok (.iconst 1, 1) := by decide +kernel
theorem d_C_order_32 : decode b_C_order 32 = .ok (.ireturn, 1) := by decide +kernel
theorem d_C_order_33 : decode b_C_order 33 = .ok (.iinc 2 (-1), 3) := by decide +kernel
theorem d_C_order_36 : decode b_C_order 36 = .ok (.goto (-33), 3) := by decide +kernel
theorem d_C_order_39 : decode b_C_order 39 = .ok (.iconst 0, 1) := by decide +kernel
theorem d_C_order_40 : decode b_C_order 40 = .ok (.ireturn, 1) := by decide +kernel
theorem d_C_copyNumber_0 : decode b_C_copyNumber 0 = .ok (.aload_n 1, 1) := by decide +kernel
theorem d_C_copyNumber_1 : decode b_C_copyNumber 1 = .ok (.iconst 0, 1) := by decide +kernel
theorem d_C_copyNumber_2 : decode b_C_copyNumber 2 = .ok (.aload_n 0, 1) := by decide +kernel
theorem d_C_copyNumber_3 : decode b_C_copyNumber 3 = .ok (.iconst 0, 1) := by decide +kernel
theorem d_C_copyNumber_4 : decode b_C_copyNumber 4 = .ok (.bipush 8, 2) := by decide +kernel
theorem d_C_copyNumber_6 : decode b_C_copyNumber 6 = .ok (.invokestatic 144, 3) := by decide +kernel
theorem d_C_copyNumber_9 : decode b_C_copyNumber 9 = .ok (.return_, 1) := by decide +kernel
theorem d_C_divideSizes_0 : decode b_C_divideSizes 0 = .ok (.aload_n 0, 1) := by decide +kernel
theorem d_C_divideSizes_1 : decode b_C_divideSizes 1 = .ok (.getfield 18, 3) := by decide +kernel
theorem d_C_divideSizes_4 : decode b_C_divideSizes 4 = .ok (.aload_n 1, 1) := by decide +kernel
theorem d_C_divideSizes_5 : decode b_C_divideSizes 5 = .ok (.aload_n 1, 1) := by decide +kernel
theorem d_C_divideSizes_6 : decode b_C_divideSizes 6 = .ok (.invokestatic 79, 3) := by decide +kernel
theorem d_C_divideSizes_9 : decode b_C_divideSizes 9 = .ok (.invokestatic 104, 3) := by decide +kernel
theorem d_C_divideSizes_12 : decode b_C_divideSizes 12 = .ok (.aload_n 0, 1) := by decide +kernel
theorem d_C_divideSizes_13 : decode b_C_divideSizes 13 = .ok (.getfield 21, 3) := by decide +kernel
theorem d_C_divideSizes_16 : decode b_C_divideSizes 16 = .ok (.aload_n 2, 1) := by decide +kernel
theorem d_C_divideSizes_17 : decode b_C_divideSizes 17 = .ok (.aload_n 2, 1) := by decide +kernel
theorem d_C_divideSizes_18 : decode b_C_divideSizes 18 = .ok (.invokestatic 79, 3) := by decide +kernel
theorem d_C_divideSizes_21 : decode b_C_divideSizes 21 = .ok (.invokestatic 104, 3) := by decide +kernel
theorem d_C_divideSizes_24 : decode b_C_divideSizes 24 = .ok (.aload_n 0, 1) := by decide +kernel
theorem d_C_divideSizes_25 : decode b_C_divideSizes 25 = .ok (.aload_n 0, 1) := by decide +kernel
theorem d_C_divideSizes_26 : decode b_C_divideSizes 26 = .ok (.getfield 18, 3) := by decide +kernel
theorem d_C_divideSizes_29 : decode b_C_divideSizes 29 = .ok (.aload_n 0, 1) := by decide +kernel
theorem d_C_divideSizes_30 : decode b_C_divideSizes 30 = .ok (.getfield 21, 3) := by decide +kernel
theorem d_C_divideSizes_33 : decode b_C_divideSizes 33 = .ok (.invokevirtual 70, 3) := by decide +kernel
theorem d_C_divideSizes_36 : decode b_C_divideSizes 36 = .ok (.return_, 1) := by decide +kernel
theorem d_C_isNegative_0 : decode b_C_isNegative 0 = .ok (.aload_n 0, 1) := by decide +kernel
theorem d_C_isNegative_1 : decode b_C_isNegative 1 = .ok (.sipush 255, 3) := by decide +kernel
theorem d_C_isNegative_4 : decode b_C_isNegative 4 = .ok (.invokestatic 150, 3) := by decide +kernel
theorem d_C_isNegative_7 : decode b_C_isNegative 7 = .ok (.lconst 0, 1) := by decide +kernel
theorem d_C_isNegative_8 : decode b_C_isNegative 8 = .ok (.lcmp, 1) := by decide +kernel
theorem d_C_isNegative_9 : decode b_C_isNegative 9 = .ok (.ifCond .eq 7, 3) := by decide +kernel
theorem d_C_isNegative_12 : decode b_C_isNegative 12 = .ok (.iconst 1, 1) := by decide +kernel
theorem d_C_isNegative_13 : decode b_C_isNegative 13 = .ok (.goto 4, 3) := by decide +kernel
theorem d_C_isNegative_16 : decode b_C_isNegative 16 = .ok (.iconst 0, 1) := by decide +kernel
theorem d_C_isNegative_17 : decode b_C_isNegative 17 = .ok (.ireturn, 1) := by decide +kernel
theorem d_C_copyWithSign_0 : decode b_C_copyWithSign 0 = .ok (.iload_n 2, 1) := by decide +kernel
theorem d_C_copyWithSign_1 : decode b_C_copyWithSign 1 = .ok (.ifCond .eq 11, 3) := by decide +kernel
theorem d_C_copyWithSign_4 : decode b_C_copyWithSign 4 = .ok (.aload_n 0, 1) := by decide +kernel
theorem d_C_copyWithSign_5 : decode b_C_copyWithSign 5 = .ok (.aload_n 1, 1) := by decide +kernel
theorem d_C_copyWithSign_6 : decode b_C_copyWithSign 6 = .ok (.invokestatic 76, 3) := by decide +kernel
theorem d_C_copyWithSign_9 : decode b_C_copyWithSign 9 = .ok (.goto 8, 3) := by decide +kernel
theorem d_C_copyWithSign_12 : decode b_C_copyWithSign 12 = .ok (.aload_n 0, 1) := by decide +kernel
theorem d_C_copyWithSign_13 : decode b_C_copyWithSign 13 = .ok (.aload_n 1, 1) := by decide +kernel
theorem d_C_copyWithSign_14 : decode b_C_copyWithSign 14 = .ok (.invokestatic 52, 3) := by decide +kernel
theorem d_C_copyWithSign_17 : decode b_C_copyWithSign 17 = .ok (.return_, 1) := by decide +kernel
theorem d_C_negate_0 : decode b_C_negate 0 = .ok (.lconst 1, 1) := by decide +kernel
theorem d_C_negate_1 : decode b_C_negate 1 = .ok (.lstore_n 2, 1) := by decide +kernel
theorem d_C_negate_2 : decode b_C_negate 2 = .ok (.iconst 0, 1) := by decide +kernel
theorem d_C_negate_3 : decode b_C_negate 3 = .ok (.istore 4, 2) := by decide +kernel
theorem d_C_negate_5 : decode b_C_negate 5 = .ok (.iload 4, 2) := by decide +kernel
theorem d_C_negate_7 : decode b_C_negate 7 = .ok (.bipush 8, 2) := by decide +kernel
theorem d_C_negate_9 : decode b_C_negate 9 = .ok (.if_icmp .ge 37, 3) := by decide +kernel
theorem d_C_negate_12 : decode b_C_negate 12 = .ok (.aload_n 1, 1) := by decide +kernel
theorem d_C_negate_13 : decode b_C_negate 13 = .ok (.iload 4, 2) := by decide +kernel
theorem d_C_negate_15 : decode b_C_negate 15 = .ok (.laload, 1) := by decide +kernel
theorem d_C_negate_16 : decode b_C_negate 16 = .ok (.ldc2_w 142, 3) := by decide +kernel
theorem d_C_negate_19 : decode b_C_negate 19 = .ok (.lxor, 1) := by decide +kernel
theorem d_C_negate_20 : decode b_C_negate 20 = .ok (.lload_n 2, 1) := by decide +kernel
theorem d_C_negate_21 : decode b_C_negate 21 = .ok (.ladd, 1) := by decide +kernel
theorem d_C_negate_22 : decode b_C_negate 22 = .ok (.lstore 5, 2) := by decide +kernel
theorem d_C_negate_24 : decode b_C_negate 24 = .ok (.aload_n 0, 1) := by decide +kernel
theorem d_C_negate_25 : decode b_C_negate 25 = .ok (.iload 4, 2) := by decide +kernel
theorem d_C_negate_27 : decode b_C_negate 27 = .ok (.lload 5, 2) := by decide +kernel
theorem d_C_negate_29 : decode b_C_negate 29 = .ok (.ldc2_w 142, 3) := by decide +kernel
theorem d_C_negate_32 : decode b_C_negate 32 = .ok (.land, 1) := by decide +kernel
theorem d_C_negate_33 : decode b_C_negate 33 = .ok (.lastore, 1) := by decide +kernel
theorem d_C_negate_34 : decode b_C_negate 34 = .ok (.lload 5, 2) := by decide +kernel
theorem d_C_negate_36 : decode b_C_negate 36 = .ok (.bipush 32, 2) := by decide +kernel
theorem d_C_negate_38 : decode b_C_negate 38 = .ok (.lushr, 1) := by decide +kernel
theorem d_C_negate_39 : decode b_C_negate 39 = .ok (.lstore_n 2, 1) := by decide +kernel
theorem d_C_negate_40 : decode b_C_negate 40 = .ok (.iinc 4 1, 3) := by decide +kernel
theorem d_C_negate_43 : decode b_C_negate 43 = .ok (.goto (-38), 3) := by decide +kernel
theorem d_C_negate_46 : decode b_C_negate 46 = .ok (.return_, 1) := by decide +kernel
theorem d_C_raise_0 : decode b_C_raise 0 = .ok (.aload_n 0, 1) := by decide +kernel
theorem d_C_raise_1 : decode b_C_raise 1 = .ok (.getfield 14, 3) := by decide +kernel
theorem d_C_raise_4 : decode b_C_raise 4 = .ok (.lconst 0, 1) := by decide +kernel
theorem d_C_raise_5 : decode b_C_raise 5 = .ok (.invokestatic 60, 3) := by decide +kernel
theorem d_C_raise_8 : decode b_C_raise 8 = .ok (.aload_n 0, 1) := by decide +kernel
theorem d_C_raise_9 : decode b_C_raise 9 = .ok (.getfield 14, 3) := by decide +kernel
theorem d_C_raise_12 : decode b_C_raise 12 = .ok (.iconst 0, 1) := by decide +kernel
theorem d_C_raise_13 : decode b_C_raise 13 = .ok (.lconst 1, 1) := by decide +kernel
theorem d_C_raise_14 : decode b_C_raise 14 = .ok (.lastore, 1) := by decide +kernel
theorem d_C_raise_15 : decode b_C_raise 15 = .ok (.aload_n 2, 1) := by decide +kernel
theorem d_C_raise_16 : decode b_C_raise 16 = .ok (.invokestatic 87, 3) := by decide +kernel
theorem d_C_raise_19 : decode b_C_raise 19 = .ok (.iconst 1, 1) := by decide +kernel
theorem d_C_raise_20 : decode b_C_raise 20 = .ok (.isub, 1) := by decide +kernel
theorem d_C_raise_21 : decode b_C_raise 21 = .ok (.istore_n 3, 1) := by decide +kernel
theorem d_C_raise_22 : decode b_C_raise 22 = .ok (.iload_n 3, 1) := by decide +kernel
theorem d_C_raise_23 : decode b_C_raise 23 = .ok (.ifCond .lt 60, 3) := by decide +kernel
theorem d_C_raise_26 : decode b_C_raise 26 = .ok (.aload_n 0, 1) := by decide +kernel
theorem d_C_raise_27 : decode b_C_raise 27 = .ok (.getfield 18, 3) := by decide +kernel
theorem d_C_raise_30 : decode b_C_raise 30 = .ok (.aload_n 0, 1) := by decide +kernel
theorem d_C_raise_31 : decode b_C_raise 31 = .ok (.getfield 14, 3) := by decide +kernel
theorem d_C_raise_34 : decode b_C_raise 34 = .ok (.aload_n 0, 1) := by decide +kernel
theorem d_C_raise_35 : decode b_C_raise 35 = .ok (.getfield 14, 3) := by decide +kernel
theorem d_C_raise_38 : decode b_C_raise 38 = .ok (.invokestatic 56, 3) := by decide +kernel
theorem d_C_raise_41 : decode b_C_raise 41 = .ok (.aload_n 2, 1) := by decide +kernel
theorem d_C_raise_42 : decode b_C_raise 42 = .ok (.iload_n 3, 1) := by decide +kernel
theorem d_C_raise_43 : decode b_C_raise 43 = .ok (.invokestatic 150, 3) := by decide +kernel
theorem d_C_raise_46 : decode b_C_raise 46 = .ok (.lconst 0, 1) := by decide +kernel
theorem d_C_raise_47 : decode b_C_raise 47 = .ok (.lcmp, 1) := by decide +kernel
theorem d_C_raise_48 : decode b_C_raise 48 = .ok (.ifCond .ne 17, 3) := by decide +kernel
theorem d_C_raise_51 : decode b_C_raise 51 = .ok (.aload_n 0, 1) := by decide +kernel
theorem d_C_raise_52 : decode b_C_raise 52 = .ok (.getfield 14, 3) := by decide +kernel
theorem d_C_raise_55 : decode b_C_raise 55 = .ok (.aload_n 0, 1) := by decide +kernel
theorem d_C_raise_56 : decode b_C_raise 56 = .ok (.getfield 18, 3) := by decide +kernel
theorem d_C_raise_59 : decode b_C_raise 59 = .ok (.invokestatic 52, 3) := by decide +kernel
theorem d_C_raise_62 : decode b_C_raise 62 = .ok (.goto 15, 3) := by decide +kernel
theorem d_C_raise_65 : decode b_C_raise 65 = .ok (.aload_n 0, 1) := by decide +kernel
theorem d_C_raise_66 : decode b_C_raise 66 = .ok (.getfield 14, 3) := by decide +kernel
theorem d_C_raise_69 : decode b_C_raise 69 = .ok (.aload_n 0, 1) := by decide +kernel
theorem d_C_raise_70 : decode b_C_raise 70 = .ok (.getfield 18, 3) := by decide +kernel
theorem d_C_raise_73 : decode b_C_raise 73 = .ok (.aload_n 1, 1) := by decide +kernel
theorem d_C_raise_74 : decode b_C_raise 74 = .ok (.invokestatic 56, 3) := by decide +kernel
theorem d_C_raise_77 : decode b_C_raise 77 = .ok (.iinc 3 (-1), 3) := by decide +kernel
theorem d_C_raise_80 : decode b_C_raise 80 = .ok (.goto (-58), 3) := by decide +kernel
theorem d_C_raise_83 : decode b_C_raise 83 = .ok (.return_, 1) := by decide +kernel
theorem d_C_arrangeBits_0 : decode b_C_arrangeBits 0 = .ok (.iload_n 1, 1) := by decide +kernel
theorem d_C_arrangeBits_1 : decode b_C_arrangeBits 1 = .ok (.tableswitch 160 8 15 #[47, 56, 74, 93, 115, 124, 136, 148], 47) := by decide +kernel
theorem d_C_arrangeBits_48 : decode b_C_arrangeBits 48 = .ok (.aload_n 0, 1) := by decide +kernel
theorem d_C_arrangeBits_49 : decode b_C_arrangeBits 49 = .ok (.aload_n 2, 1) := by decide +kernel
theorem d_C_arrangeBits_50 : decode b_C_arrangeBits 50 = .ok (.aload_n 3, 1) := by decide +kernel
theorem d_C_arrangeBits_51 : decode b_C_arrangeBits 51 = .ok (.invokevirtual 111, 3) := by decide +kernel
theorem d_C_arrangeBits_54 : decode b_C_arrangeBits 54 = .ok (.goto 107, 3) := by decide +kernel
theorem d_C_arrangeBits_57 : decode b_C_arrangeBits 57 = .ok (.aload_n 0, 1) := by decide +kernel
theorem d_C_arrangeBits_58 : decode b_C_arrangeBits 58 = .ok (.getfield 14, 3) := by decide +kernel
theorem d_C_arrangeBits_61 : decode b_C_arrangeBits 61 = .ok (.aload_n 3, 1) := by decide +kernel
theorem d_C_arrangeBits_62 : decode b_C_arrangeBits 62 = .ok (.aload_n 2, 1) := by decide +kernel
theorem d_C_arrangeBits_63 : decode b_C_arrangeBits 63 = .ok (.sipush 256, 3) := by decide +kernel
theorem d_C_arrangeBits_66 : decode b_C_arrangeBits 66 = .ok (.invokestatic 114, 3) := by decide +kernel
theorem d_C_arrangeBits_69 : decode b_C_arrangeBits 69 = .ok (.invokestatic 118, 3) := by decide +kernel
theorem d_C_arrangeBits_72 : decode b_C_arrangeBits 72 = .ok (.goto 89, 3) := by decide +kernel
theorem d_C_arrangeBits_75 : decode b_C_arrangeBits 75 = .ok (.aload_n 0, 1) := by decide +kernel
theorem d_C_arrangeBits_76 : decode b_C_arrangeBits 76 = .ok (.getfield 14, 3) := by decide +kernel
theorem d_C_arrangeBits_79 : decode b_C_arrangeBits 79 = .ok (.aload_n 3, 1) := by decide +kernel
theorem d_C_arrangeBits_80 : decode b_C_arrangeBits 80 = .ok (.aload_n 2, 1) := by decide +kernel
theorem d_C_arrangeBits_81 : decode b_C_arrangeBits 81 = .ok (.sipush 256, 3) := by decide +kernel
theorem d_C_arrangeBits_84 : decode b_C_arrangeBits 84 = .ok (.invokestatic 114, 3) := by decide +kernel
theorem d_C_arrangeBits_87 : decode b_C_arrangeBits 87 = .ok (.lconst 0, 1) := by decide +kernel
theorem d_C_arrangeBits_88 : decode b_C_arrangeBits 88 = .ok (.invokestatic 122, 3) := by decide +kernel
theorem d_C_arrangeBits_91 : decode b_C_arrangeBits 91 = .ok (.goto 70, 3) := by decide +kernel
theorem d_C_arrangeBits_94 : decode b_C_arrangeBits 94 = .ok (.aload_n 0, 1) := by decide +kernel
theorem d_C_arrangeBits_95 : decode b_C_arrangeBits 95 = .ok (.getfield 14, 3) := by decide +kernel
theorem d_C_arrangeBits_98 : decode b_C_arrangeBits 98 = .ok (.aload_n 3, 1) := by decide +kernel
theorem d_C_arrangeBits_99 : decode b_C_arrangeBits 99 = .ok (.aload_n 2, 1) := by decide +kernel
theorem d_C_arrangeBits_100 : decode b_C_arrangeBits 100 = .ok (.sipush 256, 3) := by decide +kernel
theorem d_C_arrangeBits_103 : decode b_C_arrangeBits 103 = .ok (.invokestatic 114, 3) := by decide +kernel
theorem d_C_arrangeBits_106 : decode b_C_arrangeBits 106 = .ok (.aload_n 3, 1) := by decide +kernel
theorem d_C_arrangeBits_107 : decode b_C_arrangeBits 107 = .ok (.invokestatic 126, 3) := by decide +kernel
theorem d_C_arrangeBits_110 : decode b_C_arrangeBits 110 = .ok (.invokestatic 122, 3) := by decide +kernel
theorem d_C_arrangeBits_113 : decode b_C_arrangeBits 113 = .ok (.goto 48, 3) := by decide +kernel
theorem d_C_arrangeBits_116 : decode b_C_arrangeBits 116 = .ok (.aload_n 0, 1) := by decide +kernel
theorem d_C_arrangeBits_117 : decode b_C_arrangeBits 117 = .ok (.aload_n 2, 1) := by decide +kernel
theorem d_C_arrangeBits_118 : decode b_C_arrangeBits 118 = .ok (.aload_n 3, 1) := by decide +kernel
theorem d_C_arrangeBits_119 : decode b_C_arrangeBits 119 = .ok (.invokevirtual 130, 3) := by decide +kernel
theorem d_C_arrangeBits_122 : decode b_C_arrangeBits 122 = .ok (.goto 39, 3) := by decide +kernel
theorem d_C_arrangeBits_125 : decode b_C_arrangeBits 125 = .ok (.aload_n 0, 1) := by decide +kernel
theorem d_C_arrangeBits_126 : decode b_C_arrangeBits 126 = .ok (.getfield 14, 3) := by decide +kernel
theorem d_C_arrangeBits_129 : decode b_C_arrangeBits 129 = .ok (.aload_n 2, 1) := by decide +kernel
theorem d_C_arrangeBits_130 : decode b_C_arrangeBits 130 = .ok (.aload_n 3, 1) := by decide +kernel
theorem d_C_arrangeBits_131 : decode b_C_arrangeBits 131 = .ok (.invokestatic 133, 3) := by decide +kernel
theorem d_C_arrangeBits_134 : decode b_C_arrangeBits 134 = .ok (.goto 27, 3) := by decide +kernel
theorem d_C_arrangeBits_137 : decode b_C_arrangeBits 137 = .ok (.aload_n 0, 1) := by decide +kernel
theorem d_C_arrangeBits_138 : decode b_C_arrangeBits 138 = .ok (.getfield 14, 3) := by decide +kernel
theorem d_C_arrangeBits_141 : decode b_C_arrangeBits 141 = .ok (.aload_n 2, 1) := by decide +kernel
theorem d_C_arrangeBits_142 : decode b_C_arrangeBits 142 = .ok (.aload_n 3, 1) := by decide +kernel
theorem d_C_arrangeBits_143 : decode b_C_arrangeBits 143 = .ok (.invokestatic 136, 3) := by decide +kernel
theorem d_C_arrangeBits_146 : decode b_C_arrangeBits 146 = .ok (.goto 15, 3) := by decide +kernel
theorem d_C_arrangeBits_149 : decode b_C_arrangeBits 149 = .ok (.aload_n 0, 1) := by decide +kernel
theorem d_C_arrangeBits_150 : decode b_C_arrangeBits 150 = .ok (.getfield 14, 3) := by decide +kernel
theorem d_C_arrangeBits_153 : decode b_C_arrangeBits 153 = .ok (.aload_n 2, 1) := by decide +kernel
theorem d_C_arrangeBits_154 : decode b_C_arrangeBits 154 = .ok (.aload_n 3, 1) := by decide +kernel
theorem d_C_arrangeBits_155 : decode b_C_arrangeBits 155 = .ok (.invokestatic 139, 3) := by decide +kernel
theorem d_C_arrangeBits_158 : decode b_C_arrangeBits 158 = .ok (.goto 3, 3) := by decide +kernel
theorem d_C_arrangeBits_161 : decode b_C_arrangeBits 161 = .ok (.return_, 1) := by decide +kernel
theorem d_C_extendSign_0 : decode b_C_extendSign 0 = .ok (.bipush 31, 2) := by decide +kernel
theorem d_C_extendSign_2 : decode b_C_extendSign 2 = .ok (.istore_n 3, 1) := by decide +kernel
theorem d_C_extendSign_3 : decode b_C_extendSign 3 = .ok (.bipush 8, 2) := by decide +kernel
theorem d_C_extendSign_5 : decode b_C_extendSign 5 = .ok (.iload_n 3, 1) := by decide +kernel
theorem d_C_extendSign_6 : decode b_C_extendSign 6 = .ok (.aload_n 1, 1) := by decide +kernel
theorem d_C_extendSign_7 : decode b_C_extendSign 7 = .ok (.iload_n 3, 1) := by decide +kernel
theorem d_C_extendSign_8 : decode b_C_extendSign 8 = .ok (.invokestatic 114, 3) := by decide +kernel
theorem d_C_extendSign_11 : decode b_C_extendSign 11 = .ok (.isub, 1) := by decide +kernel
theorem d_C_extendSign_12 : decode b_C_extendSign 12 = .ok (.imul, 1) := by decide +kernel
theorem d_C_extendSign_13 : decode b_C_extendSign 13 = .ok (.istore 4, 2) := by decide +kernel
theorem d_C_extendSign_15 : decode b_C_extendSign 15 = .ok (.aload_n 0, 1) := by decide +kernel
theorem d_C_extendSign_16 : decode b_C_extendSign 16 = .ok (.getfield 18, 3) := by decide +kernel
theorem d_C_extendSign_19 : decode b_C_extendSign 19 = .ok (.aload_n 2, 1) := by decide +kernel
theorem d_C_extendSign_20 : decode b_C_extendSign 20 = .ok (.iload 4, 2) := by decide +kernel
theorem d_C_extendSign_22 : decode b_C_extendSign 22 = .ok (.invokestatic 118, 3) := by decide +kernel
theorem d_C_extendSign_25 : decode b_C_extendSign 25 = .ok (.aload_n 0, 1) := by decide +kernel
theorem d_C_extendSign_26 : decode b_C_extendSign 26 = .ok (.getfield 14, 3) := by decide +kernel
theorem d_C_extendSign_29 : decode b_C_extendSign 29 = .ok (.aload_n 0, 1) := by decide +kernel
theorem d_C_extendSign_30 : decode b_C_extendSign 30 = .ok (.getfield 18, 3) := by decide +kernel
theorem d_C_extendSign_33 : decode b_C_extendSign 33 = .ok (.iload 4, 2) := by decide +kernel
theorem d_C_extendSign_35 : decode b_C_extendSign 35 = .ok (.aload_n 0, 1) := by decide +kernel
theorem d_C_extendSign_36 : decode b_C_extendSign 36 = .ok (.getfield 18, 3) := by decide +kernel
theorem d_C_extendSign_39 : decode b_C_extendSign 39 = .ok (.invokestatic 126, 3) := by decide +kernel
theorem d_C_extendSign_42 : decode b_C_extendSign 42 = .ok (.invokestatic 122, 3) := by decide +kernel
theorem d_C_extendSign_45 : decode b_C_extendSign 45 = .ok (.return_, 1) := by decide +kernel
theorem d_C_valueUpTo_0 : decode b_C_valueUpTo 0 = .ok (.aload_n 0, 1) := by decide +kernel
theorem d_C_valueUpTo_1 : decode b_C_valueUpTo 1 = .ok (.invokestatic 87, 3) := by decide +kernel
theorem d_C_valueUpTo_4 : decode b_C_valueUpTo 4 = .ok (.bipush 32, 2) := by decide +kernel
theorem d_C_valueUpTo_6 : decode b_C_valueUpTo 6 = .ok (.if_icmp .gt 12, 3) := by decide +kernel
theorem d_C_valueUpTo_9 : decode b_C_valueUpTo 9 = .ok (.aload_n 0, 1) := by decide +kernel
theorem d_C_valueUpTo_10 : decode b_C_valueUpTo 10 = .ok (.iconst 0, 1) := by decide +kernel
theorem d_C_valueUpTo_11 : decode b_C_valueUpTo 11 = .ok (.laload, 1) := by decide +kernel
theorem d_C_valueUpTo_12 : decode b_C_valueUpTo 12 = .ok (.iload_n 1, 1) := by decide +kernel
theorem d_C_valueUpTo_13 : decode b_C_valueUpTo 13 = .ok (.i2l, 1) := by decide +kernel
theorem d_C_valueUpTo_14 : decode b_C_valueUpTo 14 = .ok (.lcmp, 1) := by decide +kernel
theorem d_C_valueUpTo_15 : decode b_C_valueUpTo 15 = .ok (.ifCond .le 7, 3) := by decide +kernel
theorem d_C_valueUpTo_18 : decode b_C_valueUpTo 18 = .ok (.iload_n 1, 1) := by decide +kernel
theorem d_C_valueUpTo_19 : decode b_C_valueUpTo 19 = .ok (.goto 7, 3) := by decide +kernel
theorem d_C_valueUpTo_22 : decode b_C_valueUpTo 22 = .ok (.aload_n 0, 1) := by decide +kernel
theorem d_C_valueUpTo_23 : decode b_C_valueUpTo 23 = .ok (.iconst 0, 1) := by decide +kernel
theorem d_C_valueUpTo_24 : decode b_C_valueUpTo 24 = .ok (.laload, 1) := by decide +kernel
theorem d_C_valueUpTo_25 : decode b_C_valueUpTo 25 = .ok (.l2i, 1) := by decide +kernel
theorem d_C_valueUpTo_26 : decode b_C_valueUpTo 26 = .ok (.ireturn, 1) := by decide +kernel
theorem d_C_moveLeft_0 : decode b_C_moveLeft 0 = .ok (.iload_n 2, 1) := by decide +kernel
theorem d_C_moveLeft_1 : decode b_C_moveLeft 1 = .ok (.bipush 32, 2) := by decide +kernel
theorem d_C_moveLeft_3 : decode b_C_moveLeft 3 = .ok (.idiv, 1) := by decide +kernel
theorem d_C_moveLeft_4 : decode b_C_moveLeft 4 = .ok (.istore_n 3, 1) := by decide +kernel
theorem d_C_moveLeft_5 : decode b_C_moveLeft 5 = .ok (.iconst 0, 1) := by decide +kernel
theorem d_C_moveLeft_6 : decode b_C_moveLeft 6 = .ok (.istore 4, 2) := by decide +kernel
theorem d_C_moveLeft_8 : decode b_C_moveLeft 8 = .ok (.iload 4, 2) := by decide +kernel
theorem d_C_moveLeft_10 : decode b_C_moveLeft 10 = .ok (.bipush 8, 2) := by decide +kernel
theorem d_C_moveLeft_12 : decode b_C_moveLeft 12 = .ok (.if_icmp .ge 49, 3) := by decide +kernel
theorem d_C_moveLeft_15 : decode b_C_moveLeft 15 = .ok (.aload_n 1, 1) := by decide +kernel
theorem d_C_moveLeft_16 : decode b_C_moveLeft 16 = .ok (.iload 4, 2) := by decide +kernel
theorem d_C_moveLeft_18 : decode b_C_moveLeft 18 = .ok (.iload_n 3, 1) := by decide +kernel
theorem d_C_moveLeft_19 : decode b_C_moveLeft 19 = .ok (.isub, 1) := by decide +kernel
theorem d_C_moveLeft_20 : decode b_C_moveLeft 20 = .ok (.lconst 0, 1) := by decide +kernel
theorem d_C_moveLeft_21 : decode b_C_moveLeft 21 = .ok (.invokestatic 158, 3) := by decide +kernel
theorem d_C_moveLeft_24 : decode b_C_moveLeft 24 = .ok (.bipush 32, 2) := by decide +kernel
theorem d_C_moveLeft_26 : decode b_C_moveLeft 26 = .ok (.lshl, 1) := by decide +kernel
theorem d_C_moveLeft_27 : decode b_C_moveLeft 27 = .ok (.aload_n 1, 1) := by decide +kernel
theorem d_C_moveLeft_28 : decode b_C_moveLeft 28 = .ok (.iload 4, 2) := by decide +kernel
theorem d_C_moveLeft_30 : decode b_C_moveLeft 30 = .ok (.iload_n 3, 1) := by decide +kernel
theorem d_C_moveLeft_31 : decode b_C_moveLeft 31 = .ok (.isub, 1) := by decide +kernel
theorem d_C_moveLeft_32 : decode b_C_moveLeft 32 = .ok (.iconst 1, 1) := by decide +kernel
theorem d_C_moveLeft_33 : decode b_C_moveLeft 33 = .ok (.isub, 1) := by decide +kernel
theorem d_C_moveLeft_34 : decode b_C_moveLeft 34 = .ok (.lconst 0, 1) := by decide +kernel
theorem d_C_moveLeft_35 : decode b_C_moveLeft 35 = .ok (.invokestatic 158, 3) := by decide +kernel
theorem d_C_moveLeft_38 : decode b_C_moveLeft 38 = .ok (.lor, 1) := by decide +kernel
theorem d_C_moveLeft_39 : decode b_C_moveLeft 39 = .ok (.lstore 5, 2) := by decide +kernel
theorem d_C_moveLeft_41 : decode b_C_moveLeft 41 = .ok (.aload_n 0, 1) := by decide +kernel
theorem d_C_moveLeft_42 : decode b_C_moveLeft 42 = .ok (.iload 4, 2) := by decide +kernel
theorem d_C_moveLeft_44 : decode b_C_moveLeft 44 = .ok (.lload 5, 2) := by decide +kernel
theorem d_C_moveLeft_46 : decode b_C_moveLeft 46 = .ok (.iload_n 2, 1) := by decide +kernel
theorem d_C_moveLeft_47 : decode b_C_moveLeft 47 = .ok (.bipush 32, 2) := by decide +kernel
theorem d_C_moveLeft_49 : decode b_C_moveLeft 49 = .ok (.irem, 1) := by decide +kernel
theorem d_C_moveLeft_50 : decode b_C_moveLeft 50 = .ok (.lshl, 1) := by decide +kernel
theorem d_C_moveLeft_51 : decode b_C_moveLeft 51 = .ok (.bipush 32, 2) := by decide +kernel
theorem d_C_moveLeft_53 : decode b_C_moveLeft 53 = .ok (.lushr, 1) := by decide +kernel
theorem d_C_moveLeft_54 : decode b_C_moveLeft 54 = .ok (.lastore, 1) := by decide +kernel
theorem d_C_moveLeft_55 : decode b_C_moveLeft 55 = .ok (.iinc 4 1, 3) := by decide +kernel
theorem d_C_moveLeft_58 : decode b_C_moveLeft 58 = .ok (.goto (-50), 3) := by decide +kernel
theorem d_C_moveLeft_61 : decode b_C_moveLeft 61 = .ok (.return_, 1) := by decide +kernel
theorem d_C_limbOr_0 : decode b_C_limbOr 0 = .ok (.iload_n 1, 1) := by decide +kernel
theorem d_C_limbOr_1 : decode b_C_limbOr 1 = .ok (.ifCond .lt 15, 3) := by decide +kernel
theorem d_C_limbOr_4 : decode b_C_limbOr 4 = .ok (.iload_n 1, 1) := by decide +kernel
theorem d_C_limbOr_5 : decode b_C_limbOr 5 = .ok (.bipush 8, 2) := by decide +kernel
theorem d_C_limbOr_7 : decode b_C_limbOr 7 = .ok (.if_icmp .ge 9, 3) := by decide +kernel
theorem d_C_limbOr_10 : decode b_C_limbOr 10 = .ok (.aload_n 0, 1) := by decide +kernel
theorem d_C_limbOr_11 : decode b_C_limbOr 11 = .ok (.iload_n 1, 1) := by decide +kernel
theorem d_C_limbOr_12 : decode b_C_limbOr 12 = .ok (.laload, 1) := by decide +kernel
theorem d_C_limbOr_13 : decode b_C_limbOr 13 = .ok (.goto 4, 3) := by decide +kernel
theorem d_C_limbOr_16 : decode b_C_limbOr 16 = .ok (.lload_n 2, 1) := by decide +kernel
theorem d_C_limbOr_17 : decode b_C_limbOr 17 = .ok (.lreturn, 1) := by decide +kernel
theorem d_C_limbOfSign_0 : decode b_C_limbOfSign 0 = .ok (.aload_n 0, 1) := by decide +kernel
theorem d_C_limbOfSign_1 : decode b_C_limbOfSign 1 = .ok (.invokestatic 79, 3) := by decide +kernel
theorem d_C_limbOfSign_4 : decode b_C_limbOfSign 4 = .ok (.ifCond .eq 9, 3) := by decide +kernel
theorem d_C_limbOfSign_7 : decode b_C_limbOfSign 7 = .ok (.ldc2_w 142, 3) := by decide +kernel
theorem d_C_limbOfSign_10 : decode b_C_limbOfSign 10 = .ok (.goto 4, 3) := by decide +kernel
theorem d_C_limbOfSign_13 : decode b_C_limbOfSign 13 = .ok (.lconst 0, 1) := by decide +kernel
theorem d_C_limbOfSign_14 : decode b_C_limbOfSign 14 = .ok (.lreturn, 1) := by decide +kernel
theorem d_C_moveRight_0 : decode b_C_moveRight 0 = .ok (.iload_n 2, 1) := by decide +kernel
theorem d_C_moveRight_1 : decode b_C_moveRight 1 = .ok (.bipush 32, 2) := by decide +kernel
theorem d_C_moveRight_3 : decode b_C_moveRight 3 = .ok (.idiv, 1) := by decide +kernel
theorem d_C_moveRight_4 : decode b_C_moveRight 4 = .ok (.istore 5, 2) := by decide +kernel
theorem d_C_moveRight_6 : decode b_C_moveRight 6 = .ok (.iconst 0, 1) := by decide +kernel
theorem d_C_moveRight_7 : decode b_C_moveRight 7 = .ok (.istore 6, 2) := by decide +kernel
theorem d_C_moveRight_9 : decode b_C_moveRight 9 = .ok (.iload 6, 2) := by decide +kernel
theorem d_C_moveRight_11 : decode b_C_moveRight 11 = .ok (.bipush 8, 2) := by decide +kernel
theorem d_C_moveRight_13 : decode b_C_moveRight 13 = .ok (.if_icmp .ge 52, 3) := by decide +kernel
theorem d_C_moveRight_16 : decode b_C_moveRight 16 = .ok (.aload_n 1, 1) := by decide +kernel
theorem d_C_moveRight_17 : decode b_C_moveRight 17 = .ok (.iload 6, 2) := by decide +kernel
theorem d_C_moveRight_19 : decode b_C_moveRight 19 = .ok (.iload 5, 2) := by decide +kernel
theorem d_C_moveRight_21 : decode b_C_moveRight 21 = .ok (.iadd, 1) := by decide +kernel
theorem d_C_moveRight_22 : decode b_C_moveRight 22 = .ok (.iconst 1, 1) := by decide +kernel
theorem d_C_moveRight_23 : decode b_C_moveRight 23 = .ok (.iadd, 1) := by decide +kernel
theorem d_C_moveRight_24 : decode b_C_moveRight 24 = .ok (.lload_n 3, 1) := by decide +kernel
theorem d_C_moveRight_25 : decode b_C_moveRight 25 = .ok (.invokestatic 158, 3) := by decide +kernel
theorem d_C_moveRight_28 : decode b_C_moveRight 28 = .ok (.bipush 32, 2) := by decide +kernel
theorem d_C_moveRight_30 : decode b_C_moveRight 30 = .ok (.lshl, 1) := by decide +kernel
theorem d_C_moveRight_31 : decode b_C_moveRight 31 = .ok (.aload_n 1, 1) := by decide +kernel
theorem d_C_moveRight_32 : decode b_C_moveRight 32 = .ok (.iload 6, 2) := by decide +kernel
theorem d_C_moveRight_34 : decode b_C_moveRight 34 = .ok (.iload 5, 2) := by decide +kernel
theorem d_C_moveRight_36 : decode b_C_moveRight 36 = .ok (.iadd, 1) := by decide +kernel
theorem d_C_moveRight_37 : decode b_C_moveRight 37 = .ok (.lload_n 3, 1) := by decide +kernel
theorem d_C_moveRight_38 : decode b_C_moveRight 38 = .ok (.invokestatic 158, 3) := by decide +kernel
theorem d_C_moveRight_41 : decode b_C_moveRight 41 = .ok (.lor, 1) := by decide +kernel
theorem d_C_moveRight_42 : decode b_C_moveRight 42 = .ok (.lstore 7, 2) := by decide +kernel
theorem d_C_moveRight_44 : decode b_C_moveRight 44 = .ok (.aload_n 0, 1) := by decide +kernel
theorem d_C_moveRight_45 : decode b_C_moveRight 45 = .ok (.iload 6, 2) := by decide +kernel
theorem d_C_moveRight_47 : decode b_C_moveRight 47 = .ok (.lload 7, 2) := by decide +kernel
theorem d_C_moveRight_49 : decode b_C_moveRight 49 = .ok (.iload_n 2, 1) := by decide +kernel
theorem d_C_moveRight_50 : decode b_C_moveRight 50 = .ok (.bipush 32, 2) := by decide +kernel
theorem d_C_moveRight_52 : decode b_C_moveRight 52 = .ok (.irem, 1) := by decide +kernel
theorem d_C_moveRight_53 : decode b_C_moveRight 53 = .ok (.lushr, 1) := by decide +kernel
theorem d_C_moveRight_54 : decode b_C_moveRight 54 = .ok (.ldc2_w 142, 3) := by decide +kernel
theorem d_C_moveRight_57 : decode b_C_moveRight 57 = .ok (.land, 1) := by decide +kernel
theorem d_C_moveRight_58 : decode b_C_moveRight 58 = .ok (.lastore, 1) := by decide +kernel
theorem d_C_moveRight_59 : decode b_C_moveRight 59 = .ok (.iinc 6 1, 3) := by decide +kernel
theorem d_C_moveRight_62 : decode b_C_moveRight 62 = .ok (.goto (-53), 3) := by decide +kernel
theorem d_C_moveRight_65 : decode b_C_moveRight 65 = .ok (.return_, 1) := by decide +kernel
theorem d_C_pickByte_0 : decode b_C_pickByte 0 = .ok (.aload_n 0, 1) := by decide +kernel
theorem d_C_pickByte_1 : decode b_C_pickByte 1 = .ok (.getfield 14, 3) := by decide +kernel
theorem d_C_pickByte_4 : decode b_C_pickByte 4 = .ok (.lconst 0, 1) := by decide +kernel
theorem d_C_pickByte_5 : decode b_C_pickByte 5 = .ok (.invokestatic 60, 3) := by decide +kernel
theorem d_C_pickByte_8 : decode b_C_pickByte 8 = .ok (.aload_n 1, 1) := by decide +kernel
theorem d_C_pickByte_9 : decode b_C_pickByte 9 = .ok (.bipush 32, 2) := by decide +kernel
theorem d_C_pickByte_11 : decode b_C_pickByte 11 = .ok (.invokestatic 114, 3) := by decide +kernel
theorem d_C_pickByte_14 : decode b_C_pickByte 14 = .ok (.istore_n 3, 1) := by decide +kernel
theorem d_C_pickByte_15 : decode b_C_pickByte 15 = .ok (.iload_n 3, 1) := by decide +kernel
theorem d_C_pickByte_16 : decode b_C_pickByte 16 = .ok (.bipush 32, 2) := by decide +kernel
theorem d_C_pickByte_18 : decode b_C_pickByte 18 = .ok (.if_icmp .ge 35, 3) := by decide +kernel
theorem d_C_pickByte_21 : decode b_C_pickByte 21 = .ok (.bipush 8, 2) := by decide +kernel
theorem d_C_pickByte_23 : decode b_C_pickByte 23 = .ok (.bipush 31, 2) := by decide +kernel
theorem d_C_pickByte_25 : decode b_C_pickByte 25 = .ok (.iload_n 3, 1) := by decide +kernel
theorem d_C_pickByte_26 : decode b_C_pickByte 26 = .ok (.isub, 1) := by decide +kernel
theorem d_C_pickByte_27 : decode b_C_pickByte 27 = .ok (.imul, 1) := by decide +kernel
theorem d_C_pickByte_28 : decode b_C_pickByte 28 = .ok (.istore 4, 2) := by decide +kernel
theorem d_C_pickByte_30 : decode b_C_pickByte 30 = .ok (.aload_n 0, 1) := by decide +kernel
theorem d_C_pickByte_31 : decode b_C_pickByte 31 = .ok (.getfield 14, 3) := by decide +kernel
theorem d_C_pickByte_34 : decode b_C_pickByte 34 = .ok (.iconst 0, 1) := by decide +kernel
theorem d_C_pickByte_35 : decode b_C_pickByte 35 = .ok (.aload_n 2, 1) := by decide +kernel
theorem d_C_pickByte_36 : decode b_C_pickByte 36 = .ok (.iload 4, 2) := by decide +kernel
theorem d_C_pickByte_38 : decode b_C_pickByte 38 = .ok (.bipush 32, 2) := by decide +kernel
theorem d_C_pickByte_40 : decode b_C_pickByte 40 = .ok (.idiv, 1) := by decide +kernel
theorem d_C_pickByte_41 : decode b_C_pickByte 41 = .ok (.laload, 1) := by decide +kernel
theorem d_C_pickByte_42 : decode b_C_pickByte 42 = .ok (.iload 4, 2) := by decide +kernel
theorem d_C_pickByte_44 : decode b_C_pickByte 44 = .ok (.bipush 32, 2) := by decide +kernel
theorem d_C_pickByte_46 : decode b_C_pickByte 46 = .ok (.irem, 1) := by decide +kernel
theorem d_C_pickByte_47 : decode b_C_pickByte 47 = .ok (.lushr, 1) := by decide +kernel
theorem d_C_pickByte_48 : decode b_C_pickByte 48 = .ok (.ldc2_w 162, 3) := by decide +kernel
theorem d_C_pickByte_51 : decode b_C_pickByte 51 = .ok (.land, 1) := by decide +kernel
theorem d_C_pickByte_52 : decode b_C_pickByte 52 = .ok (.lastore, 1) := by decide +kernel
theorem d_C_pickByte_53 : decode b_C_pickByte 53 = .ok (.return_, 1) := by decide +kernel
theorem d_C_and_0 : decode b_C_and 0 = .ok (.iconst 0, 1) := by decide +kernel
theorem d_C_and_1 : decode b_C_and 1 = .ok (.istore_n 3, 1) := by decide +kernel
theorem d_C_and_2 : decode b_C_and 2 = .ok (.iload_n 3, 1) := by decide +kernel
theorem d_C_and_3 : decode b_C_and 3 = .ok (.bipush 8, 2) := by decide +kernel
theorem d_C_and_5 : decode b_C_and 5 = .ok (.if_icmp .ge 19, 3) := by decide +kernel
theorem d_C_and_8 : decode b_C_and 8 = .ok (.aload_n 0, 1) := by decide +kernel
theorem d_C_and_9 : decode b_C_and 9 = .ok (.iload_n 3, 1) := by decide +kernel
theorem d_C_and_10 : decode b_C_and 10 = .ok (.aload_n 1, 1) := by decide +kernel
theorem d_C_and_11 : decode b_C_and 11 = .ok (.iload_n 3, 1) := by decide +kernel
theorem d_C_and_12 : decode b_C_and 12 = .ok (.laload, 1) := by decide +kernel
theorem d_C_and_13 : decode b_C_and 13 = .ok (.aload_n 2, 1) := by decide +kernel
theorem d_C_and_14 : decode b_C_and 14 = .ok (.iload_n 3, 1) := by decide +kernel
theorem d_C_and_15 : decode b_C_and 15 = .ok (.laload, 1) := by decide +kernel
theorem d_C_and_16 : decode b_C_and 16 = .ok (.land, 1) := by decide +kernel
theorem d_C_and_17 : decode b_C_and 17 = .ok (.lastore, 1) := by decide +kernel
theorem d_C_and_18 : decode b_C_and 18 = .ok (.iinc 3 1, 3) := by decide +kernel
theorem d_C_and_21 : decode b_C_and 21 = .ok (.goto (-19), 3) := by decide +kernel
theorem d_C_and_24 : decode b_C_and 24 = .ok (.return_, 1) := by decide +kernel
theorem d_C_or_0 : decode b_C_or 0 = .ok (.iconst 0, 1) := by decide +kernel
theorem d_C_or_1 : decode b_C_or 1 = .ok (.istore_n 3, 1) := by decide +kernel
theorem d_C_or_2 : decode b_C_or 2 = .ok (.iload_n 3, 1) := by decide +kernel
theorem d_C_or_3 : decode b_C_or 3 = .ok (.bipush 8, 2) := by decide +kernel
theorem d_C_or_5 : decode b_C_or 5 = .ok (.if_icmp .ge 19, 3) := by decide +kernel
theorem d_C_or_8 : decode b_C_or 8 = .ok (.aload_n 0, 1) := by decide +kernel
theorem d_C_or_9 : decode b_C_or 9 = .ok (.iload_n 3, 1) := by decide +kernel
theorem d_C_or_10 : decode b_C_or 10 = .ok (.aload_n 1, 1) := by decide +kernel
theorem d_C_or_11 : decode b_C_or 11 = .ok (.iload_n 3, 1) := by decide +kernel
theorem d_C_or_12 : decode b_C_or 12 = .ok (.laload, 1) := by decide +kernel
theorem d_C_or_13 : decode b_C_or 13 = .ok (.aload_n 2, 1) := by decide +kernel
theorem d_C_or_14 : decode b_C_or 14 = .ok (.iload_n 3, 1) := by decide +kernel
theorem d_C_or_15 : decode b_C_or 15 = .ok (.laload, 1) := by decide +kernel
theorem d_C_or_16 : decode b_C_or 16 = .ok (.lor, 1) := by decide +kernel
theorem d_C_or_17 : decode b_C_or 17 = .ok (.lastore, 1) := by decide +kernel
theorem d_C_or_18 : decode b_C_or 18 = .ok (.iinc 3 1, 3) := by decide +kernel
theorem d_C_or_21 : decode b_C_or 21 = .ok (.goto (-19), 3) := by decide +kernel
theorem d_C_or_24 : decode b_C_or 24 = .ok (.return_, 1) := by decide +kernel
theorem d_C_exclusiveOr_0 : decode b_C_exclusiveOr 0 = .ok (.iconst 0, 1) := by decide +kernel
theorem d_C_exclusiveOr_1 : decode b_C_exclusiveOr 1 = .ok (.istore_n 3, 1) := by decide +kernel
theorem d_C_exclusiveOr_2 : decode b_C_exclusiveOr 2 = .ok (.iload_n 3, 1) := by decide +kernel
theorem d_C_exclusiveOr_3 : decode b_C_exclusiveOr 3 = .ok (.bipush 8, 2) := by decide +kernel
theorem d_C_exclusiveOr_5 : decode b_C_exclusiveOr 5 = .ok (.if_icmp .ge 19, 3) := by decide +kernel
theorem d_C_exclusiveOr_8 : decode b_C_exclusiveOr 8 = .ok (.aload_n 0, 1) := by decide +kernel
theorem d_C_exclusiveOr_9 : decode b_C_exclusiveOr 9 = .ok (.iload_n 3, 1) := by decide +kernel
theorem d_C_exclusiveOr_10 : decode b_C_exclusiveOr 10 = .ok (.aload_n 1, 1) := by decide +kernel
theorem d_C_exclusiveOr_11 : decode b_C_exclusiveOr 11 = .ok (.iload_n 3, 1) := by decide +kernel
theorem d_C_exclusiveOr_12 : decode b_C_exclusiveOr 12 = .ok (.laload, 1) := by decide +kernel
theorem d_C_exclusiveOr_13 : decode b_C_exclusiveOr 13 = .ok (.aload_n 2, 1) := by decide +kernel
theorem d_C_exclusiveOr_14 : decode b_C_exclusiveOr 14 = .ok (.iload_n 3, 1) := by decide +kernel
theorem d_C_exclusiveOr_15 : decode b_C_exclusiveOr 15 = .ok (.laload, 1) := by decide +kernel
theorem d_C_exclusiveOr_16 : decode b_C_exclusiveOr 16 = .ok (.lxor, 1) := by decide +kernel
theorem d_C_exclusiveOr_17 : decode b_C_exclusiveOr 17 = .ok (.lastore, 1) := by decide +kernel
theorem d_C_exclusiveOr_18 : decode b_C_exclusiveOr 18 = .ok (.iinc 3 1, 3) := by decide +kernel
theorem d_C_exclusiveOr_21 : decode b_C_exclusiveOr 21 = .ok (.goto (-19), 3) := by decide +kernel
theorem d_C_exclusiveOr_24 : decode b_C_exclusiveOr 24 = .ok (.return_, 1) := by decide +kernel
theorem d_C_modular_0 : decode b_C_modular 0 = .ok (.iload_n 1, 1) := by decide +kernel
theorem d_C_modular_1 : decode b_C_modular 1 = .ok (.bipush 16, 2) := by decide +kernel
theorem d_C_modular_3 : decode b_C_modular 3 = .ok (.invokestatic 33, 3) := by decide +kernel
theorem d_C_modular_6 : decode b_C_modular 6 = .ok (.iload_n 2, 1) := by decide +kernel
theorem d_C_modular_7 : decode b_C_modular 7 = .ok (.bipush 16, 2) := by decide +kernel
theorem d_C_modular_9 : decode b_C_modular 9 = .ok (.invokestatic 33, 3) := by decide +kernel
theorem d_C_modular_12 : decode b_C_modular 12 = .ok (.iload_n 3, 1) := by decide +kernel
theorem d_C_modular_13 : decode b_C_modular 13 = .ok (.bipush 16, 2) := by decide +kernel
theorem d_C_modular_15 : decode b_C_modular 15 = .ok (.invokestatic 33, 3) := by decide +kernel
theorem d_C_modular_18 : decode b_C_modular 18 = .ok (.iload 4, 2) := by decide +kernel
theorem d_C_modular_20 : decode b_C_modular 20 = .ok (.bipush 16, 2) := by decide +kernel
theorem d_C_modular_22 : decode b_C_modular 22 = .ok (.invokestatic 33, 3) := by decide +kernel
theorem d_C_modular_25 : decode b_C_modular 25 = .ok (.iload 5, 2) := by decide +kernel
theorem d_C_modular_27 : decode b_C_modular 27 = .ok (.ifCond .eq 25, 3) := by decide +kernel
theorem d_C_modular_30 : decode b_C_modular 30 = .ok (.aload_n 0, 1) := by decide +kernel
theorem d_C_modular_31 : decode b_C_modular 31 = .ok (.getfield 24, 3) := by decide +kernel
theorem d_C_modular_34 : decode b_C_modular 34 = .ok (.aload_n 0, 1) := by decide +kernel
theorem d_C_modular_35 : decode b_C_modular 35 = .ok (.getfield 11, 3) := by decide +kernel
theorem d_C_modular_38 : decode b_C_modular 38 = .ok (.iload_n 2, 1) := by decide +kernel
theorem d_C_modular_39 : decode b_C_modular 39 = .ok (.aaload, 1) := by decide +kernel
theorem d_C_modular_40 : decode b_C_modular 40 = .ok (.aload_n 0, 1) := by decide +kernel
theorem d_C_modular_41 : decode b_C_modular 41 = .ok (.getfield 11, 3) := by decide +kernel
theorem d_C_modular_44 : decode b_C_modular 44 = .ok (.iload_n 3, 1) := by decide +kernel
theorem d_C_modular_45 : decode b_C_modular 45 = .ok (.aaload, 1) := by decide +kernel
theorem d_C_modular_46 : decode b_C_modular 46 = .ok (.invokestatic 56, 3) := by decide +kernel
theorem d_C_modular_49 : decode b_C_modular 49 = .ok (.goto 37, 3) := by decide +kernel
theorem d_C_modular_52 : decode b_C_modular 52 = .ok (.aload_n 0, 1) := by decide +kernel
theorem d_C_modular_53 : decode b_C_modular 53 = .ok (.getfield 24, 3) := by decide +kernel
theorem d_C_modular_56 : decode b_C_modular 56 = .ok (.lconst 0, 1) := by decide +kernel
theorem d_C_modular_57 : decode b_C_modular 57 = .ok (.invokestatic 60, 3) := by decide +kernel
theorem d_C_modular_60 : decode b_C_modular 60 = .ok (.aload_n 0, 1) := by decide +kernel
theorem d_C_modular_61 : decode b_C_modular 61 = .ok (.getfield 24, 3) := by decide +kernel
theorem d_C_modular_64 : decode b_C_modular 64 = .ok (.bipush 8, 2) := by decide +kernel
theorem d_C_modular_66 : decode b_C_modular 66 = .ok (.aload_n 0, 1) := by decide +kernel
theorem d_C_modular_67 : decode b_C_modular 67 = .ok (.getfield 24, 3) := by decide +kernel
theorem d_C_modular_70 : decode b_C_modular 70 = .ok (.aload_n 0, 1) := by decide +kernel
theorem d_C_modular_71 : decode b_C_modular 71 = .ok (.getfield 11, 3) := by decide +kernel
theorem d_C_modular_74 : decode b_C_modular 74 = .ok (.iload_n 2, 1) := by decide +kernel
theorem d_C_modular_75 : decode b_C_modular 75 = .ok (.aaload, 1) := by decide +kernel
theorem d_C_modular_76 : decode b_C_modular 76 = .ok (.aload_n 0, 1) := by decide +kernel
theorem d_C_modular_77 : decode b_C_modular 77 = .ok (.getfield 11, 3) := by decide +kernel
theorem d_C_modular_80 : decode b_C_modular 80 = .ok (.iload_n 3, 1) := by decide +kernel
theorem d_C_modular_81 : decode b_C_modular 81 = .ok (.aaload, 1) := by decide +kernel
theorem d_C_modular_82 : decode b_C_modular 82 = .ok (.invokestatic 66, 3) := by decide +kernel
theorem d_C_modular_85 : decode b_C_modular 85 = .ok (.lastore, 1) := by decide +kernel
theorem d_C_modular_86 : decode b_C_modular 86 = .ok (.aload_n 0, 1) := by decide +kernel
theorem d_C_modular_87 : decode b_C_modular 87 = .ok (.aload_n 0, 1) := by decide +kernel
theorem d_C_modular_88 : decode b_C_modular 88 = .ok (.getfield 24, 3) := by decide +kernel
theorem d_C_modular_91 : decode b_C_modular 91 = .ok (.aload_n 0, 1) := by decide +kernel
theorem d_C_modular_92 : decode b_C_modular 92 = .ok (.getfield 11, 3) := by decide +kernel
theorem d_C_modular_95 : decode b_C_modular 95 = .ok (.iload 4, 2) := by decide +kernel
theorem d_C_modular_97 : decode b_C_modular 97 = .ok (.aaload, 1) := by decide +kernel
theorem d_C_modular_98 : decode b_C_modular 98 = .ok (.invokevirtual 70, 3) := by decide +kernel
theorem d_C_modular_101 : decode b_C_modular 101 = .ok (.aload_n 0, 1) := by decide +kernel
theorem d_C_modular_102 : decode b_C_modular 102 = .ok (.getfield 11, 3) := by decide +kernel
theorem d_C_modular_105 : decode b_C_modular 105 = .ok (.iload_n 1, 1) := by decide +kernel
theorem d_C_modular_106 : decode b_C_modular 106 = .ok (.aaload, 1) := by decide +kernel
theorem d_C_modular_107 : decode b_C_modular 107 = .ok (.aload_n 0, 1) := by decide +kernel
theorem d_C_modular_108 : decode b_C_modular 108 = .ok (.getfield 30, 3) := by decide +kernel
theorem d_C_modular_111 : decode b_C_modular 111 = .ok (.invokestatic 52, 3) := by decide +kernel
theorem d_C_modular_114 : decode b_C_modular 114 = .ok (.return_, 1) := by decide +kernel
theorem d_C_turn_0 : decode b_C_turn 0 = .ok (.iload_n 1, 1) := by decide +kernel
theorem d_C_turn_1 : decode b_C_turn 1 = .ok (.bipush 16, 2) := by decide +kernel
theorem d_C_turn_3 : decode b_C_turn 3 = .ok (.invokestatic 33, 3) := by decide +kernel
theorem d_C_turn_6 : decode b_C_turn 6 = .ok (.iload_n 2, 1) := by decide +kernel
theorem d_C_turn_7 : decode b_C_turn 7 = .ok (.bipush 16, 2) := by decide +kernel
theorem d_C_turn_9 : decode b_C_turn 9 = .ok (.invokestatic 33, 3) := by decide +kernel
theorem d_C_turn_12 : decode b_C_turn 12 = .ok (.iload_n 3, 1) := by decide +kernel
theorem d_C_turn_13 : decode b_C_turn 13 = .ok (.ifCond .eq 19, 3) := by decide +kernel
theorem d_C_turn_16 : decode b_C_turn 16 = .ok (.aload_n 0, 1) := by decide +kernel
theorem d_C_turn_17 : decode b_C_turn 17 = .ok (.getfield 14, 3) := by decide +kernel
theorem d_C_turn_20 : decode b_C_turn 20 = .ok (.aload_n 0, 1) := by decide +kernel
theorem d_C_turn_21 : decode b_C_turn 21 = .ok (.getfield 11, 3) := by decide +kernel
theorem d_C_turn_24 : decode b_C_turn 24 = .ok (.iload_n 2, 1) := by decide +kernel
theorem d_C_turn_25 : decode b_C_turn 25 = .ok (.aaload, 1) := by decide +kernel
theorem d_C_turn_26 : decode b_C_turn 26 = .ok (.invokestatic 73, 3) := by decide +kernel
theorem d_C_turn_29 : decode b_C_turn 29 = .ok (.goto 16, 3) := by decide +kernel
theorem d_C_turn_32 : decode b_C_turn 32 = .ok (.aload_n 0, 1) := by decide +kernel
theorem d_C_turn_33 : decode b_C_turn 33 = .ok (.getfield 14, 3) := by decide +kernel
theorem d_C_turn_36 : decode b_C_turn 36 = .ok (.aload_n 0, 1) := by decide +kernel
theorem d_C_turn_37 : decode b_C_turn 37 = .ok (.getfield 11, 3) := by decide +kernel
theorem d_C_turn_40 : decode b_C_turn 40 = .ok (.iload_n 2, 1) := by decide +kernel
theorem d_C_turn_41 : decode b_C_turn 41 = .ok (.aaload, 1) := by decide +kernel
theorem d_C_turn_42 : decode b_C_turn 42 = .ok (.invokestatic 76, 3) := by decide +kernel
theorem d_C_turn_45 : decode b_C_turn 45 = .ok (.aload_n 0, 1) := by decide +kernel
theorem d_C_turn_46 : decode b_C_turn 46 = .ok (.getfield 11, 3) := by decide +kernel
theorem d_C_turn_49 : decode b_C_turn 49 = .ok (.iload_n 1, 1) := by decide +kernel
theorem d_C_turn_50 : decode b_C_turn 50 = .ok (.aaload, 1) := by decide +kernel
theorem d_C_turn_51 : decode b_C_turn 51 = .ok (.aload_n 0, 1) := by decide +kernel
theorem d_C_turn_52 : decode b_C_turn 52 = .ok (.getfield 14, 3) := by decide +kernel
theorem d_C_turn_55 : decode b_C_turn 55 = .ok (.invokestatic 52, 3) := by decide +kernel
theorem d_C_turn_58 : decode b_C_turn 58 = .ok (.return_, 1) := by decide +kernel
theorem d_C_invert_0 : decode b_C_invert 0 = .ok (.iconst 0, 1) := by decide +kernel
theorem d_C_invert_1 : decode b_C_invert 1 = .ok (.istore_n 2, 1) := by decide +kernel
theorem d_C_invert_2 : decode b_C_invert 2 = .ok (.iload_n 2, 1) := by decide +kernel
theorem d_C_invert_3 : decode b_C_invert 3 = .ok (.bipush 8, 2) := by decide +kernel
theorem d_C_invert_5 : decode b_C_invert 5 = .ok (.if_icmp .ge 19, 3) := by decide +kernel
theorem d_C_invert_8 : decode b_C_invert 8 = .ok (.aload_n 0, 1) := by decide +kernel
theorem d_C_invert_9 : decode b_C_invert 9 = .ok (.iload_n 2, 1) := by decide +kernel
theorem d_C_invert_10 : decode b_C_invert 10 = .ok (.aload_n 1, 1) := by decide +kernel
theorem d_C_invert_11 : decode b_C_invert 11 = .ok (.iload_n 2, 1) := by decide +kernel
theorem d_C_invert_12 : decode b_C_invert 12 = .ok (.laload, 1) := by decide +kernel
theorem d_C_invert_13 : decode b_C_invert 13 = .ok (.ldc2_w 142, 3) := by decide +kernel
theorem d_C_invert_16 : decode b_C_invert 16 = .ok (.lxor, 1) := by decide +kernel
theorem d_C_invert_17 : decode b_C_invert 17 = .ok (.lastore, 1) := by decide +kernel
theorem d_C_invert_18 : decode b_C_invert 18 = .ok (.iinc 2 1, 3) := by decide +kernel
theorem d_C_invert_21 : decode b_C_invert 21 = .ok (.goto (-19), 3) := by decide +kernel
theorem d_C_invert_24 : decode b_C_invert 24 = .ok (.return_, 1) := by decide +kernel
theorem d_C_compare_0 : decode b_C_compare 0 = .ok (.iload_n 1, 1) := by decide +kernel
theorem d_C_compare_1 : decode b_C_compare 1 = .ok (.bipush 16, 2) := by decide +kernel
theorem d_C_compare_3 : decode b_C_compare 3 = .ok (.invokestatic 33, 3) := by decide +kernel
theorem d_C_compare_6 : decode b_C_compare 6 = .ok (.iload_n 2, 1) := by decide +kernel
theorem d_C_compare_7 : decode b_C_compare 7 = .ok (.bipush 16, 2) := by decide +kernel
theorem d_C_compare_9 : decode b_C_compare 9 = .ok (.invokestatic 33, 3) := by decide +kernel
theorem d_C_compare_12 : decode b_C_compare 12 = .ok (.aload_n 0, 1) := by decide +kernel
theorem d_C_compare_13 : decode b_C_compare 13 = .ok (.getfield 11, 3) := by decide +kernel
theorem d_C_compare_16 : decode b_C_compare 16 = .ok (.iload_n 1, 1) := by decide +kernel
theorem d_C_compare_17 : decode b_C_compare 17 = .ok (.aaload, 1) := by decide +kernel
theorem d_C_compare_18 : decode b_C_compare 18 = .ok (.invokestatic 79, 3) := by decide +kernel
theorem d_C_compare_21 : decode b_C_compare 21 = .ok (.istore 4, 2) := by decide +kernel
theorem d_C_compare_23 : decode b_C_compare 23 = .ok (.iload_n 3, 1) := by decide +kernel
theorem d_C_compare_24 : decode b_C_compare 24 = .ok (.ifCond .eq 28, 3) := by decide +kernel
theorem d_C_compare_27 : decode b_C_compare 27 = .ok (.iload 4, 2) := by decide +kernel
theorem d_C_compare_29 : decode b_C_compare 29 = .ok (.aload_n 0, 1) := by decide +kernel
theorem d_C_compare_30 : decode b_C_compare 30 = .ok (.getfield 11, 3) := by decide +kernel
theorem d_C_compare_33 : decode b_C_compare 33 = .ok (.iload_n 2, 1) := by decide +kernel
theorem d_C_compare_34 : decode b_C_compare 34 = .ok (.aaload, 1) := by decide +kernel
theorem d_C_compare_35 : decode b_C_compare 35 = .ok (.invokestatic 79, 3) := by decide +kernel
theorem d_C_compare_38 : decode b_C_compare 38 = .ok (.if_icmp .eq 14, 3) := by decide +kernel
theorem d_C_compare_41 : decode b_C_compare 41 = .ok (.iload 4, 2) := by decide +kernel
theorem d_C_compare_43 : decode b_C_compare 43 = .ok (.ifCond .eq 7, 3) := by decide +kernel
theorem d_C_compare_46 : decode b_C_compare 46 = .ok (.iconst (-1), 1) := by decide +kernel
theorem d_C_compare_47 : decode b_C_compare 47 = .ok (.goto 4, 3) := by decide +kernel
theorem d_C_compare_50 : decode b_C_compare 50 = .ok (.iconst 1, 1) := by decide +kernel
theorem d_C_compare_51 : decode b_C_compare 51 = .ok (.ireturn, 1) := by decide +kernel
theorem d_C_compare_52 : decode b_C_compare 52 = .ok (.aload_n 0, 1) := by decide +kernel
theorem d_C_compare_53 : decode b_C_compare 53 = .ok (.getfield 11, 3) := by decide +kernel
theorem d_C_compare_56 : decode b_C_compare 56 = .ok (.iload_n 1, 1) := by decide +kernel
theorem d_C_compare_57 : decode b_C_compare 57 = .ok (.aaload, 1) := by decide +kernel
theorem d_C_compare_58 : decode b_C_compare 58 = .ok (.aload_n 0, 1) := by decide +kernel
theorem d_C_compare_59 : decode b_C_compare 59 = .ok (.getfield 11, 3) := by decide +kernel
theorem d_C_compare_62 : decode b_C_compare 62 = .ok (.iload_n 2, 1) := by decide +kernel
theorem d_C_compare_63 : decode b_C_compare 63 = .ok (.aaload, 1) := by decide +kernel
theorem d_C_compare_64 : decode b_C_compare 64 = .ok (.invokestatic 83, 3) := by decide +kernel
theorem d_C_compare_67 : decode b_C_compare 67 = .ok (.ireturn, 1) := by decide +kernel
theorem d_C_bytes_0 : decode b_C_bytes 0 = .ok (.iload_n 1, 1) := by decide +kernel
theorem d_C_bytes_1 : decode b_C_bytes 1 = .ok (.bipush 16, 2) := by decide +kernel
theorem d_C_bytes_3 : decode b_C_bytes 3 = .ok (.invokestatic 33, 3) := by decide +kernel
theorem d_C_bytes_6 : decode b_C_bytes 6 = .ok (.aload_n 0, 1) := by decide +kernel
theorem d_C_bytes_7 : decode b_C_bytes 7 = .ok (.getfield 11, 3) := by decide +kernel
theorem d_C_bytes_10 : decode b_C_bytes 10 = .ok (.iload_n 1, 1) := by decide +kernel
theorem d_C_bytes_11 : decode b_C_bytes 11 = .ok (.aaload, 1) := by decide +kernel
theorem d_C_bytes_12 : decode b_C_bytes 12 = .ok (.invokestatic 87, 3) := by decide +kernel
theorem d_C_bytes_15 : decode b_C_bytes 15 = .ok (.bipush 8, 2) := by decide +kernel
theorem d_C_bytes_17 : decode b_C_bytes 17 = .ok (.iadd, 1) := by decide +kernel
theorem d_C_bytes_18 : decode b_C_bytes 18 = .ok (.iconst 1, 1) := by decide +kernel
theorem d_C_bytes_19 : decode b_C_bytes 19 = .ok (.isub, 1) := by decide +kernel
theorem d_C_bytes_20 : decode b_C_bytes 20 = .ok (.bipush 8, 2) := by decide +kernel
theorem d_C_bytes_22 : decode b_C_bytes 22 = .ok (.idiv, 1) := by decide +kernel
theorem d_C_bytes_23 : decode b_C_bytes 23 = .ok (.ireturn, 1) := by decide +kernel
