-- decode rows
theorem d_M_init_0 : decode b_M_init 0 = .ok (.aload_n 0, 1) := by decide +kernel
theorem d_M_init_1 : decode b_M_init 1 = .ok (.invokespecial 1, 3) := by decide +kernel
theorem d_M_init_4 : decode b_M_init 4 = .ok (.aload_n 0, 1) := by decide +kernel
theorem d_M_init_5 : decode b_M_init 5 = .ok (.bipush 16, 2) := by decide +kernel
theorem d_M_init_7 : decode b_M_init 7 = .ok (.bipush 8, 2) := by decide +kernel
theorem d_M_init_9 : decode b_M_init 9 = .ok (.multianewarray 7 2, 4) := by decide +kernel
theorem d_M_init_13 : decode b_M_init 13 = .ok (.putfield 9, 3) := by decide +kernel
theorem d_M_init_16 : decode b_M_init 16 = .ok (.aload_n 0, 1) := by decide +kernel
theorem d_M_init_17 : decode b_M_init 17 = .ok (.bipush 8, 2) := by decide +kernel
theorem d_M_init_19 : decode b_M_init 19 = .ok (.newarray .int, 2) := by decide +kernel
theorem d_M_init_21 : decode b_M_init 21 = .ok (.putfield 14, 3) := by decide +kernel
theorem d_M_init_24 : decode b_M_init 24 = .ok (.aload_n 0, 1) := by decide +kernel
theorem d_M_init_25 : decode b_M_init 25 = .ok (.bipush 8, 2) := by decide +kernel
theorem d_M_init_27 : decode b_M_init 27 = .ok (.newarray .int, 2) := by decide +kernel
theorem d_M_init_29 : decode b_M_init 29 = .ok (.putfield 18, 3) := by decide +kernel
theorem d_M_init_32 : decode b_M_init 32 = .ok (.aload_n 0, 1) := by decide +kernel
theorem d_M_init_33 : decode b_M_init 33 = .ok (.bipush 8, 2) := by decide +kernel
theorem d_M_init_35 : decode b_M_init 35 = .ok (.newarray .int, 2) := by decide +kernel
theorem d_M_init_37 : decode b_M_init 37 = .ok (.putfield 21, 3) := by decide +kernel
theorem d_M_init_40 : decode b_M_init 40 = .ok (.aload_n 0, 1) := by decide +kernel
theorem d_M_init_41 : decode b_M_init 41 = .ok (.bipush 8, 2) := by decide +kernel
theorem d_M_init_43 : decode b_M_init 43 = .ok (.newarray .int, 2) := by decide +kernel
theorem d_M_init_45 : decode b_M_init 45 = .ok (.putfield 24, 3) := by decide +kernel
theorem d_M_init_48 : decode b_M_init 48 = .ok (.aload_n 0, 1) := by decide +kernel
theorem d_M_init_49 : decode b_M_init 49 = .ok (.bipush 17, 2) := by decide +kernel
theorem d_M_init_51 : decode b_M_init 51 = .ok (.newarray .int, 2) := by decide +kernel
theorem d_M_init_53 : decode b_M_init 53 = .ok (.putfield 27, 3) := by decide +kernel
theorem d_M_init_56 : decode b_M_init 56 = .ok (.aload_n 0, 1) := by decide +kernel
theorem d_M_init_57 : decode b_M_init 57 = .ok (.bipush 16, 2) := by decide +kernel
theorem d_M_init_59 : decode b_M_init 59 = .ok (.newarray .int, 2) := by decide +kernel
theorem d_M_init_61 : decode b_M_init 61 = .ok (.putfield 30, 3) := by decide +kernel
theorem d_M_init_64 : decode b_M_init 64 = .ok (.aload_n 0, 1) := by decide +kernel
theorem d_M_init_65 : decode b_M_init 65 = .ok (.bipush 9, 2) := by decide +kernel
theorem d_M_init_67 : decode b_M_init 67 = .ok (.newarray .int, 2) := by decide +kernel
theorem d_M_init_69 : decode b_M_init 69 = .ok (.putfield 33, 3) := by decide +kernel
theorem d_M_init_72 : decode b_M_init 72 = .ok (.return_, 1) := by decide +kernel
theorem d_M_thrown_0 : decode b_M_thrown 0 = .ok (.aload_n 0, 1) := by decide +kernel
theorem d_M_thrown_1 : decode b_M_thrown 1 = .ok (.getfield 36, 3) := by decide +kernel
theorem d_M_thrown_4 : decode b_M_thrown 4 = .ok (.ireturn, 1) := by decide +kernel
theorem d_M_set_IJJJJV_0 : decode b_M_set_IJJJJV 0 = .ok (.aload_n 0, 1) := by decide +kernel
theorem d_M_set_IJJJJV_1 : decode b_M_set_IJJJJV 1 = .ok (.iconst 0, 1) := by decide +kernel
theorem d_M_set_IJJJJV_2 : decode b_M_set_IJJJJV 2 = .ok (.putfield 36, 3) := by decide +kernel
theorem d_M_set_IJJJJV_5 : decode b_M_set_IJJJJV 5 = .ok (.aload_n 0, 1) := by decide +kernel
theorem d_M_set_IJJJJV_6 : decode b_M_set_IJJJJV 6 = .ok (.iload_n 1, 1) := by decide +kernel
theorem d_M_set_IJJJJV_7 : decode b_M_set_IJJJJV 7 = .ok (.invokevirtual 90, 3) := by decide +kernel
theorem d_M_set_IJJJJV_10 : decode b_M_set_IJJJJV 10 = .ok (.ifCond .eq 11, 3) := by decide +kernel
theorem d_M_set_IJJJJV_13 : decode b_M_set_IJJJJV 13 = .ok (.aload_n 0, 1) := by decide +kernel
theorem d_M_set_IJJJJV_14 : decode b_M_set_IJJJJV 14 = .ok (.iconst 1, 1) := by decide +kernel
theorem d_M_set_IJJJJV_15 : decode b_M_set_IJJJJV 15 = .ok (.putfield 36, 3) := by decide +kernel
theorem d_M_set_IJJJJV_18 : decode b_M_set_IJJJJV 18 = .ok (.goto 86, 3) := by decide +kernel
theorem d_M_set_IJJJJV_21 : decode b_M_set_IJJJJV 21 = .ok (.iconst 0, 1) := by decide +kernel
theorem d_M_set_IJJJJV_22 : decode b_M_set_IJJJJV 22 = .ok (.istore 10, 2) := by decide +kernel
theorem d_M_set_IJJJJV_24 : decode b_M_set_IJJJJV 24 = .ok (.iload 10, 2) := by decide +kernel
theorem d_M_set_IJJJJV_26 : decode b_M_set_IJJJJV 26 = .ok (.iconst 4, 1) := by decide +kernel
theorem d_M_set_IJJJJV_27 : decode b_M_set_IJJJJV 27 = .ok (.if_icmp .ge 77, 3) := by decide +kernel
theorem d_M_set_IJJJJV_30 : decode b_M_set_IJJJJV 30 = .ok (.iload 10, 2) := by decide +kernel
theorem d_M_set_IJJJJV_32 : decode b_M_set_IJJJJV 32 = .ok (.ifCond .ne 8, 3) := by decide +kernel
theorem d_M_set_IJJJJV_35 : decode b_M_set_IJJJJV 35 = .ok (.lload 8, 2) := by decide +kernel
theorem d_M_set_IJJJJV_37 : decode b_M_set_IJJJJV 37 = .ok (.goto 26, 3) := by decide +kernel
theorem d_M_set_IJJJJV_40 : decode b_M_set_IJJJJV 40 = .ok (.iload 10, 2) := by decide +kernel
theorem d_M_set_IJJJJV_42 : decode b_M_set_IJJJJV 42 = .ok (.iconst 1, 1) := by decide +kernel
theorem d_M_set_IJJJJV_43 : decode b_M_set_IJJJJV 43 = .ok (.if_icmp .ne 8, 3) := by decide +kernel
theorem d_M_set_IJJJJV_46 : decode b_M_set_IJJJJV 46 = .ok (.lload 6, 2) := by decide +kernel
theorem d_M_set_IJJJJV_48 : decode b_M_set_IJJJJV 48 = .ok (.goto 15, 3) := by decide +kernel
theorem d_M_set_IJJJJV_51 : decode b_M_set_IJJJJV 51 = .ok (.iload 10, 2) := by decide +kernel
theorem d_M_set_IJJJJV_53 : decode b_M_set_IJJJJV 53 = .ok (.iconst 2, 1) := by decide +kernel
theorem d_M_set_IJJJJV_54 : decode b_M_set_IJJJJV 54 = .ok (.if_icmp .ne 8, 3) := by decide +kernel
theorem d_M_set_IJJJJV_57 : decode b_M_set_IJJJJV 57 = .ok (.lload 4, 2) := by decide +kernel
theorem d_M_set_IJJJJV_59 : decode b_M_set_IJJJJV 59 = .ok (.goto 4, 3) := by decide +kernel
theorem d_M_set_IJJJJV_62 : decode b_M_set_IJJJJV 62 = .ok (.lload_n 2, 1) := by decide +kernel
theorem d_M_set_IJJJJV_63 : decode b_M_set_IJJJJV 63 = .ok (.lstore 11, 2) := by decide +kernel
theorem d_M_set_IJJJJV_65 : decode b_M_set_IJJJJV 65 = .ok (.aload_n 0, 1) := by decide +kernel
theorem d_M_set_IJJJJV_66 : decode b_M_set_IJJJJV 66 = .ok (.getfield 9, 3) := by decide +kernel
theorem d_M_set_IJJJJV_69 : decode b_M_set_IJJJJV 69 = .ok (.iload_n 1, 1) := by decide +kernel
theorem d_M_set_IJJJJV_70 : decode b_M_set_IJJJJV 70 = .ok (.aaload, 1) := by decide +kernel
theorem d_M_set_IJJJJV_71 : decode b_M_set_IJJJJV 71 = .ok (.iconst 2, 1) := by decide +kernel
theorem d_M_set_IJJJJV_72 : decode b_M_set_IJJJJV 72 = .ok (.iload 10, 2) := by decide +kernel
theorem d_M_set_IJJJJV_74 : decode b_M_set_IJJJJV 74 = .ok (.imul, 1) := by decide +kernel
theorem d_M_set_IJJJJV_75 : decode b_M_set_IJJJJV 75 = .ok (.lload 11, 2) := by decide +kernel
theorem d_M_set_IJJJJV_77 : decode b_M_set_IJJJJV 77 = .ok (.l2i, 1) := by decide +kernel
theorem d_M_set_IJJJJV_78 : decode b_M_set_IJJJJV 78 = .ok (.iastore, 1) := by decide +kernel
theorem d_M_set_IJJJJV_79 : decode b_M_set_IJJJJV 79 = .ok (.aload_n 0, 1) := by decide +kernel
theorem d_M_set_IJJJJV_80 : decode b_M_set_IJJJJV 80 = .ok (.getfield 9, 3) := by decide +kernel
theorem d_M_set_IJJJJV_83 : decode b_M_set_IJJJJV 83 = .ok (.iload_n 1, 1) := by decide +kernel
theorem d_M_set_IJJJJV_84 : decode b_M_set_IJJJJV 84 = .ok (.aaload, 1) := by decide +kernel
theorem d_M_set_IJJJJV_85 : decode b_M_set_IJJJJV 85 = .ok (.iconst 2, 1) := by decide +kernel
theorem d_M_set_IJJJJV_86 : decode b_M_set_IJJJJV 86 = .ok (.iload 10, 2) := by decide +kernel
theorem d_M_set_IJJJJV_88 : decode b_M_set_IJJJJV 88 = .ok (.imul, 1) := by decide +kernel
theorem d_M_set_IJJJJV_89 : decode b_M_set_IJJJJV 89 = .ok (.iconst 1, 1) := by decide +kernel
theorem d_M_set_IJJJJV_90 : decode b_M_set_IJJJJV 90 = .ok (.iadd, 1) := by decide +kernel
theorem d_M_set_IJJJJV_91 : decode b_M_set_IJJJJV 91 = .ok (.lload 11, 2) := by decide +kernel
theorem d_M_set_IJJJJV_93 : decode b_M_set_IJJJJV 93 = .ok (.bipush 32, 2) := by decide +kernel
theorem d_M_set_IJJJJV_95 : decode b_M_set_IJJJJV 95 = .ok (.lushr, 1) := by decide +kernel
theorem d_M_set_IJJJJV_96 : decode b_M_set_IJJJJV 96 = .ok (.l2i, 1) := by decide +kernel
theorem d_M_set_IJJJJV_97 : decode b_M_set_IJJJJV 97 = .ok (.iastore, 1) := by decide +kernel
theorem d_M_set_IJJJJV_98 : decode b_M_set_IJJJJV 98 = .ok (.iinc 10 1, 3) := by decide +kernel
theorem d_M_set_IJJJJV_101 : decode b_M_set_IJJJJV 101 = .ok (.goto (-77), 3) := by decide +kernel
theorem d_M_set_IJJJJV_104 : decode b_M_set_IJJJJV 104 = .ok (.return_, 1) := by decide +kernel
theorem d_M_out_0 : decode b_M_out 0 = .ok (.iload_n 1, 1) := by decide +kernel
theorem d_M_out_1 : decode b_M_out 1 = .ok (.ifCond .lt 9, 3) := by decide +kernel
theorem d_M_out_4 : decode b_M_out 4 = .ok (.iload_n 1, 1) := by decide +kernel
theorem d_M_out_5 : decode b_M_out 5 = .ok (.bipush 15, 2) := by decide +kernel
theorem d_M_out_7 : decode b_M_out 7 = .ok (.if_icmp .le 7, 3) := by decide +kernel
theorem d_M_out_10 : decode b_M_out 10 = .ok (.iconst 1, 1) := by decide +kernel
theorem d_M_out_11 : decode b_M_out 11 = .ok (.goto 4, 3) := by decide +kernel
theorem d_M_out_14 : decode b_M_out 14 = .ok (.iconst 0, 1) := by decide +kernel
theorem d_M_out_15 : decode b_M_out 15 = .ok (.ireturn, 1) := by decide +kernel
theorem d_M_get_0 : decode b_M_get 0 = .ok (.aload_n 0, 1) := by decide +kernel
theorem d_M_get_1 : decode b_M_get 1 = .ok (.iconst 0, 1) := by decide +kernel
theorem d_M_get_2 : decode b_M_get 2 = .ok (.putfield 36, 3) := by decide +kernel
theorem d_M_get_5 : decode b_M_get 5 = .ok (.aload_n 0, 1) := by decide +kernel
theorem d_M_get_6 : decode b_M_get 6 = .ok (.iload_n 1, 1) := by decide +kernel
theorem d_M_get_7 : decode b_M_get 7 = .ok (.invokevirtual 90, 3) := by decide +kernel
theorem d_M_get_10 : decode b_M_get 10 = .ok (.ifCond .ne 12, 3) := by decide +kernel
theorem d_M_get_13 : decode b_M_get 13 = .ok (.iload_n 2, 1) := by decide +kernel
theorem d_M_get_14 : decode b_M_get 14 = .ok (.ifCond .lt 8, 3) := by decide +kernel
theorem d_M_get_17 : decode b_M_get 17 = .ok (.iload_n 2, 1) := by decide +kernel
theorem d_M_get_18 : decode b_M_get 18 = .ok (.iconst 3, 1) := by decide +kernel
theorem d_M_get_19 : decode b_M_get 19 = .ok (.if_icmp .le 12, 3) := by decide +kernel
theorem d_M_get_22 : decode b_M_get 22 = .ok (.aload_n 0, 1) := by decide +kernel
theorem d_M_get_23 : decode b_M_get 23 = .ok (.iconst 1, 1) := by decide +kernel
theorem d_M_get_24 : decode b_M_get 24 = .ok (.invokevirtual 94, 3) := by decide +kernel
theorem d_M_get_27 : decode b_M_get 27 = .ok (.i2l, 1) := by decide +kernel
theorem d_M_get_28 : decode b_M_get 28 = .ok (.goto 13, 3) := by decide +kernel
theorem d_M_get_31 : decode b_M_get 31 = .ok (.aload_n 0, 1) := by decide +kernel
theorem d_M_get_32 : decode b_M_get 32 = .ok (.getfield 9, 3) := by decide +kernel
theorem d_M_get_35 : decode b_M_get 35 = .ok (.iload_n 1, 1) := by decide +kernel
theorem d_M_get_36 : decode b_M_get 36 = .ok (.aaload, 1) := by decide +kernel
theorem d_M_get_37 : decode b_M_get 37 = .ok (.iload_n 2, 1) := by decide +kernel
theorem d_M_get_38 : decode b_M_get 38 = .ok (.invokestatic 98, 3) := by decide +kernel
theorem d_M_get_41 : decode b_M_get 41 = .ok (.lreturn, 1) := by decide +kernel
theorem d_M_fail_0 : decode b_M_fail 0 = .ok (.aload_n 0, 1) := by decide +kernel
theorem d_M_fail_1 : decode b_M_fail 1 = .ok (.iload_n 1, 1) := by decide +kernel
theorem d_M_fail_2 : decode b_M_fail 2 = .ok (.putfield 36, 3) := by decide +kernel
theorem d_M_fail_5 : decode b_M_fail 5 = .ok (.iconst 0, 1) := by decide +kernel
theorem d_M_fail_6 : decode b_M_fail 6 = .ok (.ireturn, 1) := by decide +kernel
theorem d_M_part_0 : decode b_M_part 0 = .ok (.iconst 2, 1) := by decide +kernel
theorem d_M_part_1 : decode b_M_part 1 = .ok (.iconst 3, 1) := by decide +kernel
theorem d_M_part_2 : decode b_M_part 2 = .ok (.iload_n 1, 1) := by decide +kernel
theorem d_M_part_3 : decode b_M_part 3 = .ok (.isub, 1) := by decide +kernel
theorem d_M_part_4 : decode b_M_part 4 = .ok (.imul, 1) := by decide +kernel
theorem d_M_part_5 : decode b_M_part 5 = .ok (.istore_n 2, 1) := by decide +kernel
theorem d_M_part_6 : decode b_M_part 6 = .ok (.aload_n 0, 1) := by decide +kernel
theorem d_M_part_7 : decode b_M_part 7 = .ok (.iload_n 2, 1) := by decide +kernel
theorem d_M_part_8 : decode b_M_part 8 = .ok (.iconst 1, 1) := by decide +kernel
theorem d_M_part_9 : decode b_M_part 9 = .ok (.iadd, 1) := by decide +kernel
theorem d_M_part_10 : decode b_M_part 10 = .ok (.iaload, 1) := by decide +kernel
theorem d_M_part_11 : decode b_M_part 11 = .ok (.i2l, 1) := by decide +kernel
theorem d_M_part_12 : decode b_M_part 12 = .ok (.ldc2_w 40, 3) := by decide +kernel
theorem d_M_part_15 : decode b_M_part 15 = .ok (.land, 1) := by decide +kernel
theorem d_M_part_16 : decode b_M_part 16 = .ok (.bipush 32, 2) := by decide +kernel
theorem d_M_part_18 : decode b_M_part 18 = .ok (.lshl, 1) := by decide +kernel
theorem d_M_part_19 : decode b_M_part 19 = .ok (.aload_n 0, 1) := by decide +kernel
theorem d_M_part_20 : decode b_M_part 20 = .ok (.iload_n 2, 1) := by decide +kernel
theorem d_M_part_21 : decode b_M_part 21 = .ok (.iaload, 1) := by decide +kernel
theorem d_M_part_22 : decode b_M_part 22 = .ok (.i2l, 1) := by decide +kernel
theorem d_M_part_23 : decode b_M_part 23 = .ok (.ldc2_w 40, 3) := by decide +kernel
theorem d_M_part_26 : decode b_M_part 26 = .ok (.land, 1) := by decide +kernel
theorem d_M_part_27 : decode b_M_part 27 = .ok (.lor, 1) := by decide +kernel
theorem d_M_part_28 : decode b_M_part 28 = .ok (.lreturn, 1) := by decide +kernel
theorem d_M_two_0 : decode b_M_two 0 = .ok (.aload_n 0, 1) := by decide +kernel
theorem d_M_two_1 : decode b_M_two 1 = .ok (.iconst 0, 1) := by decide +kernel
theorem d_M_two_2 : decode b_M_two 2 = .ok (.putfield 36, 3) := by decide +kernel
theorem d_M_two_5 : decode b_M_two 5 = .ok (.iload_n 1, 1) := by decide +kernel
theorem d_M_two_6 : decode b_M_two 6 = .ok (.ifCond .lt 34, 3) := by decide +kernel
theorem d_M_two_9 : decode b_M_two 9 = .ok (.iload_n 1, 1) := by decide +kernel
theorem d_M_two_10 : decode b_M_two 10 = .ok (.bipush 15, 2) := by decide +kernel
theorem d_M_two_12 : decode b_M_two 12 = .ok (.if_icmp .gt 28, 3) := by decide +kernel
theorem d_M_two_15 : decode b_M_two 15 = .ok (.aload_n 0, 1) := by decide +kernel
theorem d_M_two_16 : decode b_M_two 16 = .ok (.iload_n 2, 1) := by decide +kernel
theorem d_M_two_17 : decode b_M_two 17 = .ok (.invokevirtual 90, 3) := by decide +kernel
theorem d_M_two_20 : decode b_M_two 20 = .ok (.ifCond .ne 20, 3) := by decide +kernel
theorem d_M_two_23 : decode b_M_two 23 = .ok (.aload_n 0, 1) := by decide +kernel
theorem d_M_two_24 : decode b_M_two 24 = .ok (.iload_n 3, 1) := by decide +kernel
theorem d_M_two_25 : decode b_M_two 25 = .ok (.invokevirtual 90, 3) := by decide +kernel
theorem d_M_two_28 : decode b_M_two 28 = .ok (.ifCond .ne 12, 3) := by decide +kernel
theorem d_M_two_31 : decode b_M_two 31 = .ok (.aload_n 0, 1) := by decide +kernel
theorem d_M_two_32 : decode b_M_two 32 = .ok (.iload 4, 2) := by decide +kernel
theorem d_M_two_34 : decode b_M_two 34 = .ok (.invokevirtual 90, 3) := by decide +kernel
theorem d_M_two_37 : decode b_M_two 37 = .ok (.ifCond .eq 11, 3) := by decide +kernel
theorem d_M_two_40 : decode b_M_two 40 = .ok (.aload_n 0, 1) := by decide +kernel
theorem d_M_two_41 : decode b_M_two 41 = .ok (.iconst 1, 1) := by decide +kernel
theorem d_M_two_42 : decode b_M_two 42 = .ok (.putfield 36, 3) := by decide +kernel
theorem d_M_two_45 : decode b_M_two 45 = .ok (.goto 34, 3) := by decide +kernel
theorem d_M_two_48 : decode b_M_two 48 = .ok (.aload_n 0, 1) := by decide +kernel
theorem d_M_two_49 : decode b_M_two 49 = .ok (.iload_n 1, 1) := by decide +kernel
theorem d_M_two_50 : decode b_M_two 50 = .ok (.aload_n 0, 1) := by decide +kernel
theorem d_M_two_51 : decode b_M_two 51 = .ok (.getfield 9, 3) := by decide +kernel
theorem d_M_two_54 : decode b_M_two 54 = .ok (.iload_n 3, 1) := by decide +kernel
theorem d_M_two_55 : decode b_M_two 55 = .ok (.aaload, 1) := by decide +kernel
theorem d_M_two_56 : decode b_M_two 56 = .ok (.aload_n 0, 1) := by decide +kernel
theorem d_M_two_57 : decode b_M_two 57 = .ok (.getfield 9, 3) := by decide +kernel
theorem d_M_two_60 : decode b_M_two 60 = .ok (.iload 4, 2) := by decide +kernel
theorem d_M_two_62 : decode b_M_two 62 = .ok (.aaload, 1) := by decide +kernel
theorem d_M_two_63 : decode b_M_two 63 = .ok (.invokevirtual 102, 3) := by decide +kernel
theorem d_M_two_66 : decode b_M_two 66 = .ok (.aload_n 0, 1) := by decide +kernel
theorem d_M_two_67 : decode b_M_two 67 = .ok (.getfield 9, 3) := by decide +kernel
theorem d_M_two_70 : decode b_M_two 70 = .ok (.iload_n 2, 1) := by decide +kernel
theorem d_M_two_71 : decode b_M_two 71 = .ok (.aaload, 1) := by decide +kernel
theorem d_M_two_72 : decode b_M_two 72 = .ok (.aload_n 0, 1) := by decide +kernel
theorem d_M_two_73 : decode b_M_two 73 = .ok (.getfield 21, 3) := by decide +kernel
theorem d_M_two_76 : decode b_M_two 76 = .ok (.invokestatic 58, 3) := by decide +kernel
theorem d_M_two_79 : decode b_M_two 79 = .ok (.return_, 1) := by decide +kernel
theorem d_M_work_0 : decode b_M_work 0 = .ok (.iload_n 1, 1) := by decide +kernel
theorem d_M_work_1 : decode b_M_work 1 = .ok (.iconst 2, 1) := by decide +kernel
theorem d_M_work_2 : decode b_M_work 2 = .ok (.if_icmp .le 20, 3) := by decide +kernel
theorem d_M_work_5 : decode b_M_work 5 = .ok (.iload_n 1, 1) := by decide +kernel
theorem d_M_work_6 : decode b_M_work 6 = .ok (.bipush 7, 2) := by decide +kernel
theorem d_M_work_8 : decode b_M_work 8 = .ok (.if_icmp .ge 14, 3) := by decide +kernel
theorem d_M_work_11 : decode b_M_work 11 = .ok (.aload_n 3, 1) := by decide +kernel
theorem d_M_work_12 : decode b_M_work 12 = .ok (.invokestatic 106, 3) := by decide +kernel
theorem d_M_work_15 : decode b_M_work 15 = .ok (.ifCond .eq 7, 3) := by decide +kernel
theorem d_M_work_18 : decode b_M_work 18 = .ok (.iconst 1, 1) := by decide +kernel
theorem d_M_work_19 : decode b_M_work 19 = .ok (.goto 4, 3) := by decide +kernel
theorem d_M_work_22 : decode b_M_work 22 = .ok (.iconst 0, 1) := by decide +kernel
theorem d_M_work_23 : decode b_M_work 23 = .ok (.istore 4, 2) := by decide +kernel
theorem d_M_work_25 : decode b_M_work 25 = .ok (.iload 4, 2) := by decide +kernel
theorem d_M_work_27 : decode b_M_work 27 = .ok (.ifCond .eq 13, 3) := by decide +kernel
theorem d_M_work_30 : decode b_M_work 30 = .ok (.aload_n 0, 1) := by decide +kernel
theorem d_M_work_31 : decode b_M_work 31 = .ok (.getfield 21, 3) := by decide +kernel
theorem d_M_work_34 : decode b_M_work 34 = .ok (.invokestatic 42, 3) := by decide +kernel
theorem d_M_work_37 : decode b_M_work 37 = .ok (.goto 431, 3) := by decide +kernel
theorem d_M_work_40 : decode b_M_work 40 = .ok (.iload_n 1, 1) := by decide +kernel
theorem d_M_work_41 : decode b_M_work 41 = .ok (.ifCond .ne 17, 3) := by decide +kernel
theorem d_M_work_44 : decode b_M_work 44 = .ok (.aload_n 0, 1) := by decide +kernel
theorem d_M_work_45 : decode b_M_work 45 = .ok (.getfield 21, 3) := by decide +kernel
theorem d_M_work_48 : decode b_M_work 48 = .ok (.aload_n 2, 1) := by decide +kernel
theorem d_M_work_49 : decode b_M_work 49 = .ok (.aload_n 3, 1) := by decide +kernel
theorem d_M_work_50 : decode b_M_work 50 = .ok (.invokestatic 109, 3) := by decide +kernel
theorem d_M_work_53 : decode b_M_work 53 = .ok (.istore 5, 2) := by decide +kernel
theorem d_M_work_55 : decode b_M_work 55 = .ok (.goto 413, 3) := by decide +kernel
theorem d_M_work_58 : decode b_M_work 58 = .ok (.iload_n 1, 1) := by decide +kernel
theorem d_M_work_59 : decode b_M_work 59 = .ok (.iconst 1, 1) := by decide +kernel
theorem d_M_work_60 : decode b_M_work 60 = .ok (.if_icmp .ne 15, 3) := by decide +kernel
theorem d_M_work_63 : decode b_M_work 63 = .ok (.aload_n 0, 1) := by decide +kernel
theorem d_M_work_64 : decode b_M_work 64 = .ok (.getfield 21, 3) := by decide +kernel
theorem d_M_work_67 : decode b_M_work 67 = .ok (.aload_n 2, 1) := by decide +kernel
theorem d_M_work_68 : decode b_M_work 68 = .ok (.aload_n 3, 1) := by decide +kernel
theorem d_M_work_69 : decode b_M_work 69 = .ok (.invokestatic 46, 3) := by decide +kernel
theorem d_M_work_72 : decode b_M_work 72 = .ok (.goto 396, 3) := by decide +kernel
theorem d_M_work_75 : decode b_M_work 75 = .ok (.iload_n 1, 1) := by decide +kernel
theorem d_M_work_76 : decode b_M_work 76 = .ok (.iconst 2, 1) := by decide +kernel
theorem d_M_work_77 : decode b_M_work 77 = .ok (.if_icmp .ne 23, 3) := by decide +kernel
theorem d_M_work_80 : decode b_M_work 80 = .ok (.aload_n 0, 1) := by decide +kernel
theorem d_M_work_81 : decode b_M_work 81 = .ok (.aload_n 2, 1) := by decide +kernel
theorem d_M_work_82 : decode b_M_work 82 = .ok (.aload_n 3, 1) := by decide +kernel
theorem d_M_work_83 : decode b_M_work 83 = .ok (.invokevirtual 75, 3) := by decide +kernel
theorem d_M_work_86 : decode b_M_work 86 = .ok (.aload_n 0, 1) := by decide +kernel
theorem d_M_work_87 : decode b_M_work 87 = .ok (.getfield 21, 3) := by decide +kernel
theorem d_M_work_90 : decode b_M_work 90 = .ok (.aload_n 0, 1) := by decide +kernel
theorem d_M_work_91 : decode b_M_work 91 = .ok (.getfield 27, 3) := by decide +kernel
theorem d_M_work_94 : decode b_M_work 94 = .ok (.invokestatic 68, 3) := by decide +kernel
theorem d_M_work_97 : decode b_M_work 97 = .ok (.goto 371, 3) := by decide +kernel
theorem d_M_work_100 : decode b_M_work 100 = .ok (.iload_n 1, 1) := by decide +kernel
theorem d_M_work_101 : decode b_M_work 101 = .ok (.iconst 5, 1) := by decide +kernel
theorem d_M_work_102 : decode b_M_work 102 = .ok (.if_icmp .ge 35, 3) := by decide +kernel
theorem d_M_work_105 : decode b_M_work 105 = .ok (.aload_n 0, 1) := by decide +kernel
theorem d_M_work_106 : decode b_M_work 106 = .ok (.aload_n 2, 1) := by decide +kernel
theorem d_M_work_107 : decode b_M_work 107 = .ok (.aload_n 3, 1) := by decide +kernel
theorem d_M_work_108 : decode b_M_work 108 = .ok (.invokevirtual 65, 3) := by decide +kernel
theorem d_M_work_111 : decode b_M_work 111 = .ok (.aload_n 0, 1) := by decide +kernel
theorem d_M_work_112 : decode b_M_work 112 = .ok (.getfield 21, 3) := by decide +kernel
theorem d_M_work_115 : decode b_M_work 115 = .ok (.iload_n 1, 1) := by decide +kernel
theorem d_M_work_116 : decode b_M_work 116 = .ok (.iconst 3, 1) := by decide +kernel
theorem d_M_work_117 : decode b_M_work 117 = .ok (.if_icmp .ne 10, 3) := by decide +kernel
theorem d_M_work_120 : decode b_M_work 120 = .ok (.aload_n 0, 1) := by decide +kernel
theorem d_M_work_121 : decode b_M_work 121 = .ok (.getfield 30, 3) := by decide +kernel
theorem d_M_work_124 : decode b_M_work 124 = .ok (.goto 7, 3) := by decide +kernel
theorem d_M_work_127 : decode b_M_work 127 = .ok (.aload_n 0, 1) := by decide +kernel
theorem d_M_work_128 : decode b_M_work 128 = .ok (.getfield 33, 3) := by decide +kernel
theorem d_M_work_131 : decode b_M_work 131 = .ok (.invokestatic 68, 3) := by decide +kernel
theorem d_M_work_134 : decode b_M_work 134 = .ok (.goto 334, 3) := by decide +kernel
theorem d_M_work_137 : decode b_M_work 137 = .ok (.iload_n 1, 1) := by decide +kernel
theorem d_M_work_138 : decode b_M_work 138 = .ok (.bipush 7, 2) := by decide +kernel
theorem d_M_work_140 : decode b_M_work 140 = .ok (.if_icmp .ge 27, 3) := by decide +kernel
theorem d_M_work_143 : decode b_M_work 143 = .ok (.aload_n 0, 1) := by decide +kernel
theorem d_M_work_144 : decode b_M_work 144 = .ok (.aload_n 0, 1) := by decide +kernel
theorem d_M_work_145 : decode b_M_work 145 = .ok (.getfield 21, 3) := by decide +kernel
theorem d_M_work_148 : decode b_M_work 148 = .ok (.aload_n 2, 1) := by decide +kernel
theorem d_M_work_149 : decode b_M_work 149 = .ok (.aload_n 3, 1) := by decide +kernel
theorem d_M_work_150 : decode b_M_work 150 = .ok (.iload_n 1, 1) := by decide +kernel
theorem d_M_work_151 : decode b_M_work 151 = .ok (.bipush 6, 2) := by decide +kernel
theorem d_M_work_153 : decode b_M_work 153 = .ok (.if_icmp .ne 7, 3) := by decide +kernel
theorem d_M_work_156 : decode b_M_work 156 = .ok (.iconst 1, 1) := by decide +kernel
theorem d_M_work_157 : decode b_M_work 157 = .ok (.goto 4, 3) := by decide +kernel
theorem d_M_work_160 : decode b_M_work 160 = .ok (.iconst 0, 1) := by decide +kernel
theorem d_M_work_161 : decode b_M_work 161 = .ok (.invokevirtual 113, 3) := by decide +kernel
theorem d_M_work_164 : decode b_M_work 164 = .ok (.goto 304, 3) := by decide +kernel
theorem d_M_work_167 : decode b_M_work 167 = .ok (.iload_n 1, 1) := by decide +kernel
theorem d_M_work_168 : decode b_M_work 168 = .ok (.bipush 7, 2) := by decide +kernel
theorem d_M_work_170 : decode b_M_work 170 = .ok (.if_icmp .ne 12, 3) := by decide +kernel
theorem d_M_work_173 : decode b_M_work 173 = .ok (.aload_n 0, 1) := by decide +kernel
theorem d_M_work_174 : decode b_M_work 174 = .ok (.aload_n 2, 1) := by decide +kernel
theorem d_M_work_175 : decode b_M_work 175 = .ok (.aload_n 3, 1) := by decide +kernel
theorem d_M_work_176 : decode b_M_work 176 = .ok (.invokevirtual 117, 3) := by decide +kernel
theorem d_M_work_179 : decode b_M_work 179 = .ok (.goto 289, 3) := by decide +kernel
theorem d_M_work_182 : decode b_M_work 182 = .ok (.iload_n 1, 1) := by decide +kernel
theorem d_M_work_183 : decode b_M_work 183 = .ok (.bipush 8, 2) := by decide +kernel
theorem d_M_work_185 : decode b_M_work 185 = .ok (.if_icmp .ne 12, 3) := by decide +kernel
theorem d_M_work_188 : decode b_M_work 188 = .ok (.aload_n 0, 1) := by decide +kernel
theorem d_M_work_189 : decode b_M_work 189 = .ok (.aload_n 2, 1) := by decide +kernel
theorem d_M_work_190 : decode b_M_work 190 = .ok (.aload_n 3, 1) := by decide +kernel
theorem d_M_work_191 : decode b_M_work 191 = .ok (.invokevirtual 120, 3) := by decide +kernel
theorem d_M_work_194 : decode b_M_work 194 = .ok (.goto 274, 3) := by decide +kernel
theorem d_M_work_197 : decode b_M_work 197 = .ok (.iload_n 1, 1) := by decide +kernel
theorem d_M_work_198 : decode b_M_work 198 = .ok (.bipush 12, 2) := by decide +kernel
theorem d_M_work_200 : decode b_M_work 200 = .ok (.if_icmp .ge 135, 3) := by decide +kernel
theorem d_M_work_203 : decode b_M_work 203 = .ok (.aload_n 2, 1) := by decide +kernel
theorem d_M_work_204 : decode b_M_work 204 = .ok (.ldc2_w 123, 3) := by decide +kernel
theorem d_M_work_207 : decode b_M_work 207 = .ok (.invokestatic 84, 3) := by decide +kernel
theorem d_M_work_210 : decode b_M_work 210 = .ok (.lstore 5, 2) := by decide +kernel
theorem d_M_work_212 : decode b_M_work 212 = .ok (.iload_n 1, 1) := by decide +kernel
theorem d_M_work_213 : decode b_M_work 213 = .ok (.bipush 11, 2) := by decide +kernel
theorem d_M_work_215 : decode b_M_work 215 = .ok (.if_icmp .ne 13, 3) := by decide +kernel
theorem d_M_work_218 : decode b_M_work 218 = .ok (.aload_n 3, 1) := by decide +kernel
theorem d_M_work_219 : decode b_M_work 219 = .ok (.sipush 255, 3) := by decide +kernel
theorem d_M_work_222 : decode b_M_work 222 = .ok (.invokestatic 78, 3) := by decide +kernel
theorem d_M_work_225 : decode b_M_work 225 = .ok (.goto 4, 3) := by decide +kernel
theorem d_M_work_228 : decode b_M_work 228 = .ok (.iconst 0, 1) := by decide +kernel
theorem d_M_work_229 : decode b_M_work 229 = .ok (.istore 7, 2) := by decide +kernel
theorem d_M_work_231 : decode b_M_work 231 = .ok (.aload_n 0, 1) := by decide +kernel
theorem d_M_work_232 : decode b_M_work 232 = .ok (.getfield 21, 3) := by decide +kernel
theorem d_M_work_235 : decode b_M_work 235 = .ok (.invokestatic 42, 3) := by decide +kernel
theorem d_M_work_238 : decode b_M_work 238 = .ok (.iconst 0, 1) := by decide +kernel
theorem d_M_work_239 : decode b_M_work 239 = .ok (.istore 8, 2) := by decide +kernel
theorem d_M_work_241 : decode b_M_work 241 = .ok (.iload 8, 2) := by decide +kernel
theorem d_M_work_243 : decode b_M_work 243 = .ok (.sipush 256, 3) := by decide +kernel
theorem d_M_work_246 : decode b_M_work 246 = .ok (.if_icmp .ge 86, 3) := by decide +kernel
theorem d_M_work_249 : decode b_M_work 249 = .ok (.iload_n 1, 1) := by decide +kernel
theorem d_M_work_250 : decode b_M_work 250 = .ok (.bipush 9, 2) := by decide +kernel
theorem d_M_work_252 : decode b_M_work 252 = .ok (.if_icmp .ne 12, 3) := by decide +kernel
theorem d_M_work_255 : decode b_M_work 255 = .ok (.iload 8, 2) := by decide +kernel
theorem d_M_work_257 : decode b_M_work 257 = .ok (.i2l, 1) := by decide +kernel
theorem d_M_work_258 : decode b_M_work 258 = .ok (.lload 5, 2) := by decide +kernel
theorem d_M_work_260 : decode b_M_work 260 = .ok (.lsub, 1) := by decide +kernel
theorem d_M_work_261 : decode b_M_work 261 = .ok (.goto 9, 3) := by decide +kernel
theorem d_M_work_264 : decode b_M_work 264 = .ok (.iload 8, 2) := by decide +kernel
theorem d_M_work_266 : decode b_M_work 266 = .ok (.i2l, 1) := by decide +kernel
theorem d_M_work_267 : decode b_M_work 267 = .ok (.lload 5, 2) := by decide +kernel
theorem d_M_work_269 : decode b_M_work 269 = .ok (.ladd, 1) := by decide +kernel
theorem d_M_work_270 : decode b_M_work 270 = .ok (.lstore 9, 2) := by decide +kernel
theorem d_M_work_272 : decode b_M_work 272 = .ok (.lload 9, 2) := by decide +kernel
theorem d_M_work_274 : decode b_M_work 274 = .ok (.lconst 0, 1) := by decide +kernel
theorem d_M_work_275 : decode b_M_work 275 = .ok (.lcmp, 1) := by decide +kernel
theorem d_M_work_276 : decode b_M_work 276 = .ok (.ifCond .ge 7, 3) := by decide +kernel
theorem d_M_work_279 : decode b_M_work 279 = .ok (.iconst 0, 1) := by decide +kernel
theorem d_M_work_280 : decode b_M_work 280 = .ok (.goto 24, 3) := by decide +kernel
theorem d_M_work_283 : decode b_M_work 283 = .ok (.lload 9, 2) := by decide +kernel
theorem d_M_work_285 : decode b_M_work 285 = .ok (.ldc2_w 125, 3) := by decide +kernel
theorem d_M_work_288 : decode b_M_work 288 = .ok (.lcmp, 1) := by decide +kernel
theorem d_M_work_289 : decode b_M_work 289 = .ok (.ifCond .le 8, 3) := by decide +kernel
theorem d_M_work_292 : decode b_M_work 292 = .ok (.iload 7, 2) := by decide +kernel
theorem d_M_work_294 : decode b_M_work 294 = .ok (.goto 10, 3) := by decide +kernel
theorem d_M_work_297 : decode b_M_work 297 = .ok (.aload_n 3, 1) := by decide +kernel
theorem d_M_work_298 : decode b_M_work 298 = .ok (.lload 9, 2) := by decide +kernel
theorem d_M_work_300 : decode b_M_work 300 = .ok (.l2i, 1) := by decide +kernel
theorem d_M_work_301 : decode b_M_work 301 = .ok (.invokestatic 78, 3) := by decide +kernel
theorem d_M_work_304 : decode b_M_work 304 = .ok (.istore 11, 2) := by decide +kernel
theorem d_M_work_306 : decode b_M_work 306 = .ok (.aload_n 0, 1) := by decide +kernel
theorem d_M_work_307 : decode b_M_work 307 = .ok (.getfield 21, 3) := by decide +kernel
theorem d_M_work_310 : decode b_M_work 310 = .ok (.iload 8, 2) := by decide +kernel
theorem d_M_work_312 : decode b_M_work 312 = .ok (.iconst 5, 1) := by decide +kernel
theorem d_M_work_313 : decode b_M_work 313 = .ok (.ishr, 1) := by decide +kernel
theorem d_M_work_314 : decode b_M_work 314 = .ok (.dup2, 1) := by decide +kernel
theorem d_M_work_315 : decode b_M_work 315 = .ok (.iaload, 1) := by decide +kernel
theorem d_M_work_316 : decode b_M_work 316 = .ok (.iload 11, 2) := by decide +kernel
theorem d_M_work_318 : decode b_M_work 318 = .ok (.iload 8, 2) := by decide +kernel
theorem d_M_work_320 : decode b_M_work 320 = .ok (.bipush 31, 2) := by decide +kernel
theorem d_M_work_322 : decode b_M_work 322 = .ok (.iand, 1) := by decide +kernel
theorem d_M_work_323 : decode b_M_work 323 = .ok (.ishl, 1) := by decide +kernel
theorem d_M_work_324 : decode b_M_work 324 = .ok (.ior, 1) := by decide +kernel
theorem d_M_work_325 : decode b_M_work 325 = .ok (.iastore, 1) := by decide +kernel
theorem d_M_work_326 : decode b_M_work 326 = .ok (.iinc 8 1, 3) := by decide +kernel
theorem d_M_work_329 : decode b_M_work 329 = .ok (.goto (-88), 3) := by decide +kernel
theorem d_M_work_332 : decode b_M_work 332 = .ok (.goto 136, 3) := by decide +kernel
theorem d_M_work_335 : decode b_M_work 335 = .ok (.iload_n 1, 1) := by decide +kernel
theorem d_M_work_336 : decode b_M_work 336 = .ok (.bipush 12, 2) := by decide +kernel
theorem d_M_work_338 : decode b_M_work 338 = .ok (.if_icmp .ne 62, 3) := by decide +kernel
theorem d_M_work_341 : decode b_M_work 341 = .ok (.aload_n 2, 1) := by decide +kernel
theorem d_M_work_342 : decode b_M_work 342 = .ok (.ldc2_w 127, 3) := by decide +kernel
theorem d_M_work_345 : decode b_M_work 345 = .ok (.invokestatic 84, 3) := by decide +kernel
theorem d_M_work_348 : decode b_M_work 348 = .ok (.lstore 5, 2) := by decide +kernel
theorem d_M_work_350 : decode b_M_work 350 = .ok (.bipush 31, 2) := by decide +kernel
theorem d_M_work_352 : decode b_M_work 352 = .ok (.lload 5, 2) := by decide +kernel
theorem d_M_work_354 : decode b_M_work 354 = .ok (.l2i, 1) := by decide +kernel
theorem d_M_work_355 : decode b_M_work 355 = .ok (.isub, 1) := by decide +kernel
theorem d_M_work_356 : decode b_M_work 356 = .ok (.istore 7, 2) := by decide +kernel
theorem d_M_work_358 : decode b_M_work 358 = .ok (.aload_n 0, 1) := by decide +kernel
theorem d_M_work_359 : decode b_M_work 359 = .ok (.getfield 21, 3) := by decide +kernel
theorem d_M_work_362 : decode b_M_work 362 = .ok (.lload 5, 2) := by decide +kernel
theorem d_M_work_364 : decode b_M_work 364 = .ok (.ldc2_w 82, 3) := by decide +kernel
theorem d_M_work_367 : decode b_M_work 367 = .ok (.lcmp, 1) := by decide +kernel
theorem d_M_work_368 : decode b_M_work 368 = .ok (.ifCond .le 7, 3) := by decide +kernel
theorem d_M_work_371 : decode b_M_work 371 = .ok (.lconst 0, 1) := by decide +kernel
theorem d_M_work_372 : decode b_M_work 372 = .ok (.goto 22, 3) := by decide +kernel
theorem d_M_work_375 : decode b_M_work 375 = .ok (.aload_n 3, 1) := by decide +kernel
theorem d_M_work_376 : decode b_M_work 376 = .ok (.iload 7, 2) := by decide +kernel
theorem d_M_work_378 : decode b_M_work 378 = .ok (.iconst 4, 1) := by decide +kernel
theorem d_M_work_379 : decode b_M_work 379 = .ok (.idiv, 1) := by decide +kernel
theorem d_M_work_380 : decode b_M_work 380 = .ok (.iaload, 1) := by decide +kernel
theorem d_M_work_381 : decode b_M_work 381 = .ok (.bipush 8, 2) := by decide +kernel
theorem d_M_work_383 : decode b_M_work 383 = .ok (.iload 7, 2) := by decide +kernel
theorem d_M_work_385 : decode b_M_work 385 = .ok (.iconst 4, 1) := by decide +kernel
theorem d_M_work_386 : decode b_M_work 386 = .ok (.irem, 1) := by decide +kernel
theorem d_M_work_387 : decode b_M_work 387 = .ok (.imul, 1) := by decide +kernel
theorem d_M_work_388 : decode b_M_work 388 = .ok (.iushr, 1) := by decide +kernel
theorem d_M_work_389 : decode b_M_work 389 = .ok (.sipush 255, 3) := by decide +kernel
theorem d_M_work_392 : decode b_M_work 392 = .ok (.iand, 1) := by decide +kernel
theorem d_M_work_393 : decode b_M_work 393 = .ok (.i2l, 1) := by decide +kernel
theorem d_M_work_394 : decode b_M_work 394 = .ok (.invokestatic 71, 3) := by decide +kernel
theorem d_M_work_397 : decode b_M_work 397 = .ok (.goto 71, 3) := by decide +kernel
theorem d_M_work_400 : decode b_M_work 400 = .ok (.iconst 0, 1) := by decide +kernel
theorem d_M_work_401 : decode b_M_work 401 = .ok (.istore 5, 2) := by decide +kernel
theorem d_M_work_403 : decode b_M_work 403 = .ok (.iload 5, 2) := by decide +kernel
theorem d_M_work_405 : decode b_M_work 405 = .ok (.bipush 8, 2) := by decide +kernel
theorem d_M_work_407 : decode b_M_work 407 = .ok (.if_icmp .ge 61, 3) := by decide +kernel
theorem d_M_work_410 : decode b_M_work 410 = .ok (.aload_n 0, 1) := by decide +kernel
theorem d_M_work_411 : decode b_M_work 411 = .ok (.getfield 21, 3) := by decide +kernel
theorem d_M_work_414 : decode b_M_work 414 = .ok (.iload 5, 2) := by decide +kernel
theorem d_M_work_416 : decode b_M_work 416 = .ok (.iload_n 1, 1) := by decide +kernel
theorem d_M_work_417 : decode b_M_work 417 = .ok (.bipush 13, 2) := by decide +kernel
theorem d_M_work_419 : decode b_M_work 419 = .ok (.if_icmp .ne 15, 3) := by decide +kernel
theorem d_M_work_422 : decode b_M_work 422 = .ok (.aload_n 2, 1) := by decide +kernel
theorem d_M_work_423 : decode b_M_work 423 = .ok (.iload 5, 2) := by decide +kernel
theorem d_M_work_425 : decode b_M_work 425 = .ok (.iaload, 1) := by decide +kernel
theorem d_M_work_426 : decode b_M_work 426 = .ok (.aload_n 3, 1) := by decide +kernel
theorem d_M_work_427 : decode b_M_work 427 = .ok (.iload 5, 2) := by decide +kernel
theorem d_M_work_429 : decode b_M_work 429 = .ok (.iaload, 1) := by decide +kernel
theorem d_M_work_430 : decode b_M_work 430 = .ok (.iand, 1) := by decide +kernel
theorem d_M_work_431 : decode b_M_work 431 = .ok (.goto 30, 3) := by decide +kernel
theorem d_M_work_434 : decode b_M_work 434 = .ok (.iload_n 1, 1) := by decide +kernel
theorem d_M_work_435 : decode b_M_work 435 = .ok (.bipush 14, 2) := by decide +kernel
theorem d_M_work_437 : decode b_M_work 437 = .ok (.if_icmp .ne 15, 3) := by decide +kernel
theorem d_M_work_440 : decode b_M_work 440 = .ok (.aload_n 2, 1) := by decide +kernel
theorem d_M_work_441 : decode b_M_work 441 = .ok (.iload 5, 2) := by decide +kernel
theorem d_M_work_443 : decode b_M_work 443 = .ok (.iaload, 1) := by decide +kernel
theorem d_M_work_444 : decode b_M_work 444 = .ok (.aload_n 3, 1) := by decide +kernel
theorem d_M_work_445 : decode b_M_work 445 = .ok (.iload 5, 2) := by decide +kernel
theorem d_M_work_447 : decode b_M_work 447 = .ok (.iaload, 1) := by decide +kernel
theorem d_M_work_448 : decode b_M_work 448 = .ok (.ior, 1) := by decide +kernel
theorem d_M_work_449 : decode b_M_work 449 = .ok (.goto 12, 3) := by decide +kernel
theorem d_M_work_452 : decode b_M_work 452 = .ok (.aload_n 2, 1) := by decide +kernel
theorem d_M_work_453 : decode b_M_work 453 = .ok (.iload 5, 2) := by decide +kernel
theorem d_M_work_455 : decode b_M_work 455 = .ok (.iaload, 1) := by decide +kernel
theorem d_M_work_456 : decode b_M_work 456 = .ok (.aload_n 3, 1) := by decide +kernel
theorem d_M_work_457 : decode b_M_work 457 = .ok (.iload 5, 2) := by decide +kernel
theorem d_M_work_459 : decode b_M_work 459 = .ok (.iaload, 1) := by decide +kernel
theorem d_M_work_460 : decode b_M_work 460 = .ok (.ixor, 1) := by decide +kernel
theorem d_M_work_461 : decode b_M_work 461 = .ok (.iastore, 1) := by decide +kernel
theorem d_M_work_462 : decode b_M_work 462 = .ok (.iinc 5 1, 3) := by decide +kernel
theorem d_M_work_465 : decode b_M_work 465 = .ok (.goto (-62), 3) := by decide +kernel
theorem d_M_work_468 : decode b_M_work 468 = .ok (.return_, 1) := by decide +kernel
theorem d_M_zero_0 : decode b_M_zero 0 = .ok (.iconst 0, 1) := by decide +kernel
theorem d_M_zero_1 : decode b_M_zero 1 = .ok (.istore_n 1, 1) := by decide +kernel
theorem d_M_zero_2 : decode b_M_zero 2 = .ok (.iload_n 1, 1) := by decide +kernel
theorem d_M_zero_3 : decode b_M_zero 3 = .ok (.bipush 8, 2) := by decide +kernel
theorem d_M_zero_5 : decode b_M_zero 5 = .ok (.if_icmp .ge 17, 3) := by decide +kernel
theorem d_M_zero_8 : decode b_M_zero 8 = .ok (.aload_n 0, 1) := by decide +kernel
theorem d_M_zero_9 : decode b_M_zero 9 = .ok (.iload_n 1, 1) := by decide +kernel
theorem d_M_zero_10 : decode b_M_zero 10 = .ok (.iaload, 1) := by decide +kernel
theorem d_M_zero_11 : decode b_M_zero 11 = .ok (.ifCond .eq 5, 3) := by decide +kernel
theorem d_M_zero_14 : decode b_M_zero 14 = .ok (.iconst 0, 1) := by decide +kernel
theorem d_M_zero_15 : decode b_M_zero 15 = .ok (.ireturn, 1) := by decide +kernel
theorem d_M_zero_16 : decode b_M_zero 16 = .ok (.iinc 1 1, 3) := by decide +kernel
theorem d_M_zero_19 : decode b_M_zero 19 = .ok (.goto (-17), 3) := by decide +kernel
theorem d_M_zero_22 : decode b_M_zero 22 = .ok (.iconst 1, 1) := by decide +kernel
theorem d_M_zero_23 : decode b_M_zero 23 = .ok (.ireturn, 1) := by decide +kernel
theorem d_M_clear_0 : decode b_M_clear 0 = .ok (.iconst 0, 1) := by decide +kernel
theorem d_M_clear_1 : decode b_M_clear 1 = .ok (.istore_n 1, 1) := by decide +kernel
theorem d_M_clear_2 : decode b_M_clear 2 = .ok (.iload_n 1, 1) := by decide +kernel
theorem d_M_clear_3 : decode b_M_clear 3 = .ok (.bipush 8, 2) := by decide +kernel
theorem d_M_clear_5 : decode b_M_clear 5 = .ok (.if_icmp .ge 13, 3) := by decide +kernel
theorem d_M_clear_8 : decode b_M_clear 8 = .ok (.aload_n 0, 1) := by decide +kernel
theorem d_M_clear_9 : decode b_M_clear 9 = .ok (.iload_n 1, 1) := by decide +kernel
theorem d_M_clear_10 : decode b_M_clear 10 = .ok (.iconst 0, 1) := by decide +kernel
theorem d_M_clear_11 : decode b_M_clear 11 = .ok (.iastore, 1) := by decide +kernel
theorem d_M_clear_12 : decode b_M_clear 12 = .ok (.iinc 1 1, 3) := by decide +kernel
theorem d_M_clear_15 : decode b_M_clear 15 = .ok (.goto (-13), 3) := by decide +kernel
theorem d_M_clear_18 : decode b_M_clear 18 = .ok (.return_, 1) := by decide +kernel
theorem d_M_add_0 : decode b_M_add 0 = .ok (.lconst 0, 1) := by decide +kernel
theorem d_M_add_1 : decode b_M_add 1 = .ok (.lstore_n 3, 1) := by decide +kernel
theorem d_M_add_2 : decode b_M_add 2 = .ok (.iconst 0, 1) := by decide +kernel
theorem d_M_add_3 : decode b_M_add 3 = .ok (.istore 5, 2) := by decide +kernel
theorem d_M_add_5 : decode b_M_add 5 = .ok (.iload 5, 2) := by decide +kernel
theorem d_M_add_7 : decode b_M_add 7 = .ok (.bipush 8, 2) := by decide +kernel
theorem d_M_add_9 : decode b_M_add 9 = .ok (.if_icmp .ge 42, 3) := by decide +kernel
theorem d_M_add_12 : decode b_M_add 12 = .ok (.lload_n 3, 1) := by decide +kernel
theorem d_M_add_13 : decode b_M_add 13 = .ok (.aload_n 1, 1) := by decide +kernel
theorem d_M_add_14 : decode b_M_add 14 = .ok (.iload 5, 2) := by decide +kernel
theorem d_M_add_16 : decode b_M_add 16 = .ok (.iaload, 1) := by decide +kernel
theorem d_M_add_17 : decode b_M_add 17 = .ok (.i2l, 1) := by decide +kernel
theorem d_M_add_18 : decode b_M_add 18 = .ok (.ldc2_w 40, 3) := by decide +kernel
theorem d_M_add_21 : decode b_M_add 21 = .ok (.land, 1) := by decide +kernel
theorem d_M_add_22 : decode b_M_add 22 = .ok (.aload_n 2, 1) := by decide +kernel
theorem d_M_add_23 : decode b_M_add 23 = .ok (.iload 5, 2) := by decide +kernel
theorem d_M_add_25 : decode b_M_add 25 = .ok (.iaload, 1) := by decide +kernel
theorem d_M_add_26 : decode b_M_add 26 = .ok (.i2l, 1) := by decide +kernel
theorem d_M_add_27 : decode b_M_add 27 = .ok (.ldc2_w 40, 3) := by decide +kernel
theorem d_M_add_30 : decode b_M_add 30 = .ok (.land, 1) := by decide +kernel
theorem d_M_add_31 : decode b_M_add 31 = .ok (.ladd, 1) := by decide +kernel
theorem d_M_add_32 : decode b_M_add 32 = .ok (.ladd, 1) := by decide +kernel
theorem d_M_add_33 : decode b_M_add 33 = .ok (.lstore_n 3, 1) := by decide +kernel
theorem d_M_add_34 : decode b_M_add 34 = .ok (.aload_n 0, 1) := by decide +kernel
theorem d_M_add_35 : decode b_M_add 35 = .ok (.iload 5, 2) := by decide +kernel
theorem d_M_add_37 : decode b_M_add 37 = .ok (.lload_n 3, 1) := by decide +kernel
theorem d_M_add_38 : decode b_M_add 38 = .ok (.l2i, 1) := by decide +kernel
theorem d_M_add_39 : decode b_M_add 39 = .ok (.iastore, 1) := by decide +kernel
theorem d_M_add_40 : decode b_M_add 40 = .ok (.lload_n 3, 1) := by decide +kernel
theorem d_M_add_41 : decode b_M_add 41 = .ok (.bipush 32, 2) := by decide +kernel
theorem d_M_add_43 : decode b_M_add 43 = .ok (.lushr, 1) := by decide +kernel
theorem d_M_add_44 : decode b_M_add 44 = .ok (.lstore_n 3, 1) := by decide +kernel
theorem d_M_add_45 : decode b_M_add 45 = .ok (.iinc 5 1, 3) := by decide +kernel
theorem d_M_add_48 : decode b_M_add 48 = .ok (.goto (-43), 3) := by decide +kernel
theorem d_M_add_51 : decode b_M_add 51 = .ok (.lload_n 3, 1) := by decide +kernel
theorem d_M_add_52 : decode b_M_add 52 = .ok (.l2i, 1) := by decide +kernel
theorem d_M_add_53 : decode b_M_add 53 = .ok (.ireturn, 1) := by decide +kernel
theorem d_M_subtract_0 : decode b_M_subtract 0 = .ok (.lconst 0, 1) := by decide +kernel
theorem d_M_subtract_1 : decode b_M_subtract 1 = .ok (.lstore_n 3, 1) := by decide +kernel
theorem d_M_subtract_2 : decode b_M_subtract 2 = .ok (.iconst 0, 1) := by decide +kernel
theorem d_M_subtract_3 : decode b_M_subtract 3 = .ok (.istore 5, 2) := by decide +kernel
theorem d_M_subtract_5 : decode b_M_subtract 5 = .ok (.iload 5, 2) := by decide +kernel
theorem d_M_subtract_7 : decode b_M_subtract 7 = .ok (.bipush 8, 2) := by decide +kernel
theorem d_M_subtract_9 : decode b_M_subtract 9 = .ok (.if_icmp .ge 42, 3) := by decide +kernel
theorem d_M_subtract_12 : decode b_M_subtract 12 = .ok (.lload_n 3, 1) := by decide +kernel
theorem d_M_subtract_13 : decode b_M_subtract 13 = .ok (.aload_n 1, 1) := by decide +kernel
theorem d_M_subtract_14 : decode b_M_subtract 14 = .ok (.iload 5, 2) := by decide +kernel
theorem d_M_subtract_16 : decode b_M_subtract 16 = .ok (.iaload, 1) := by decide +kernel
theorem d_M_subtract_17 : decode b_M_subtract 17 = .ok (.i2l, 1) := by decide +kernel
theorem d_M_subtract_18 : decode b_M_subtract 18 = .ok (.ldc2_w 40, 3) := by decide +kernel
theorem d_M_subtract_21 : decode b_M_subtract 21 = .ok (.land, 1) := by decide +kernel
theorem d_M_subtract_22 : decode b_M_subtract 22 = .ok (.aload_n 2, 1) := by decide +kernel
theorem d_M_subtract_23 : decode b_M_subtract 23 = .ok (.iload 5, 2) := by decide +kernel
theorem d_M_subtract_25 : decode b_M_subtract 25 = .ok (.iaload, 1) := by decide +kernel
theorem d_M_subtract_26 : decode b_M_subtract 26 = .ok (.i2l, 1) := by decide +kernel
theorem d_M_subtract_27 : decode b_M_subtract 27 = .ok (.ldc2_w 40, 3) := by decide +kernel
theorem d_M_subtract_30 : decode b_M_subtract 30 = .ok (.land, 1) := by decide +kernel
theorem d_M_subtract_31 : decode b_M_subtract 31 = .ok (.lsub, 1) := by decide +kernel
theorem d_M_subtract_32 : decode b_M_subtract 32 = .ok (.ladd, 1) := by decide +kernel
theorem d_M_subtract_33 : decode b_M_subtract 33 = .ok (.lstore_n 3, 1) := by decide +kernel
theorem d_M_subtract_34 : decode b_M_subtract 34 = .ok (.aload_n 0, 1) := by decide +kernel
theorem d_M_subtract_35 : decode b_M_subtract 35 = .ok (.iload 5, 2) := by decide +kernel
theorem d_M_subtract_37 : decode b_M_subtract 37 = .ok (.lload_n 3, 1) := by decide +kernel
theorem d_M_subtract_38 : decode b_M_subtract 38 = .ok (.l2i, 1) := by decide +kernel
theorem d_M_subtract_39 : decode b_M_subtract 39 = .ok (.iastore, 1) := by decide +kernel
theorem d_M_subtract_40 : decode b_M_subtract 40 = .ok (.lload_n 3, 1) := by decide +kernel
theorem d_M_subtract_41 : decode b_M_subtract 41 = .ok (.bipush 32, 2) := by decide +kernel
theorem d_M_subtract_43 : decode b_M_subtract 43 = .ok (.lshr, 1) := by decide +kernel
theorem d_M_subtract_44 : decode b_M_subtract 44 = .ok (.lstore_n 3, 1) := by decide +kernel
theorem d_M_subtract_45 : decode b_M_subtract 45 = .ok (.iinc 5 1, 3) := by decide +kernel
theorem d_M_subtract_48 : decode b_M_subtract 48 = .ok (.goto (-43), 3) := by decide +kernel
theorem d_M_subtract_51 : decode b_M_subtract 51 = .ok (.return_, 1) := by decide +kernel
theorem d_M_multiply_0 : decode b_M_multiply 0 = .ok (.iconst 0, 1) := by decide +kernel
theorem d_M_multiply_1 : decode b_M_multiply 1 = .ok (.istore_n 3, 1) := by decide +kernel
theorem d_M_multiply_2 : decode b_M_multiply 2 = .ok (.iload_n 3, 1) := by decide +kernel
theorem d_M_multiply_3 : decode b_M_multiply 3 = .ok (.bipush 17, 2) := by decide +kernel
theorem d_M_multiply_5 : decode b_M_multiply 5 = .ok (.if_icmp .ge 16, 3) := by decide +kernel
theorem d_M_multiply_8 : decode b_M_multiply 8 = .ok (.aload_n 0, 1) := by decide +kernel
theorem d_M_multiply_9 : decode b_M_multiply 9 = .ok (.getfield 27, 3) := by decide +kernel
theorem d_M_multiply_12 : decode b_M_multiply 12 = .ok (.iload_n 3, 1) := by decide +kernel
theorem d_M_multiply_13 : decode b_M_multiply 13 = .ok (.iconst 0, 1) := by decide +kernel
theorem d_M_multiply_14 : decode b_M_multiply 14 = .ok (.iastore, 1) := by decide +kernel
theorem d_M_multiply_15 : decode b_M_multiply 15 = .ok (.iinc 3 1, 3) := by decide +kernel
theorem d_M_multiply_18 : decode b_M_multiply 18 = .ok (.goto (-16), 3) := by decide +kernel
theorem d_M_multiply_21 : decode b_M_multiply 21 = .ok (.iconst 0, 1) := by decide +kernel
theorem d_M_multiply_22 : decode b_M_multiply 22 = .ok (.istore_n 3, 1) := by decide +kernel
theorem d_M_multiply_23 : decode b_M_multiply 23 = .ok (.iload_n 3, 1) := by decide +kernel
theorem d_M_multiply_24 : decode b_M_multiply 24 = .ok (.bipush 8, 2) := by decide +kernel
theorem d_M_multiply_26 : decode b_M_multiply 26 = .ok (.if_icmp .ge 97, 3) := by decide +kernel
theorem d_M_multiply_29 : decode b_M_multiply 29 = .ok (.lconst 0, 1) := by decide +kernel
theorem d_M_multiply_30 : decode b_M_multiply 30 = .ok (.lstore 4, 2) := by decide +kernel
theorem d_M_multiply_32 : decode b_M_multiply 32 = .ok (.iconst 0, 1) := by decide +kernel
theorem d_M_multiply_33 : decode b_M_multiply 33 = .ok (.istore 6, 2) := by decide +kernel
theorem d_M_multiply_35 : decode b_M_multiply 35 = .ok (.iload 6, 2) := by decide +kernel
theorem d_M_multiply_37 : decode b_M_multiply 37 = .ok (.bipush 8, 2) := by decide +kernel
theorem d_M_multiply_39 : decode b_M_multiply 39 = .ok (.if_icmp .ge 66, 3) := by decide +kernel
theorem d_M_multiply_42 : decode b_M_multiply 42 = .ok (.lload 4, 2) := by decide +kernel
theorem d_M_multiply_44 : decode b_M_multiply 44 = .ok (.aload_n 1, 1) := by decide +kernel
theorem d_M_multiply_45 : decode b_M_multiply 45 = .ok (.iload_n 3, 1) := by decide +kernel
theorem d_M_multiply_46 : decode b_M_multiply 46 = .ok (.iaload, 1) := by decide +kernel
theorem d_M_multiply_47 : decode b_M_multiply 47 = .ok (.i2l, 1) := by decide +kernel
theorem d_M_multiply_48 : decode b_M_multiply 48 = .ok (.ldc2_w 40, 3) := by decide +kernel
theorem d_M_multiply_51 : decode b_M_multiply 51 = .ok (.land, 1) := by decide +kernel
theorem d_M_multiply_52 : decode b_M_multiply 52 = .ok (.aload_n 2, 1) := by decide +kernel
theorem d_M_multiply_53 : decode b_M_multiply 53 = .ok (.iload 6, 2) := by decide +kernel
theorem d_M_multiply_55 : decode b_M_multiply 55 = .ok (.iaload, 1) := by decide +kernel
theorem d_M_multiply_56 : decode b_M_multiply 56 = .ok (.i2l, 1) := by decide +kernel
theorem d_M_multiply_57 : decode b_M_multiply 57 = .ok (.ldc2_w 40, 3) := by decide +kernel
theorem d_M_multiply_60 : decode b_M_multiply 60 = .ok (.land, 1) := by decide +kernel
theorem d_M_multiply_61 : decode b_M_multiply 61 = .ok (.lmul, 1) := by decide +kernel
theorem d_M_multiply_62 : decode b_M_multiply 62 = .ok (.aload_n 0, 1) := by decide +kernel
theorem d_M_multiply_63 : decode b_M_multiply 63 = .ok (.getfield 27, 3) := by decide +kernel
theorem d_M_multiply_66 : decode b_M_multiply 66 = .ok (.iload_n 3, 1) := by decide +kernel
theorem d_M_multiply_67 : decode b_M_multiply 67 = .ok (.iload 6, 2) := by decide +kernel
theorem d_M_multiply_69 : decode b_M_multiply 69 = .ok (.iadd, 1) := by decide +kernel
theorem d_M_multiply_70 : decode b_M_multiply 70 = .ok (.iaload, 1) := by decide +kernel
theorem d_M_multiply_71 : decode b_M_multiply 71 = .ok (.i2l, 1) := by decide +kernel
theorem d_M_multiply_72 : decode b_M_multiply 72 = .ok (.ldc2_w 40, 3) := by decide +kernel
theorem d_M_multiply_75 : decode b_M_multiply 75 = .ok (.land, 1) := by decide +kernel
theorem d_M_multiply_76 : decode b_M_multiply 76 = .ok (.ladd, 1) := by decide +kernel
theorem d_M_multiply_77 : decode b_M_multiply 77 = .ok (.ladd, 1) := by decide +kernel
theorem d_M_multiply_78 : decode b_M_multiply 78 = .ok (.lstore 4, 2) := by decide +kernel
theorem d_M_multiply_80 : decode b_M_multiply 80 = .ok (.aload_n 0, 1) := by decide +kernel
theorem d_M_multiply_81 : decode b_M_multiply 81 = .ok (.getfield 27, 3) := by decide +kernel
theorem d_M_multiply_84 : decode b_M_multiply 84 = .ok (.iload_n 3, 1) := by decide +kernel
theorem d_M_multiply_85 : decode b_M_multiply 85 = .ok (.iload 6, 2) := by decide +kernel
theorem d_M_multiply_87 : decode b_M_multiply 87 = .ok (.iadd, 1) := by decide +kernel
theorem d_M_multiply_88 : decode b_M_multiply 88 = .ok (.lload 4, 2) := by decide +kernel
theorem d_M_multiply_90 : decode b_M_multiply 90 = .ok (.l2i, 1) := by decide +kernel
theorem d_M_multiply_91 : decode b_M_multiply 91 = .ok (.iastore, 1) := by decide +kernel
theorem d_M_multiply_92 : decode b_M_multiply 92 = .ok (.lload 4, 2) := by decide +kernel
theorem d_M_multiply_94 : decode b_M_multiply 94 = .ok (.bipush 32, 2) := by decide +kernel
theorem d_M_multiply_96 : decode b_M_multiply 96 = .ok (.lushr, 1) := by decide +kernel
theorem d_M_multiply_97 : decode b_M_multiply 97 = .ok (.lstore 4, 2) := by decide +kernel
theorem d_M_multiply_99 : decode b_M_multiply 99 = .ok (.iinc 6 1, 3) := by decide +kernel
theorem d_M_multiply_102 : decode b_M_multiply 102 = .ok (.goto (-67), 3) := by decide +kernel
theorem d_M_multiply_105 : decode b_M_multiply 105 = .ok (.aload_n 0, 1) := by decide +kernel
theorem d_M_multiply_106 : decode b_M_multiply 106 = .ok (.getfield 27, 3) := by decide +kernel
theorem d_M_multiply_109 : decode b_M_multiply 109 = .ok (.iload_n 3, 1) := by decide +kernel
theorem d_M_multiply_110 : decode b_M_multiply 110 = .ok (.bipush 8, 2) := by decide +kernel
theorem d_M_multiply_112 : decode b_M_multiply 112 = .ok (.iadd, 1) := by decide +kernel
theorem d_M_multiply_113 : decode b_M_multiply 113 = .ok (.lload 4, 2) := by decide +kernel
theorem d_M_multiply_115 : decode b_M_multiply 115 = .ok (.l2i, 1) := by decide +kernel
theorem d_M_multiply_116 : decode b_M_multiply 116 = .ok (.iastore, 1) := by decide +kernel
theorem d_M_multiply_117 : decode b_M_multiply 117 = .ok (.iinc 3 1, 3) := by decide +kernel
theorem d_M_multiply_120 : decode b_M_multiply 120 = .ok (.goto (-97), 3) := by decide +kernel
theorem d_M_multiply_123 : decode b_M_multiply 123 = .ok (.return_, 1) := by decide +kernel
theorem d_M_take_0 : decode b_M_take 0 = .ok (.iconst 0, 1) := by decide +kernel
theorem d_M_take_1 : decode b_M_take 1 = .ok (.istore_n 2, 1) := by decide +kernel
theorem d_M_take_2 : decode b_M_take 2 = .ok (.iload_n 2, 1) := by decide +kernel
theorem d_M_take_3 : decode b_M_take 3 = .ok (.bipush 8, 2) := by decide +kernel
theorem d_M_take_5 : decode b_M_take 5 = .ok (.if_icmp .ge 15, 3) := by decide +kernel
theorem d_M_take_8 : decode b_M_take 8 = .ok (.aload_n 0, 1) := by decide +kernel
theorem d_M_take_9 : decode b_M_take 9 = .ok (.iload_n 2, 1) := by decide +kernel
theorem d_M_take_10 : decode b_M_take 10 = .ok (.aload_n 1, 1) := by decide +kernel
theorem d_M_take_11 : decode b_M_take 11 = .ok (.iload_n 2, 1) := by decide +kernel
theorem d_M_take_12 : decode b_M_take 12 = .ok (.iaload, 1) := by decide +kernel
theorem d_M_take_13 : decode b_M_take 13 = .ok (.iastore, 1) := by decide +kernel
theorem d_M_take_14 : decode b_M_take 14 = .ok (.iinc 2 1, 3) := by decide +kernel
theorem d_M_take_17 : decode b_M_take 17 = .ok (.goto (-15), 3) := by decide +kernel
theorem d_M_take_20 : decode b_M_take 20 = .ok (.return_, 1) := by decide +kernel
theorem d_M_divide_0 : decode b_M_divide 0 = .ok (.iconst 0, 1) := by decide +kernel
theorem d_M_divide_1 : decode b_M_divide 1 = .ok (.istore_n 3, 1) := by decide +kernel
theorem d_M_divide_2 : decode b_M_divide 2 = .ok (.iload_n 3, 1) := by decide +kernel
theorem d_M_divide_3 : decode b_M_divide 3 = .ok (.bipush 17, 2) := by decide +kernel
theorem d_M_divide_5 : decode b_M_divide 5 = .ok (.if_icmp .ge 28, 3) := by decide +kernel
theorem d_M_divide_8 : decode b_M_divide 8 = .ok (.aload_n 0, 1) := by decide +kernel
theorem d_M_divide_9 : decode b_M_divide 9 = .ok (.getfield 27, 3) := by decide +kernel
theorem d_M_divide_12 : decode b_M_divide 12 = .ok (.iload_n 3, 1) := by decide +kernel
theorem d_M_divide_13 : decode b_M_divide 13 = .ok (.iload_n 3, 1) := by decide +kernel
theorem d_M_divide_14 : decode b_M_divide 14 = .ok (.bipush 8, 2) := by decide +kernel
theorem d_M_divide_16 : decode b_M_divide 16 = .ok (.if_icmp .ge 9, 3) := by decide +kernel
theorem d_M_divide_19 : decode b_M_divide 19 = .ok (.aload_n 1, 1) := by decide +kernel
theorem d_M_divide_20 : decode b_M_divide 20 = .ok (.iload_n 3, 1) := by decide +kernel
theorem d_M_divide_21 : decode b_M_divide 21 = .ok (.iaload, 1) := by decide +kernel
theorem d_M_divide_22 : decode b_M_divide 22 = .ok (.goto 4, 3) := by decide +kernel
theorem d_M_divide_25 : decode b_M_divide 25 = .ok (.iconst 0, 1) := by decide +kernel
theorem d_M_divide_26 : decode b_M_divide 26 = .ok (.iastore, 1) := by decide +kernel
theorem d_M_divide_27 : decode b_M_divide 27 = .ok (.iinc 3 1, 3) := by decide +kernel
theorem d_M_divide_30 : decode b_M_divide 30 = .ok (.goto (-28), 3) := by decide +kernel
theorem d_M_divide_33 : decode b_M_divide 33 = .ok (.aload_n 0, 1) := by decide +kernel
theorem d_M_divide_34 : decode b_M_divide 34 = .ok (.aload_n 2, 1) := by decide +kernel
theorem d_M_divide_35 : decode b_M_divide 35 = .ok (.sipush 256, 3) := by decide +kernel
theorem d_M_divide_38 : decode b_M_divide 38 = .ok (.invokevirtual 50, 3) := by decide +kernel
theorem d_M_divide_41 : decode b_M_divide 41 = .ok (.return_, 1) := by decide +kernel
theorem d_M_divideWide_0 : decode b_M_divideWide 0 = .ok (.iconst 0, 1) := by decide +kernel
theorem d_M_divideWide_1 : decode b_M_divideWide 1 = .ok (.istore_n 3, 1) := by decide +kernel
theorem d_M_divideWide_2 : decode b_M_divideWide 2 = .ok (.iload_n 3, 1) := by decide +kernel
theorem d_M_divideWide_3 : decode b_M_divideWide 3 = .ok (.bipush 16, 2) := by decide +kernel
theorem d_M_divideWide_5 : decode b_M_divideWide 5 = .ok (.if_icmp .ge 16, 3) := by decide +kernel
theorem d_M_divideWide_8 : decode b_M_divideWide 8 = .ok (.aload_n 0, 1) := by decide +kernel
theorem d_M_divideWide_9 : decode b_M_divideWide 9 = .ok (.getfield 30, 3) := by decide +kernel
theorem d_M_divideWide_12 : decode b_M_divideWide 12 = .ok (.iload_n 3, 1) := by decide +kernel
theorem d_M_divideWide_13 : decode b_M_divideWide 13 = .ok (.iconst 0, 1) := by decide +kernel
theorem d_M_divideWide_14 : decode b_M_divideWide 14 = .ok (.iastore, 1) := by decide +kernel
theorem d_M_divideWide_15 : decode b_M_divideWide 15 = .ok (.iinc 3 1, 3) := by decide +kernel
theorem d_M_divideWide_18 : decode b_M_divideWide 18 = .ok (.goto (-16), 3) := by decide +kernel
theorem d_M_divideWide_21 : decode b_M_divideWide 21 = .ok (.iconst 0, 1) := by decide +kernel
theorem d_M_divideWide_22 : decode b_M_divideWide 22 = .ok (.istore_n 3, 1) := by decide +kernel
theorem d_M_divideWide_23 : decode b_M_divideWide 23 = .ok (.iload_n 3, 1) := by decide +kernel
theorem d_M_divideWide_24 : decode b_M_divideWide 24 = .ok (.bipush 9, 2) := by decide +kernel
theorem d_M_divideWide_26 : decode b_M_divideWide 26 = .ok (.if_icmp .ge 16, 3) := by decide +kernel
theorem d_M_divideWide_29 : decode b_M_divideWide 29 = .ok (.aload_n 0, 1) := by decide +kernel
theorem d_M_divideWide_30 : decode b_M_divideWide 30 = .ok (.getfield 33, 3) := by decide +kernel
theorem d_M_divideWide_33 : decode b_M_divideWide 33 = .ok (.iload_n 3, 1) := by decide +kernel
theorem d_M_divideWide_34 : decode b_M_divideWide 34 = .ok (.iconst 0, 1) := by decide +kernel
theorem d_M_divideWide_35 : decode b_M_divideWide 35 = .ok (.iastore, 1) := by decide +kernel
theorem d_M_divideWide_36 : decode b_M_divideWide 36 = .ok (.iinc 3 1, 3) := by decide +kernel
theorem d_M_divideWide_39 : decode b_M_divideWide 39 = .ok (.goto (-16), 3) := by decide +kernel
theorem d_M_divideWide_42 : decode b_M_divideWide 42 = .ok (.iload_n 2, 1) := by decide +kernel
theorem d_M_divideWide_43 : decode b_M_divideWide 43 = .ok (.iconst 1, 1) := by decide +kernel
theorem d_M_divideWide_44 : decode b_M_divideWide 44 = .ok (.isub, 1) := by decide +kernel
theorem d_M_divideWide_45 : decode b_M_divideWide 45 = .ok (.istore_n 3, 1) := by decide +kernel
theorem d_M_divideWide_46 : decode b_M_divideWide 46 = .ok (.iload_n 3, 1) := by decide +kernel
theorem d_M_divideWide_47 : decode b_M_divideWide 47 = .ok (.ifCond .lt 268, 3) := by decide +kernel
theorem d_M_divideWide_50 : decode b_M_divideWide 50 = .ok (.aload_n 0, 1) := by decide +kernel
theorem d_M_divideWide_51 : decode b_M_divideWide 51 = .ok (.getfield 27, 3) := by decide +kernel
theorem d_M_divideWide_54 : decode b_M_divideWide 54 = .ok (.iload_n 3, 1) := by decide +kernel
theorem d_M_divideWide_55 : decode b_M_divideWide 55 = .ok (.iconst 5, 1) := by decide +kernel
theorem d_M_divideWide_56 : decode b_M_divideWide 56 = .ok (.ishr, 1) := by decide +kernel
theorem d_M_divideWide_57 : decode b_M_divideWide 57 = .ok (.iaload, 1) := by decide +kernel
theorem d_M_divideWide_58 : decode b_M_divideWide 58 = .ok (.iload_n 3, 1) := by decide +kernel
theorem d_M_divideWide_59 : decode b_M_divideWide 59 = .ok (.bipush 31, 2) := by decide +kernel
theorem d_M_divideWide_61 : decode b_M_divideWide 61 = .ok (.iand, 1) := by decide +kernel
theorem d_M_divideWide_62 : decode b_M_divideWide 62 = .ok (.iushr, 1) := by decide +kernel
theorem d_M_divideWide_63 : decode b_M_divideWide 63 = .ok (.iconst 1, 1) := by decide +kernel
theorem d_M_divideWide_64 : decode b_M_divideWide 64 = .ok (.iand, 1) := by decide +kernel
theorem d_M_divideWide_65 : decode b_M_divideWide 65 = .ok (.istore 4, 2) := by decide +kernel
theorem d_M_divideWide_67 : decode b_M_divideWide 67 = .ok (.iconst 0, 1) := by decide +kernel
theorem d_M_divideWide_68 : decode b_M_divideWide 68 = .ok (.istore 5, 2) := by decide +kernel
theorem d_M_divideWide_70 : decode b_M_divideWide 70 = .ok (.iload 5, 2) := by decide +kernel
theorem d_M_divideWide_72 : decode b_M_divideWide 72 = .ok (.bipush 9, 2) := by decide +kernel
theorem d_M_divideWide_74 : decode b_M_divideWide 74 = .ok (.if_icmp .ge 44, 3) := by decide +kernel
theorem d_M_divideWide_77 : decode b_M_divideWide 77 = .ok (.aload_n 0, 1) := by decide +kernel
theorem d_M_divideWide_78 : decode b_M_divideWide 78 = .ok (.getfield 33, 3) := by decide +kernel
theorem d_M_divideWide_81 : decode b_M_divideWide 81 = .ok (.iload 5, 2) := by decide +kernel
theorem d_M_divideWide_83 : decode b_M_divideWide 83 = .ok (.iaload, 1) := by decide +kernel
theorem d_M_divideWide_84 : decode b_M_divideWide 84 = .ok (.bipush 31, 2) := by decide +kernel
theorem d_M_divideWide_86 : decode b_M_divideWide 86 = .ok (.iushr, 1) := by decide +kernel
theorem d_M_divideWide_87 : decode b_M_divideWide 87 = .ok (.istore 6, 2) := by decide +kernel
theorem d_M_divideWide_89 : decode b_M_divideWide 89 = .ok (.aload_n 0, 1) := by decide +kernel
theorem d_M_divideWide_90 : decode b_M_divideWide 90 = .ok (.getfield 33, 3) := by decide +kernel
theorem d_M_divideWide_93 : decode b_M_divideWide 93 = .ok (.iload 5, 2) := by decide +kernel
theorem d_M_divideWide_95 : decode b_M_divideWide 95 = .ok (.aload_n 0, 1) := by decide +kernel
theorem d_M_divideWide_96 : decode b_M_divideWide 96 = .ok (.getfield 33, 3) := by decide +kernel
theorem d_M_divideWide_99 : decode b_M_divideWide 99 = .ok (.iload 5, 2) := by decide +kernel
theorem d_M_divideWide_101 : decode b_M_divideWide 101 = .ok (.iaload, 1) := by decide +kernel
theorem d_M_divideWide_102 : decode b_M_divideWide 102 = .ok (.iconst 1, 1) := by decide +kernel
theorem d_M_divideWide_103 : decode b_M_divideWide 103 = .ok (.ishl, 1) := by decide +kernel
theorem d_M_divideWide_104 : decode b_M_divideWide 104 = .ok (.iload 4, 2) := by decide +kernel
theorem d_M_divideWide_106 : decode b_M_divideWide 106 = .ok (.ior, 1) := by decide +kernel
theorem d_M_divideWide_107 : decode b_M_divideWide 107 = .ok (.iastore, 1) := by decide +kernel
theorem d_M_divideWide_108 : decode b_M_divideWide 108 = .ok (.iload 6, 2) := by decide +kernel
theorem d_M_divideWide_110 : decode b_M_divideWide 110 = .ok (.istore 4, 2) := by decide +kernel
theorem d_M_divideWide_112 : decode b_M_divideWide 112 = .ok (.iinc 5 1, 3) := by decide +kernel
theorem d_M_divideWide_115 : decode b_M_divideWide 115 = .ok (.goto (-45), 3) := by decide +kernel
theorem d_M_divideWide_118 : decode b_M_divideWide 118 = .ok (.aload_n 0, 1) := by decide +kernel
theorem d_M_divideWide_119 : decode b_M_divideWide 119 = .ok (.getfield 33, 3) := by decide +kernel
theorem d_M_divideWide_122 : decode b_M_divideWide 122 = .ok (.bipush 8, 2) := by decide +kernel
theorem d_M_divideWide_124 : decode b_M_divideWide 124 = .ok (.iaload, 1) := by decide +kernel
theorem d_M_divideWide_125 : decode b_M_divideWide 125 = .ok (.ifCond .eq 7, 3) := by decide +kernel
theorem d_M_divideWide_128 : decode b_M_divideWide 128 = .ok (.iconst 1, 1) := by decide +kernel
theorem d_M_divideWide_129 : decode b_M_divideWide 129 = .ok (.goto 4, 3) := by decide +kernel
theorem d_M_divideWide_132 : decode b_M_divideWide 132 = .ok (.iconst 0, 1) := by decide +kernel
theorem d_M_divideWide_133 : decode b_M_divideWide 133 = .ok (.istore 5, 2) := by decide +kernel
theorem d_M_divideWide_135 : decode b_M_divideWide 135 = .ok (.iload 5, 2) := by decide +kernel
theorem d_M_divideWide_137 : decode b_M_divideWide 137 = .ok (.ifCond .ne 73, 3) := by decide +kernel
theorem d_M_divideWide_140 : decode b_M_divideWide 140 = .ok (.iconst 1, 1) := by decide +kernel
theorem d_M_divideWide_141 : decode b_M_divideWide 141 = .ok (.istore 5, 2) := by decide +kernel
theorem d_M_divideWide_143 : decode b_M_divideWide 143 = .ok (.bipush 7, 2) := by decide +kernel
theorem d_M_divideWide_145 : decode b_M_divideWide 145 = .ok (.istore 6, 2) := by decide +kernel
theorem d_M_divideWide_147 : decode b_M_divideWide 147 = .ok (.iload 6, 2) := by decide +kernel
theorem d_M_divideWide_149 : decode b_M_divideWide 149 = .ok (.ifCond .lt 61, 3) := by decide +kernel
theorem d_M_divideWide_152 : decode b_M_divideWide 152 = .ok (.aload_n 0, 1) := by decide +kernel
theorem d_M_divideWide_153 : decode b_M_divideWide 153 = .ok (.getfield 33, 3) := by decide +kernel
theorem d_M_divideWide_156 : decode b_M_divideWide 156 = .ok (.iload 6, 2) := by decide +kernel
theorem d_M_divideWide_158 : decode b_M_divideWide 158 = .ok (.iaload, 1) := by decide +kernel
theorem d_M_divideWide_159 : decode b_M_divideWide 159 = .ok (.aload_n 1, 1) := by decide +kernel
theorem d_M_divideWide_160 : decode b_M_divideWide 160 = .ok (.iload 6, 2) := by decide +kernel
theorem d_M_divideWide_162 : decode b_M_divideWide 162 = .ok (.iaload, 1) := by decide +kernel
theorem d_M_divideWide_163 : decode b_M_divideWide 163 = .ok (.if_icmp .ne 6, 3) := by decide +kernel
theorem d_M_divideWide_166 : decode b_M_divideWide 166 = .ok (.goto 38, 3) := by decide +kernel
theorem d_M_divideWide_169 : decode b_M_divideWide 169 = .ok (.aload_n 0, 1) := by decide +kernel
theorem d_M_divideWide_170 : decode b_M_divideWide 170 = .ok (.getfield 33, 3) := by decide +kernel
theorem d_M_divideWide_173 : decode b_M_divideWide 173 = .ok (.iload 6, 2) := by decide +kernel
theorem d_M_divideWide_175 : decode b_M_divideWide 175 = .ok (.iaload, 1) := by decide +kernel
theorem d_M_divideWide_176 : decode b_M_divideWide 176 = .ok (.i2l, 1) := by decide +kernel
theorem d_M_divideWide_177 : decode b_M_divideWide 177 = .ok (.ldc2_w 40, 3) := by decide +kernel
theorem d_M_divideWide_180 : decode b_M_divideWide 180 = .ok (.land, 1) := by decide +kernel
theorem d_M_divideWide_181 : decode b_M_divideWide 181 = .ok (.aload_n 1, 1) := by decide +kernel
theorem d_M_divideWide_182 : decode b_M_divideWide 182 = .ok (.iload 6, 2) := by decide +kernel
theorem d_M_divideWide_184 : decode b_M_divideWide 184 = .ok (.iaload, 1) := by decide +kernel
theorem d_M_divideWide_185 : decode b_M_divideWide 185 = .ok (.i2l, 1) := by decide +kernel
theorem d_M_divideWide_186 : decode b_M_divideWide 186 = .ok (.ldc2_w 40, 3) := by decide +kernel
theorem d_M_divideWide_189 : decode b_M_divideWide 189 = .ok (.land, 1) := by decide +kernel
theorem d_M_divideWide_190 : decode b_M_divideWide 190 = .ok (.lcmp, 1) := by decide +kernel
theorem d_M_divideWide_191 : decode b_M_divideWide 191 = .ok (.ifCond .le 7, 3) := by decide +kernel
theorem d_M_divideWide_194 : decode b_M_divideWide 194 = .ok (.iconst 1, 1) := by decide +kernel
theorem d_M_divideWide_195 : decode b_M_divideWide 195 = .ok (.goto 4, 3) := by decide +kernel
theorem d_M_divideWide_198 : decode b_M_divideWide 198 = .ok (.iconst 0, 1) := by decide +kernel
theorem d_M_divideWide_199 : decode b_M_divideWide 199 = .ok (.istore 5, 2) := by decide +kernel
theorem d_M_divideWide_201 : decode b_M_divideWide 201 = .ok (.goto 9, 3) := by decide +kernel
theorem d_M_divideWide_204 : decode b_M_divideWide 204 = .ok (.iinc 6 (-1), 3) := by decide +kernel
theorem d_M_divideWide_207 : decode b_M_divideWide 207 = .ok (.goto (-60), 3) := by decide +kernel
theorem d_M_divideWide_210 : decode b_M_divideWide 210 = .ok (.iload 5, 2) := by decide +kernel
theorem d_M_divideWide_212 : decode b_M_divideWide 212 = .ok (.ifCond .ne 6, 3) := by decide +kernel
theorem d_M_divideWide_215 : decode b_M_divideWide 215 = .ok (.goto 94, 3) := by decide +kernel
theorem d_M_divideWide_218 : decode b_M_divideWide 218 = .ok (.lconst 0, 1) := by decide +kernel
theorem d_M_divideWide_219 : decode b_M_divideWide 219 = .ok (.lstore 6, 2) := by decide +kernel
theorem d_M_divideWide_221 : decode b_M_divideWide 221 = .ok (.iconst 0, 1) := by decide +kernel
theorem d_M_divideWide_222 : decode b_M_divideWide 222 = .ok (.istore 8, 2) := by decide +kernel
theorem d_M_divideWide_224 : decode b_M_divideWide 224 = .ok (.iload 8, 2) := by decide +kernel
theorem d_M_divideWide_226 : decode b_M_divideWide 226 = .ok (.bipush 9, 2) := by decide +kernel
theorem d_M_divideWide_228 : decode b_M_divideWide 228 = .ok (.if_icmp .ge 64, 3) := by decide +kernel
theorem d_M_divideWide_231 : decode b_M_divideWide 231 = .ok (.lload 6, 2) := by decide +kernel
theorem d_M_divideWide_233 : decode b_M_divideWide 233 = .ok (.aload_n 0, 1) := by decide +kernel
theorem d_M_divideWide_234 : decode b_M_divideWide 234 = .ok (.getfield 33, 3) := by decide +kernel
theorem d_M_divideWide_237 : decode b_M_divideWide 237 = .ok (.iload 8, 2) := by decide +kernel
theorem d_M_divideWide_239 : decode b_M_divideWide 239 = .ok (.iaload, 1) := by decide +kernel
theorem d_M_divideWide_240 : decode b_M_divideWide 240 = .ok (.i2l, 1) := by decide +kernel
theorem d_M_divideWide_241 : decode b_M_divideWide 241 = .ok (.ldc2_w 40, 3) := by decide +kernel
theorem d_M_divideWide_244 : decode b_M_divideWide 244 = .ok (.land, 1) := by decide +kernel
theorem d_M_divideWide_245 : decode b_M_divideWide 245 = .ok (.iload 8, 2) := by decide +kernel
theorem d_M_divideWide_247 : decode b_M_divideWide 247 = .ok (.bipush 8, 2) := by decide +kernel
theorem d_M_divideWide_249 : decode b_M_divideWide 249 = .ok (.if_icmp .ge 15, 3) := by decide +kernel
theorem d_M_divideWide_252 : decode b_M_divideWide 252 = .ok (.aload_n 1, 1) := by decide +kernel
theorem d_M_divideWide_253 : decode b_M_divideWide 253 = .ok (.iload 8, 2) := by decide +kernel
theorem d_M_divideWide_255 : decode b_M_divideWide 255 = .ok (.iaload, 1) := by decide +kernel
theorem d_M_divideWide_256 : decode b_M_divideWide 256 = .ok (.i2l, 1) := by decide +kernel
theorem d_M_divideWide_257 : decode b_M_divideWide 257 = .ok (.ldc2_w 40, 3) := by decide +kernel
theorem d_M_divideWide_260 : decode b_M_divideWide 260 = .ok (.land, 1) := by decide +kernel
theorem d_M_divideWide_261 : decode b_M_divideWide 261 = .ok (.goto 4, 3) := by decide +kernel
theorem d_M_divideWide_264 : decode b_M_divideWide 264 = .ok (.lconst 0, 1) := by decide +kernel
theorem d_M_divideWide_265 : decode b_M_divideWide 265 = .ok (.lsub, 1) := by decide +kernel
theorem d_M_divideWide_266 : decode b_M_divideWide 266 = .ok (.ladd, 1) := by decide +kernel
theorem d_M_divideWide_267 : decode b_M_divideWide 267 = .ok (.lstore 6, 2) := by decide +kernel
theorem d_M_divideWide_269 : decode b_M_divideWide 269 = .ok (.aload_n 0, 1) := by decide +kernel
theorem d_M_divideWide_270 : decode b_M_divideWide 270 = .ok (.getfield 33, 3) := by decide +kernel
theorem d_M_divideWide_273 : decode b_M_divideWide 273 = .ok (.iload 8, 2) := by decide +kernel
theorem d_M_divideWide_275 : decode b_M_divideWide 275 = .ok (.lload 6, 2) := by decide +kernel
theorem d_M_divideWide_277 : decode b_M_divideWide 277 = .ok (.l2i, 1) := by decide +kernel
theorem d_M_divideWide_278 : decode b_M_divideWide 278 = .ok (.iastore, 1) := by decide +kernel
theorem d_M_divideWide_279 : decode b_M_divideWide 279 = .ok (.lload 6, 2) := by decide +kernel
theorem d_M_divideWide_281 : decode b_M_divideWide 281 = .ok (.bipush 32, 2) := by decide +kernel
theorem d_M_divideWide_283 : decode b_M_divideWide 283 = .ok (.lshr, 1) := by decide +kernel
theorem d_M_divideWide_284 : decode b_M_divideWide 284 = .ok (.lstore 6, 2) := by decide +kernel
theorem d_M_divideWide_286 : decode b_M_divideWide 286 = .ok (.iinc 8 1, 3) := by decide +kernel
theorem d_M_divideWide_289 : decode b_M_divideWide 289 = .ok (.goto (-65), 3) := by decide +kernel
theorem d_M_divideWide_292 : decode b_M_divideWide 292 = .ok (.aload_n 0, 1) := by decide +kernel
theorem d_M_divideWide_293 : decode b_M_divideWide 293 = .ok (.getfield 30, 3) := by decide +kernel
theorem d_M_divideWide_296 : decode b_M_divideWide 296 = .ok (.iload_n 3, 1) := by decide +kernel
theorem d_M_divideWide_297 : decode b_M_divideWide 297 = .ok (.iconst 5, 1) := by decide +kernel
theorem d_M_divideWide_298 : decode b_M_divideWide 298 = .ok (.ishr, 1) := by decide +kernel
theorem d_M_divideWide_299 : decode b_M_divideWide 299 = .ok (.dup2, 1) := by decide +kernel
theorem d_M_divideWide_300 : decode b_M_divideWide 300 = .ok (.iaload, 1) := by decide +kernel
theorem d_M_divideWide_301 : decode b_M_divideWide 301 = .ok (.iconst 1, 1) := by decide +kernel
theorem d_M_divideWide_302 : decode b_M_divideWide 302 = .ok (.iload_n 3, 1) := by decide +kernel
theorem d_M_divideWide_303 : decode b_M_divideWide 303 = .ok (.bipush 31, 2) := by decide +kernel
theorem d_M_divideWide_305 : decode b_M_divideWide 305 = .ok (.iand, 1) := by decide +kernel
theorem d_M_divideWide_306 : decode b_M_divideWide 306 = .ok (.ishl, 1) := by decide +kernel
theorem d_M_divideWide_307 : decode b_M_divideWide 307 = .ok (.ior, 1) := by decide +kernel
theorem d_M_divideWide_308 : decode b_M_divideWide 308 = .ok (.iastore, 1) := by decide +kernel
theorem d_M_divideWide_309 : decode b_M_divideWide 309 = .ok (.iinc 3 (-1), 3) := by decide +kernel
theorem d_M_divideWide_312 : decode b_M_divideWide 312 = .ok (.goto (-266), 3) := by decide +kernel
theorem d_M_divideWide_315 : decode b_M_divideWide 315 = .ok (.return_, 1) := by decide +kernel
theorem d_M_signed_0 : decode b_M_signed 0 = .ok (.aload_n 0, 1) := by decide +kernel
theorem d_M_signed_1 : decode b_M_signed 1 = .ok (.aload_n 2, 1) := by decide +kernel
theorem d_M_signed_2 : decode b_M_signed 2 = .ok (.invokevirtual 54, 3) := by decide +kernel
theorem d_M_signed_5 : decode b_M_signed 5 = .ok (.istore 5, 2) := by decide +kernel
theorem d_M_signed_7 : decode b_M_signed 7 = .ok (.aload_n 0, 1) := by decide +kernel
theorem d_M_signed_8 : decode b_M_signed 8 = .ok (.aload_n 3, 1) := by decide +kernel
theorem d_M_signed_9 : decode b_M_signed 9 = .ok (.invokevirtual 54, 3) := by decide +kernel
theorem d_M_signed_12 : decode b_M_signed 12 = .ok (.istore 6, 2) := by decide +kernel
theorem d_M_signed_14 : decode b_M_signed 14 = .ok (.aload_n 0, 1) := by decide +kernel
theorem d_M_signed_15 : decode b_M_signed 15 = .ok (.getfield 14, 3) := by decide +kernel
theorem d_M_signed_18 : decode b_M_signed 18 = .ok (.aload_n 2, 1) := by decide +kernel
theorem d_M_signed_19 : decode b_M_signed 19 = .ok (.invokestatic 58, 3) := by decide +kernel
theorem d_M_signed_22 : decode b_M_signed 22 = .ok (.aload_n 0, 1) := by decide +kernel
theorem d_M_signed_23 : decode b_M_signed 23 = .ok (.getfield 18, 3) := by decide +kernel
theorem d_M_signed_26 : decode b_M_signed 26 = .ok (.aload_n 3, 1) := by decide +kernel
theorem d_M_signed_27 : decode b_M_signed 27 = .ok (.invokestatic 58, 3) := by decide +kernel
theorem d_M_signed_30 : decode b_M_signed 30 = .ok (.iload 5, 2) := by decide +kernel
theorem d_M_signed_32 : decode b_M_signed 32 = .ok (.ifCond .eq 11, 3) := by decide +kernel
theorem d_M_signed_35 : decode b_M_signed 35 = .ok (.aload_n 0, 1) := by decide +kernel
theorem d_M_signed_36 : decode b_M_signed 36 = .ok (.aload_n 0, 1) := by decide +kernel
theorem d_M_signed_37 : decode b_M_signed 37 = .ok (.getfield 14, 3) := by decide +kernel
theorem d_M_signed_40 : decode b_M_signed 40 = .ok (.invokevirtual 62, 3) := by decide +kernel
theorem d_M_signed_43 : decode b_M_signed 43 = .ok (.iload 6, 2) := by decide +kernel
theorem d_M_signed_45 : decode b_M_signed 45 = .ok (.ifCond .eq 11, 3) := by decide +kernel
theorem d_M_signed_48 : decode b_M_signed 48 = .ok (.aload_n 0, 1) := by decide +kernel
theorem d_M_signed_49 : decode b_M_signed 49 = .ok (.aload_n 0, 1) := by decide +kernel
theorem d_M_signed_50 : decode b_M_signed 50 = .ok (.getfield 18, 3) := by decide +kernel
theorem d_M_signed_53 : decode b_M_signed 53 = .ok (.invokevirtual 62, 3) := by decide +kernel
theorem d_M_signed_56 : decode b_M_signed 56 = .ok (.aload_n 0, 1) := by decide +kernel
theorem d_M_signed_57 : decode b_M_signed 57 = .ok (.aload_n 0, 1) := by decide +kernel
theorem d_M_signed_58 : decode b_M_signed 58 = .ok (.getfield 14, 3) := by decide +kernel
theorem d_M_signed_61 : decode b_M_signed 61 = .ok (.aload_n 0, 1) := by decide +kernel
theorem d_M_signed_62 : decode b_M_signed 62 = .ok (.getfield 18, 3) := by decide +kernel
theorem d_M_signed_65 : decode b_M_signed 65 = .ok (.invokevirtual 65, 3) := by decide +kernel
theorem d_M_signed_68 : decode b_M_signed 68 = .ok (.aload_n 1, 1) := by decide +kernel
theorem d_M_signed_69 : decode b_M_signed 69 = .ok (.iload 4, 2) := by decide +kernel
theorem d_M_signed_71 : decode b_M_signed 71 = .ok (.ifCond .eq 10, 3) := by decide +kernel
theorem d_M_signed_74 : decode b_M_signed 74 = .ok (.aload_n 0, 1) := by decide +kernel
theorem d_M_signed_75 : decode b_M_signed 75 = .ok (.getfield 33, 3) := by decide +kernel
theorem d_M_signed_78 : decode b_M_signed 78 = .ok (.goto 7, 3) := by decide +kernel
theorem d_M_signed_81 : decode b_M_signed 81 = .ok (.aload_n 0, 1) := by decide +kernel
theorem d_M_signed_82 : decode b_M_signed 82 = .ok (.getfield 30, 3) := by decide +kernel
theorem d_M_signed_85 : decode b_M_signed 85 = .ok (.invokestatic 68, 3) := by decide +kernel
theorem d_M_signed_88 : decode b_M_signed 88 = .ok (.iload 4, 2) := by decide +kernel
theorem d_M_signed_90 : decode b_M_signed 90 = .ok (.ifCond .eq 11, 3) := by decide +kernel
theorem d_M_signed_93 : decode b_M_signed 93 = .ok (.iload 5, 2) := by decide +kernel
theorem d_M_signed_95 : decode b_M_signed 95 = .ok (.ifCond .eq 18, 3) := by decide +kernel
theorem d_M_signed_98 : decode b_M_signed 98 = .ok (.goto 10, 3) := by decide +kernel
theorem d_M_signed_101 : decode b_M_signed 101 = .ok (.iload 5, 2) := by decide +kernel
theorem d_M_signed_103 : decode b_M_signed 103 = .ok (.iload 6, 2) := by decide +kernel
theorem d_M_signed_105 : decode b_M_signed 105 = .ok (.if_icmp .eq 8, 3) := by decide +kernel
theorem d_M_signed_108 : decode b_M_signed 108 = .ok (.aload_n 0, 1) := by decide +kernel
theorem d_M_signed_109 : decode b_M_signed 109 = .ok (.aload_n 1, 1) := by decide +kernel
theorem d_M_signed_110 : decode b_M_signed 110 = .ok (.invokevirtual 62, 3) := by decide +kernel
theorem d_M_signed_113 : decode b_M_signed 113 = .ok (.return_, 1) := by decide +kernel
theorem d_M_below_0 : decode b_M_below 0 = .ok (.aload_n 1, 1) := by decide +kernel
theorem d_M_below_1 : decode b_M_below 1 = .ok (.bipush 7, 2) := by decide +kernel
theorem d_M_below_3 : decode b_M_below 3 = .ok (.iaload, 1) := by decide +kernel
theorem d_M_below_4 : decode b_M_below 4 = .ok (.ifCond .ge 7, 3) := by decide +kernel
theorem d_M_below_7 : decode b_M_below 7 = .ok (.iconst 1, 1) := by decide +kernel
theorem d_M_below_8 : decode b_M_below 8 = .ok (.goto 4, 3) := by decide +kernel
theorem d_M_below_11 : decode b_M_below 11 = .ok (.iconst 0, 1) := by decide +kernel
theorem d_M_below_12 : decode b_M_below 12 = .ok (.ireturn, 1) := by decide +kernel
theorem d_M_copy_0 : decode b_M_copy 0 = .ok (.iconst 0, 1) := by decide +kernel
theorem d_M_copy_1 : decode b_M_copy 1 = .ok (.istore_n 2, 1) := by decide +kernel
theorem d_M_copy_2 : decode b_M_copy 2 = .ok (.iload_n 2, 1) := by decide +kernel
theorem d_M_copy_3 : decode b_M_copy 3 = .ok (.bipush 8, 2) := by decide +kernel
theorem d_M_copy_5 : decode b_M_copy 5 = .ok (.if_icmp .ge 15, 3) := by decide +kernel
theorem d_M_copy_8 : decode b_M_copy 8 = .ok (.aload_n 0, 1) := by decide +kernel
theorem d_M_copy_9 : decode b_M_copy 9 = .ok (.iload_n 2, 1) := by decide +kernel
theorem d_M_copy_10 : decode b_M_copy 10 = .ok (.aload_n 1, 1) := by decide +kernel
theorem d_M_copy_11 : decode b_M_copy 11 = .ok (.iload_n 2, 1) := by decide +kernel
theorem d_M_copy_12 : decode b_M_copy 12 = .ok (.iaload, 1) := by decide +kernel
theorem d_M_copy_13 : decode b_M_copy 13 = .ok (.iastore, 1) := by decide +kernel
theorem d_M_copy_14 : decode b_M_copy 14 = .ok (.iinc 2 1, 3) := by decide +kernel
theorem d_M_copy_17 : decode b_M_copy 17 = .ok (.goto (-15), 3) := by decide +kernel
theorem d_M_copy_20 : decode b_M_copy 20 = .ok (.return_, 1) := by decide +kernel
theorem d_M_negate_0 : decode b_M_negate 0 = .ok (.aload_n 1, 1) := by decide +kernel
theorem d_M_negate_1 : decode b_M_negate 1 = .ok (.aload_n 0, 1) := by decide +kernel
theorem d_M_negate_2 : decode b_M_negate 2 = .ok (.getfield 24, 3) := by decide +kernel
theorem d_M_negate_5 : decode b_M_negate 5 = .ok (.aload_n 1, 1) := by decide +kernel
theorem d_M_negate_6 : decode b_M_negate 6 = .ok (.invokestatic 46, 3) := by decide +kernel
theorem d_M_negate_9 : decode b_M_negate 9 = .ok (.return_, 1) := by decide +kernel
theorem d_M_power_0 : decode b_M_power 0 = .ok (.aload_n 0, 1) := by decide +kernel
theorem d_M_power_1 : decode b_M_power 1 = .ok (.getfield 21, 3) := by decide +kernel
theorem d_M_power_4 : decode b_M_power 4 = .ok (.lconst 1, 1) := by decide +kernel
theorem d_M_power_5 : decode b_M_power 5 = .ok (.invokestatic 71, 3) := by decide +kernel
theorem d_M_power_8 : decode b_M_power 8 = .ok (.sipush 255, 3) := by decide +kernel
theorem d_M_power_11 : decode b_M_power 11 = .ok (.istore_n 3, 1) := by decide +kernel
theorem d_M_power_12 : decode b_M_power 12 = .ok (.iload_n 3, 1) := by decide +kernel
theorem d_M_power_13 : decode b_M_power 13 = .ok (.ifCond .lt 63, 3) := by decide +kernel
theorem d_M_power_16 : decode b_M_power 16 = .ok (.aload_n 0, 1) := by decide +kernel
theorem d_M_power_17 : decode b_M_power 17 = .ok (.aload_n 0, 1) := by decide +kernel
theorem d_M_power_18 : decode b_M_power 18 = .ok (.getfield 21, 3) := by decide +kernel
theorem d_M_power_21 : decode b_M_power 21 = .ok (.aload_n 0, 1) := by decide +kernel
theorem d_M_power_22 : decode b_M_power 22 = .ok (.getfield 21, 3) := by decide +kernel
theorem d_M_power_25 : decode b_M_power 25 = .ok (.invokevirtual 75, 3) := by decide +kernel
theorem d_M_power_28 : decode b_M_power 28 = .ok (.aload_n 0, 1) := by decide +kernel
theorem d_M_power_29 : decode b_M_power 29 = .ok (.getfield 21, 3) := by decide +kernel
theorem d_M_power_32 : decode b_M_power 32 = .ok (.aload_n 0, 1) := by decide +kernel
theorem d_M_power_33 : decode b_M_power 33 = .ok (.getfield 27, 3) := by decide +kernel
theorem d_M_power_36 : decode b_M_power 36 = .ok (.invokestatic 68, 3) := by decide +kernel
theorem d_M_power_39 : decode b_M_power 39 = .ok (.aload_n 2, 1) := by decide +kernel
theorem d_M_power_40 : decode b_M_power 40 = .ok (.iload_n 3, 1) := by decide +kernel
theorem d_M_power_41 : decode b_M_power 41 = .ok (.invokestatic 78, 3) := by decide +kernel
theorem d_M_power_44 : decode b_M_power 44 = .ok (.ifCond .ne 6, 3) := by decide +kernel
theorem d_M_power_47 : decode b_M_power 47 = .ok (.goto 23, 3) := by decide +kernel
theorem d_M_power_50 : decode b_M_power 50 = .ok (.aload_n 0, 1) := by decide +kernel
theorem d_M_power_51 : decode b_M_power 51 = .ok (.aload_n 0, 1) := by decide +kernel
theorem d_M_power_52 : decode b_M_power 52 = .ok (.getfield 21, 3) := by decide +kernel
theorem d_M_power_55 : decode b_M_power 55 = .ok (.aload_n 1, 1) := by decide +kernel
theorem d_M_power_56 : decode b_M_power 56 = .ok (.invokevirtual 75, 3) := by decide +kernel
theorem d_M_power_59 : decode b_M_power 59 = .ok (.aload_n 0, 1) := by decide +kernel
theorem d_M_power_60 : decode b_M_power 60 = .ok (.getfield 21, 3) := by decide +kernel
theorem d_M_power_63 : decode b_M_power 63 = .ok (.aload_n 0, 1) := by decide +kernel
theorem d_M_power_64 : decode b_M_power 64 = .ok (.getfield 27, 3) := by decide +kernel
theorem d_M_power_67 : decode b_M_power 67 = .ok (.invokestatic 68, 3) := by decide +kernel
theorem d_M_power_70 : decode b_M_power 70 = .ok (.iinc 3 (-1), 3) := by decide +kernel
theorem d_M_power_73 : decode b_M_power 73 = .ok (.goto (-61), 3) := by decide +kernel
theorem d_M_power_76 : decode b_M_power 76 = .ok (.return_, 1) := by decide +kernel
theorem d_M_set_IJV_0 : decode b_M_set_IJV 0 = .ok (.aload_n 0, 1) := by decide +kernel
theorem d_M_set_IJV_1 : decode b_M_set_IJV 1 = .ok (.invokestatic 42, 3) := by decide +kernel
theorem d_M_set_IJV_4 : decode b_M_set_IJV 4 = .ok (.aload_n 0, 1) := by decide +kernel
theorem d_M_set_IJV_5 : decode b_M_set_IJV 5 = .ok (.iconst 0, 1) := by decide +kernel
theorem d_M_set_IJV_6 : decode b_M_set_IJV 6 = .ok (.lload_n 1, 1) := by decide +kernel
theorem d_M_set_IJV_7 : decode b_M_set_IJV 7 = .ok (.l2i, 1) := by decide +kernel
theorem d_M_set_IJV_8 : decode b_M_set_IJV 8 = .ok (.iastore, 1) := by decide +kernel
theorem d_M_set_IJV_9 : decode b_M_set_IJV 9 = .ok (.aload_n 0, 1) := by decide +kernel
theorem d_M_set_IJV_10 : decode b_M_set_IJV 10 = .ok (.iconst 1, 1) := by decide +kernel
theorem d_M_set_IJV_11 : decode b_M_set_IJV 11 = .ok (.lload_n 1, 1) := by decide +kernel
theorem d_M_set_IJV_12 : decode b_M_set_IJV 12 = .ok (.bipush 32, 2) := by decide +kernel
theorem d_M_set_IJV_14 : decode b_M_set_IJV 14 = .ok (.lushr, 1) := by decide +kernel
theorem d_M_set_IJV_15 : decode b_M_set_IJV 15 = .ok (.l2i, 1) := by decide +kernel
theorem d_M_set_IJV_16 : decode b_M_set_IJV 16 = .ok (.iastore, 1) := by decide +kernel
theorem d_M_set_IJV_17 : decode b_M_set_IJV 17 = .ok (.return_, 1) := by decide +kernel
theorem d_M_bit_0 : decode b_M_bit 0 = .ok (.aload_n 0, 1) := by decide +kernel
theorem d_M_bit_1 : decode b_M_bit 1 = .ok (.iload_n 1, 1) := by decide +kernel
theorem d_M_bit_2 : decode b_M_bit 2 = .ok (.iconst 5, 1) := by decide +kernel
theorem d_M_bit_3 : decode b_M_bit 3 = .ok (.ishr, 1) := by decide +kernel
theorem d_M_bit_4 : decode b_M_bit 4 = .ok (.iaload, 1) := by decide +kernel
theorem d_M_bit_5 : decode b_M_bit 5 = .ok (.iload_n 1, 1) := by decide +kernel
theorem d_M_bit_6 : decode b_M_bit 6 = .ok (.bipush 31, 2) := by decide +kernel
theorem d_M_bit_8 : decode b_M_bit 8 = .ok (.iand, 1) := by decide +kernel
theorem d_M_bit_9 : decode b_M_bit 9 = .ok (.iushr, 1) := by decide +kernel
theorem d_M_bit_10 : decode b_M_bit 10 = .ok (.iconst 1, 1) := by decide +kernel
theorem d_M_bit_11 : decode b_M_bit 11 = .ok (.iand, 1) := by decide +kernel
theorem d_M_bit_12 : decode b_M_bit 12 = .ok (.ireturn, 1) := by decide +kernel
theorem d_M_extend_0 : decode b_M_extend 0 = .ok (.aload_n 0, 1) := by decide +kernel
theorem d_M_extend_1 : decode b_M_extend 1 = .ok (.getfield 21, 3) := by decide +kernel
theorem d_M_extend_4 : decode b_M_extend 4 = .ok (.aload_n 2, 1) := by decide +kernel
theorem d_M_extend_5 : decode b_M_extend 5 = .ok (.invokestatic 58, 3) := by decide +kernel
theorem d_M_extend_8 : decode b_M_extend 8 = .ok (.aload_n 1, 1) := by decide +kernel
theorem d_M_extend_9 : decode b_M_extend 9 = .ok (.ldc2_w 82, 3) := by decide +kernel
theorem d_M_extend_12 : decode b_M_extend 12 = .ok (.invokestatic 84, 3) := by decide +kernel
theorem d_M_extend_15 : decode b_M_extend 15 = .ok (.lstore_n 3, 1) := by decide +kernel
theorem d_M_extend_16 : decode b_M_extend 16 = .ok (.lload_n 3, 1) := by decide +kernel
theorem d_M_extend_17 : decode b_M_extend 17 = .ok (.ldc2_w 88, 3) := by decide +kernel
theorem d_M_extend_20 : decode b_M_extend 20 = .ok (.lcmp, 1) := by decide +kernel
theorem d_M_extend_21 : decode b_M_extend 21 = .ok (.ifCond .le 4, 3) := by decide +kernel
theorem d_M_extend_24 : decode b_M_extend 24 = .ok (.return_, 1) := by decide +kernel
theorem d_M_extend_25 : decode b_M_extend 25 = .ok (.bipush 8, 2) := by decide +kernel
theorem d_M_extend_27 : decode b_M_extend 27 = .ok (.lload_n 3, 1) := by decide +kernel
theorem d_M_extend_28 : decode b_M_extend 28 = .ok (.l2i, 1) := by decide +kernel
theorem d_M_extend_29 : decode b_M_extend 29 = .ok (.imul, 1) := by decide +kernel
theorem d_M_extend_30 : decode b_M_extend 30 = .ok (.bipush 7, 2) := by decide +kernel
theorem d_M_extend_32 : decode b_M_extend 32 = .ok (.iadd, 1) := by decide +kernel
theorem d_M_extend_33 : decode b_M_extend 33 = .ok (.istore 5, 2) := by decide +kernel
theorem d_M_extend_35 : decode b_M_extend 35 = .ok (.aload_n 2, 1) := by decide +kernel
theorem d_M_extend_36 : decode b_M_extend 36 = .ok (.iload 5, 2) := by decide +kernel
theorem d_M_extend_38 : decode b_M_extend 38 = .ok (.invokestatic 78, 3) := by decide +kernel
theorem d_M_extend_41 : decode b_M_extend 41 = .ok (.istore 6, 2) := by decide +kernel
theorem d_M_extend_43 : decode b_M_extend 43 = .ok (.iload 5, 2) := by decide +kernel
theorem d_M_extend_45 : decode b_M_extend 45 = .ok (.iconst 1, 1) := by decide +kernel
theorem d_M_extend_46 : decode b_M_extend 46 = .ok (.iadd, 1) := by decide +kernel
theorem d_M_extend_47 : decode b_M_extend 47 = .ok (.istore 7, 2) := by decide +kernel
theorem d_M_extend_49 : decode b_M_extend 49 = .ok (.iload 7, 2) := by decide +kernel
theorem d_M_extend_51 : decode b_M_extend 51 = .ok (.sipush 256, 3) := by decide +kernel
theorem d_M_extend_54 : decode b_M_extend 54 = .ok (.if_icmp .ge 46, 3) := by decide +kernel
theorem d_M_extend_57 : decode b_M_extend 57 = .ok (.aload_n 0, 1) := by decide +kernel
theorem d_M_extend_58 : decode b_M_extend 58 = .ok (.getfield 21, 3) := by decide +kernel
theorem d_M_extend_61 : decode b_M_extend 61 = .ok (.iload 7, 2) := by decide +kernel
theorem d_M_extend_63 : decode b_M_extend 63 = .ok (.iconst 5, 1) := by decide +kernel
theorem d_M_extend_64 : decode b_M_extend 64 = .ok (.ishr, 1) := by decide +kernel
theorem d_M_extend_65 : decode b_M_extend 65 = .ok (.aload_n 0, 1) := by decide +kernel
theorem d_M_extend_66 : decode b_M_extend 66 = .ok (.getfield 21, 3) := by decide +kernel
theorem d_M_extend_69 : decode b_M_extend 69 = .ok (.iload 7, 2) := by decide +kernel
theorem d_M_extend_71 : decode b_M_extend 71 = .ok (.iconst 5, 1) := by decide +kernel
theorem d_M_extend_72 : decode b_M_extend 72 = .ok (.ishr, 1) := by decide +kernel
theorem d_M_extend_73 : decode b_M_extend 73 = .ok (.iaload, 1) := by decide +kernel
theorem d_M_extend_74 : decode b_M_extend 74 = .ok (.iconst 1, 1) := by decide +kernel
theorem d_M_extend_75 : decode b_M_extend 75 = .ok (.iload 7, 2) := by decide +kernel
theorem d_M_extend_77 : decode b_M_extend 77 = .ok (.bipush 31, 2) := by decide +kernel
theorem d_M_extend_79 : decode b_M_extend 79 = .ok (.iand, 1) := by decide +kernel
theorem d_M_extend_80 : decode b_M_extend 80 = .ok (.ishl, 1) := by decide +kernel
theorem d_M_extend_81 : decode b_M_extend 81 = .ok (.iconst (-1), 1) := by decide +kernel
theorem d_M_extend_82 : decode b_M_extend 82 = .ok (.ixor, 1) := by decide +kernel
theorem d_M_extend_83 : decode b_M_extend 83 = .ok (.iand, 1) := by decide +kernel
theorem d_M_extend_84 : decode b_M_extend 84 = .ok (.iload 6, 2) := by decide +kernel
theorem d_M_extend_86 : decode b_M_extend 86 = .ok (.iload 7, 2) := by decide +kernel
theorem d_M_extend_88 : decode b_M_extend 88 = .ok (.bipush 31, 2) := by decide +kernel
theorem d_M_extend_90 : decode b_M_extend 90 = .ok (.iand, 1) := by decide +kernel
theorem d_M_extend_91 : decode b_M_extend 91 = .ok (.ishl, 1) := by decide +kernel
theorem d_M_extend_92 : decode b_M_extend 92 = .ok (.ior, 1) := by decide +kernel
theorem d_M_extend_93 : decode b_M_extend 93 = .ok (.iastore, 1) := by decide +kernel
theorem d_M_extend_94 : decode b_M_extend 94 = .ok (.iinc 7 1, 3) := by decide +kernel
theorem d_M_extend_97 : decode b_M_extend 97 = .ok (.goto (-48), 3) := by decide +kernel
theorem d_M_extend_100 : decode b_M_extend 100 = .ok (.return_, 1) := by decide +kernel
theorem d_M_small_0 : decode b_M_small 0 = .ok (.iconst 2, 1) := by decide +kernel
theorem d_M_small_1 : decode b_M_small 1 = .ok (.istore_n 3, 1) := by decide +kernel
theorem d_M_small_2 : decode b_M_small 2 = .ok (.iload_n 3, 1) := by decide +kernel
theorem d_M_small_3 : decode b_M_small 3 = .ok (.bipush 8, 2) := by decide +kernel
theorem d_M_small_5 : decode b_M_small 5 = .ok (.if_icmp .ge 19, 3) := by decide +kernel
theorem d_M_small_8 : decode b_M_small 8 = .ok (.aload_n 0, 1) := by decide +kernel
theorem d_M_small_9 : decode b_M_small 9 = .ok (.iload_n 3, 1) := by decide +kernel
theorem d_M_small_10 : decode b_M_small 10 = .ok (.iaload, 1) := by decide +kernel
theorem d_M_small_11 : decode b_M_small 11 = .ok (.ifCond .eq 7, 3) := by decide +kernel
theorem d_M_small_14 : decode b_M_small 14 = .ok (.lload_n 1, 1) := by decide +kernel
theorem d_M_small_15 : decode b_M_small 15 = .ok (.lconst 1, 1) := by decide +kernel
theorem d_M_small_16 : decode b_M_small 16 = .ok (.ladd, 1) := by decide +kernel
theorem d_M_small_17 : decode b_M_small 17 = .ok (.lreturn, 1) := by decide +kernel
theorem d_M_small_18 : decode b_M_small 18 = .ok (.iinc 3 1, 3) := by decide +kernel
theorem d_M_small_21 : decode b_M_small 21 = .ok (.goto (-19), 3) := by decide +kernel
theorem d_M_small_24 : decode b_M_small 24 = .ok (.aload_n 0, 1) := by decide +kernel
theorem d_M_small_25 : decode b_M_small 25 = .ok (.iconst 1, 1) := by decide +kernel
theorem d_M_small_26 : decode b_M_small 26 = .ok (.iaload, 1) := by decide +kernel
theorem d_M_small_27 : decode b_M_small 27 = .ok (.i2l, 1) := by decide +kernel
theorem d_M_small_28 : decode b_M_small 28 = .ok (.ldc2_w 40, 3) := by decide +kernel
theorem d_M_small_31 : decode b_M_small 31 = .ok (.land, 1) := by decide +kernel
theorem d_M_small_32 : decode b_M_small 32 = .ok (.bipush 32, 2) := by decide +kernel
theorem d_M_small_34 : decode b_M_small 34 = .ok (.lshl, 1) := by decide +kernel
theorem d_M_small_35 : decode b_M_small 35 = .ok (.aload_n 0, 1) := by decide +kernel
theorem d_M_small_36 : decode b_M_small 36 = .ok (.iconst 0, 1) := by decide +kernel
theorem d_M_small_37 : decode b_M_small 37 = .ok (.iaload, 1) := by decide +kernel
theorem d_M_small_38 : decode b_M_small 38 = .ok (.i2l, 1) := by decide +kernel
theorem d_M_small_39 : decode b_M_small 39 = .ok (.ldc2_w 40, 3) := by decide +kernel
theorem d_M_small_42 : decode b_M_small 42 = .ok (.land, 1) := by decide +kernel
theorem d_M_small_43 : decode b_M_small 43 = .ok (.lor, 1) := by decide +kernel
theorem d_M_small_44 : decode b_M_small 44 = .ok (.lstore_n 3, 1) := by decide +kernel
theorem d_M_small_45 : decode b_M_small 45 = .ok (.lload_n 3, 1) := by decide +kernel
theorem d_M_small_46 : decode b_M_small 46 = .ok (.lconst 0, 1) := by decide +kernel
theorem d_M_small_47 : decode b_M_small 47 = .ok (.lcmp, 1) := by decide +kernel
theorem d_M_small_48 : decode b_M_small 48 = .ok (.ifCond .lt 9, 3) := by decide +kernel
theorem d_M_small_51 : decode b_M_small 51 = .ok (.lload_n 3, 1) := by decide +kernel
theorem d_M_small_52 : decode b_M_small 52 = .ok (.lload_n 1, 1) := by decide +kernel
theorem d_M_small_53 : decode b_M_small 53 = .ok (.lcmp, 1) := by decide +kernel
theorem d_M_small_54 : decode b_M_small 54 = .ok (.ifCond .le 9, 3) := by decide +kernel
theorem d_M_small_57 : decode b_M_small 57 = .ok (.lload_n 1, 1) := by decide +kernel
theorem d_M_small_58 : decode b_M_small 58 = .ok (.lconst 1, 1) := by decide +kernel
theorem d_M_small_59 : decode b_M_small 59 = .ok (.ladd, 1) := by decide +kernel
theorem d_M_small_60 : decode b_M_small 60 = .ok (.goto 4, 3) := by decide +kernel
theorem d_M_small_63 : decode b_M_small 63 = .ok (.lload_n 3, 1) := by decide +kernel
theorem d_M_small_64 : decode b_M_small 64 = .ok (.lreturn, 1) := by decide +kernel
theorem d_M_modular_0 : decode b_M_modular 0 = .ok (.aload_n 0, 1) := by decide +kernel
theorem d_M_modular_1 : decode b_M_modular 1 = .ok (.iconst 0, 1) := by decide +kernel
theorem d_M_modular_2 : decode b_M_modular 2 = .ok (.putfield 36, 3) := by decide +kernel
theorem d_M_modular_5 : decode b_M_modular 5 = .ok (.aload_n 0, 1) := by decide +kernel
theorem d_M_modular_6 : decode b_M_modular 6 = .ok (.iload_n 1, 1) := by decide +kernel
theorem d_M_modular_7 : decode b_M_modular 7 = .ok (.invokevirtual 90, 3) := by decide +kernel
theorem d_M_modular_10 : decode b_M_modular 10 = .ok (.ifCond .ne 28, 3) := by decide +kernel
theorem d_M_modular_13 : decode b_M_modular 13 = .ok (.aload_n 0, 1) := by decide +kernel
theorem d_M_modular_14 : decode b_M_modular 14 = .ok (.iload_n 2, 1) := by decide +kernel
theorem d_M_modular_15 : decode b_M_modular 15 = .ok (.invokevirtual 90, 3) := by decide +kernel
theorem d_M_modular_18 : decode b_M_modular 18 = .ok (.ifCond .ne 20, 3) := by decide +kernel
theorem d_M_modular_21 : decode b_M_modular 21 = .ok (.aload_n 0, 1) := by decide +kernel
theorem d_M_modular_22 : decode b_M_modular 22 = .ok (.iload_n 3, 1) := by decide +kernel
theorem d_M_modular_23 : decode b_M_modular 23 = .ok (.invokevirtual 90, 3) := by decide +kernel
theorem d_M_modular_26 : decode b_M_modular 26 = .ok (.ifCond .ne 12, 3) := by decide +kernel
theorem d_M_modular_29 : decode b_M_modular 29 = .ok (.aload_n 0, 1) := by decide +kernel
theorem d_M_modular_30 : decode b_M_modular 30 = .ok (.iload 4, 2) := by decide +kernel
theorem d_M_modular_32 : decode b_M_modular 32 = .ok (.invokevirtual 90, 3) := by decide +kernel
theorem d_M_modular_35 : decode b_M_modular 35 = .ok (.ifCond .eq 11, 3) := by decide +kernel
theorem d_M_modular_38 : decode b_M_modular 38 = .ok (.aload_n 0, 1) := by decide +kernel
theorem d_M_modular_39 : decode b_M_modular 39 = .ok (.iconst 1, 1) := by decide +kernel
theorem d_M_modular_40 : decode b_M_modular 40 = .ok (.putfield 36, 3) := by decide +kernel
theorem d_M_modular_43 : decode b_M_modular 43 = .ok (.goto 172, 3) := by decide +kernel
theorem d_M_modular_46 : decode b_M_modular 46 = .ok (.iload 5, 2) := by decide +kernel
theorem d_M_modular_48 : decode b_M_modular 48 = .ok (.ifCond .eq 22, 3) := by decide +kernel
theorem d_M_modular_51 : decode b_M_modular 51 = .ok (.aload_n 0, 1) := by decide +kernel
theorem d_M_modular_52 : decode b_M_modular 52 = .ok (.aload_n 0, 1) := by decide +kernel
theorem d_M_modular_53 : decode b_M_modular 53 = .ok (.getfield 9, 3) := by decide +kernel
theorem d_M_modular_56 : decode b_M_modular 56 = .ok (.iload_n 2, 1) := by decide +kernel
theorem d_M_modular_57 : decode b_M_modular 57 = .ok (.aaload, 1) := by decide +kernel
theorem d_M_modular_58 : decode b_M_modular 58 = .ok (.aload_n 0, 1) := by decide +kernel
theorem d_M_modular_59 : decode b_M_modular 59 = .ok (.getfield 9, 3) := by decide +kernel
theorem d_M_modular_62 : decode b_M_modular 62 = .ok (.iload_n 3, 1) := by decide +kernel
theorem d_M_modular_63 : decode b_M_modular 63 = .ok (.aaload, 1) := by decide +kernel
theorem d_M_modular_64 : decode b_M_modular 64 = .ok (.invokevirtual 75, 3) := by decide +kernel
theorem d_M_modular_67 : decode b_M_modular 67 = .ok (.goto 87, 3) := by decide +kernel
theorem d_M_modular_70 : decode b_M_modular 70 = .ok (.iconst 0, 1) := by decide +kernel
theorem d_M_modular_71 : decode b_M_modular 71 = .ok (.istore 6, 2) := by decide +kernel
theorem d_M_modular_73 : decode b_M_modular 73 = .ok (.iload 6, 2) := by decide +kernel
theorem d_M_modular_75 : decode b_M_modular 75 = .ok (.bipush 17, 2) := by decide +kernel
theorem d_M_modular_77 : decode b_M_modular 77 = .ok (.if_icmp .ge 17, 3) := by decide +kernel
theorem d_M_modular_80 : decode b_M_modular 80 = .ok (.aload_n 0, 1) := by decide +kernel
theorem d_M_modular_81 : decode b_M_modular 81 = .ok (.getfield 27, 3) := by decide +kernel
theorem d_M_modular_84 : decode b_M_modular 84 = .ok (.iload 6, 2) := by decide +kernel
theorem d_M_modular_86 : decode b_M_modular 86 = .ok (.iconst 0, 1) := by decide +kernel
theorem d_M_modular_87 : decode b_M_modular 87 = .ok (.iastore, 1) := by decide +kernel
theorem d_M_modular_88 : decode b_M_modular 88 = .ok (.iinc 6 1, 3) := by decide +kernel
theorem d_M_modular_91 : decode b_M_modular 91 = .ok (.goto (-18), 3) := by decide +kernel
theorem d_M_modular_94 : decode b_M_modular 94 = .ok (.aload_n 0, 1) := by decide +kernel
theorem d_M_modular_95 : decode b_M_modular 95 = .ok (.getfield 14, 3) := by decide +kernel
theorem d_M_modular_98 : decode b_M_modular 98 = .ok (.aload_n 0, 1) := by decide +kernel
theorem d_M_modular_99 : decode b_M_modular 99 = .ok (.getfield 9, 3) := by decide +kernel
theorem d_M_modular_102 : decode b_M_modular 102 = .ok (.iload_n 2, 1) := by decide +kernel
theorem d_M_modular_103 : decode b_M_modular 103 = .ok (.aaload, 1) := by decide +kernel
theorem d_M_modular_104 : decode b_M_modular 104 = .ok (.aload_n 0, 1) := by decide +kernel
theorem d_M_modular_105 : decode b_M_modular 105 = .ok (.getfield 9, 3) := by decide +kernel
theorem d_M_modular_108 : decode b_M_modular 108 = .ok (.iload_n 3, 1) := by decide +kernel
theorem d_M_modular_109 : decode b_M_modular 109 = .ok (.aaload, 1) := by decide +kernel
theorem d_M_modular_110 : decode b_M_modular 110 = .ok (.invokestatic 109, 3) := by decide +kernel
theorem d_M_modular_113 : decode b_M_modular 113 = .ok (.istore 6, 2) := by decide +kernel
theorem d_M_modular_115 : decode b_M_modular 115 = .ok (.iconst 0, 1) := by decide +kernel
theorem d_M_modular_116 : decode b_M_modular 116 = .ok (.istore 7, 2) := by decide +kernel
theorem d_M_modular_118 : decode b_M_modular 118 = .ok (.iload 7, 2) := by decide +kernel
theorem d_M_modular_120 : decode b_M_modular 120 = .ok (.bipush 8, 2) := by decide +kernel
theorem d_M_modular_122 : decode b_M_modular 122 = .ok (.if_icmp .ge 23, 3) := by decide +kernel
theorem d_M_modular_125 : decode b_M_modular 125 = .ok (.aload_n 0, 1) := by decide +kernel
theorem d_M_modular_126 : decode b_M_modular 126 = .ok (.getfield 27, 3) := by decide +kernel
theorem d_M_modular_129 : decode b_M_modular 129 = .ok (.iload 7, 2) := by decide +kernel
theorem d_M_modular_131 : decode b_M_modular 131 = .ok (.aload_n 0, 1) := by decide +kernel
theorem d_M_modular_132 : decode b_M_modular 132 = .ok (.getfield 14, 3) := by decide +kernel
theorem d_M_modular_135 : decode b_M_modular 135 = .ok (.iload 7, 2) := by decide +kernel
theorem d_M_modular_137 : decode b_M_modular 137 = .ok (.iaload, 1) := by decide +kernel
theorem d_M_modular_138 : decode b_M_modular 138 = .ok (.iastore, 1) := by decide +kernel
theorem d_M_modular_139 : decode b_M_modular 139 = .ok (.iinc 7 1, 3) := by decide +kernel
theorem d_M_modular_142 : decode b_M_modular 142 = .ok (.goto (-24), 3) := by decide +kernel
theorem d_M_modular_145 : decode b_M_modular 145 = .ok (.aload_n 0, 1) := by decide +kernel
theorem d_M_modular_146 : decode b_M_modular 146 = .ok (.getfield 27, 3) := by decide +kernel
theorem d_M_modular_149 : decode b_M_modular 149 = .ok (.bipush 8, 2) := by decide +kernel
theorem d_M_modular_151 : decode b_M_modular 151 = .ok (.iload 6, 2) := by decide +kernel
theorem d_M_modular_153 : decode b_M_modular 153 = .ok (.iastore, 1) := by decide +kernel
theorem d_M_modular_154 : decode b_M_modular 154 = .ok (.aload_n 0, 1) := by decide +kernel
theorem d_M_modular_155 : decode b_M_modular 155 = .ok (.getfield 9, 3) := by decide +kernel
theorem d_M_modular_158 : decode b_M_modular 158 = .ok (.iload 4, 2) := by decide +kernel
theorem d_M_modular_160 : decode b_M_modular 160 = .ok (.aaload, 1) := by decide +kernel
theorem d_M_modular_161 : decode b_M_modular 161 = .ok (.invokestatic 106, 3) := by decide +kernel
theorem d_M_modular_164 : decode b_M_modular 164 = .ok (.ifCond .eq 13, 3) := by decide +kernel
theorem d_M_modular_167 : decode b_M_modular 167 = .ok (.aload_n 0, 1) := by decide +kernel
theorem d_M_modular_168 : decode b_M_modular 168 = .ok (.getfield 21, 3) := by decide +kernel
theorem d_M_modular_171 : decode b_M_modular 171 = .ok (.invokestatic 42, 3) := by decide +kernel
theorem d_M_modular_174 : decode b_M_modular 174 = .ok (.goto 28, 3) := by decide +kernel
theorem d_M_modular_177 : decode b_M_modular 177 = .ok (.aload_n 0, 1) := by decide +kernel
theorem d_M_modular_178 : decode b_M_modular 178 = .ok (.aload_n 0, 1) := by decide +kernel
theorem d_M_modular_179 : decode b_M_modular 179 = .ok (.getfield 9, 3) := by decide +kernel
theorem d_M_modular_182 : decode b_M_modular 182 = .ok (.iload 4, 2) := by decide +kernel
theorem d_M_modular_184 : decode b_M_modular 184 = .ok (.aaload, 1) := by decide +kernel
theorem d_M_modular_185 : decode b_M_modular 185 = .ok (.sipush 512, 3) := by decide +kernel
theorem d_M_modular_188 : decode b_M_modular 188 = .ok (.invokevirtual 50, 3) := by decide +kernel
theorem d_M_modular_191 : decode b_M_modular 191 = .ok (.aload_n 0, 1) := by decide +kernel
theorem d_M_modular_192 : decode b_M_modular 192 = .ok (.getfield 21, 3) := by decide +kernel
theorem d_M_modular_195 : decode b_M_modular 195 = .ok (.aload_n 0, 1) := by decide +kernel
theorem d_M_modular_196 : decode b_M_modular 196 = .ok (.getfield 33, 3) := by decide +kernel
theorem d_M_modular_199 : decode b_M_modular 199 = .ok (.invokestatic 68, 3) := by decide +kernel
theorem d_M_modular_202 : decode b_M_modular 202 = .ok (.aload_n 0, 1) := by decide +kernel
theorem d_M_modular_203 : decode b_M_modular 203 = .ok (.getfield 9, 3) := by decide +kernel
theorem d_M_modular_206 : decode b_M_modular 206 = .ok (.iload_n 1, 1) := by decide +kernel
theorem d_M_modular_207 : decode b_M_modular 207 = .ok (.aaload, 1) := by decide +kernel
theorem d_M_modular_208 : decode b_M_modular 208 = .ok (.aload_n 0, 1) := by decide +kernel
theorem d_M_modular_209 : decode b_M_modular 209 = .ok (.getfield 21, 3) := by decide +kernel
theorem d_M_modular_212 : decode b_M_modular 212 = .ok (.invokestatic 58, 3) := by decide +kernel
theorem d_M_modular_215 : decode b_M_modular 215 = .ok (.return_, 1) := by decide +kernel
theorem d_M_turn_0 : decode b_M_turn 0 = .ok (.aload_n 0, 1) := by decide +kernel
theorem d_M_turn_1 : decode b_M_turn 1 = .ok (.iconst 0, 1) := by decide +kernel
theorem d_M_turn_2 : decode b_M_turn 2 = .ok (.putfield 36, 3) := by decide +kernel
theorem d_M_turn_5 : decode b_M_turn 5 = .ok (.aload_n 0, 1) := by decide +kernel
theorem d_M_turn_6 : decode b_M_turn 6 = .ok (.iload_n 1, 1) := by decide +kernel
theorem d_M_turn_7 : decode b_M_turn 7 = .ok (.invokevirtual 90, 3) := by decide +kernel
theorem d_M_turn_10 : decode b_M_turn 10 = .ok (.ifCond .ne 11, 3) := by decide +kernel
theorem d_M_turn_13 : decode b_M_turn 13 = .ok (.aload_n 0, 1) := by decide +kernel
theorem d_M_turn_14 : decode b_M_turn 14 = .ok (.iload_n 2, 1) := by decide +kernel
theorem d_M_turn_15 : decode b_M_turn 15 = .ok (.invokevirtual 90, 3) := by decide +kernel
theorem d_M_turn_18 : decode b_M_turn 18 = .ok (.ifCond .eq 11, 3) := by decide +kernel
theorem d_M_turn_21 : decode b_M_turn 21 = .ok (.aload_n 0, 1) := by decide +kernel
theorem d_M_turn_22 : decode b_M_turn 22 = .ok (.iconst 1, 1) := by decide +kernel
theorem d_M_turn_23 : decode b_M_turn 23 = .ok (.putfield 36, 3) := by decide +kernel
theorem d_M_turn_26 : decode b_M_turn 26 = .ok (.goto 76, 3) := by decide +kernel
theorem d_M_turn_29 : decode b_M_turn 29 = .ok (.aload_n 0, 1) := by decide +kernel
theorem d_M_turn_30 : decode b_M_turn 30 = .ok (.getfield 21, 3) := by decide +kernel
theorem d_M_turn_33 : decode b_M_turn 33 = .ok (.aload_n 0, 1) := by decide +kernel
theorem d_M_turn_34 : decode b_M_turn 34 = .ok (.getfield 9, 3) := by decide +kernel
theorem d_M_turn_37 : decode b_M_turn 37 = .ok (.iload_n 2, 1) := by decide +kernel
theorem d_M_turn_38 : decode b_M_turn 38 = .ok (.aaload, 1) := by decide +kernel
theorem d_M_turn_39 : decode b_M_turn 39 = .ok (.invokestatic 58, 3) := by decide +kernel
theorem d_M_turn_42 : decode b_M_turn 42 = .ok (.iload_n 3, 1) := by decide +kernel
theorem d_M_turn_43 : decode b_M_turn 43 = .ok (.ifCond .eq 38, 3) := by decide +kernel
theorem d_M_turn_46 : decode b_M_turn 46 = .ok (.iconst 0, 1) := by decide +kernel
theorem d_M_turn_47 : decode b_M_turn 47 = .ok (.istore 4, 2) := by decide +kernel
theorem d_M_turn_49 : decode b_M_turn 49 = .ok (.iload 4, 2) := by decide +kernel
theorem d_M_turn_51 : decode b_M_turn 51 = .ok (.bipush 8, 2) := by decide +kernel
theorem d_M_turn_53 : decode b_M_turn 53 = .ok (.if_icmp .ge 25, 3) := by decide +kernel
theorem d_M_turn_56 : decode b_M_turn 56 = .ok (.aload_n 0, 1) := by decide +kernel
theorem d_M_turn_57 : decode b_M_turn 57 = .ok (.getfield 21, 3) := by decide +kernel
theorem d_M_turn_60 : decode b_M_turn 60 = .ok (.iload 4, 2) := by decide +kernel
theorem d_M_turn_62 : decode b_M_turn 62 = .ok (.aload_n 0, 1) := by decide +kernel
theorem d_M_turn_63 : decode b_M_turn 63 = .ok (.getfield 21, 3) := by decide +kernel
theorem d_M_turn_66 : decode b_M_turn 66 = .ok (.iload 4, 2) := by decide +kernel
theorem d_M_turn_68 : decode b_M_turn 68 = .ok (.iaload, 1) := by decide +kernel
theorem d_M_turn_69 : decode b_M_turn 69 = .ok (.iconst (-1), 1) := by decide +kernel
theorem d_M_turn_70 : decode b_M_turn 70 = .ok (.ixor, 1) := by decide +kernel
theorem d_M_turn_71 : decode b_M_turn 71 = .ok (.iastore, 1) := by decide +kernel
theorem d_M_turn_72 : decode b_M_turn 72 = .ok (.iinc 4 1, 3) := by decide +kernel
theorem d_M_turn_75 : decode b_M_turn 75 = .ok (.goto (-26), 3) := by decide +kernel
theorem d_M_turn_78 : decode b_M_turn 78 = .ok (.goto 11, 3) := by decide +kernel
theorem d_M_turn_81 : decode b_M_turn 81 = .ok (.aload_n 0, 1) := by decide +kernel
theorem d_M_turn_82 : decode b_M_turn 82 = .ok (.aload_n 0, 1) := by decide +kernel
theorem d_M_turn_83 : decode b_M_turn 83 = .ok (.getfield 21, 3) := by decide +kernel
theorem d_M_turn_86 : decode b_M_turn 86 = .ok (.invokevirtual 62, 3) := by decide +kernel
theorem d_M_turn_89 : decode b_M_turn 89 = .ok (.aload_n 0, 1) := by decide +kernel
theorem d_M_turn_90 : decode b_M_turn 90 = .ok (.getfield 9, 3) := by decide +kernel
theorem d_M_turn_93 : decode b_M_turn 93 = .ok (.iload_n 1, 1) := by decide +kernel
theorem d_M_turn_94 : decode b_M_turn 94 = .ok (.aaload, 1) := by decide +kernel
theorem d_M_turn_95 : decode b_M_turn 95 = .ok (.aload_n 0, 1) := by decide +kernel
theorem d_M_turn_96 : decode b_M_turn 96 = .ok (.getfield 21, 3) := by decide +kernel
theorem d_M_turn_99 : decode b_M_turn 99 = .ok (.invokestatic 58, 3) := by decide +kernel
theorem d_M_turn_102 : decode b_M_turn 102 = .ok (.return_, 1) := by decide +kernel
theorem d_M_compare_0 : decode b_M_compare 0 = .ok (.aload_n 0, 1) := by decide +kernel
theorem d_M_compare_1 : decode b_M_compare 1 = .ok (.iconst 0, 1) := by decide +kernel
theorem d_M_compare_2 : decode b_M_compare 2 = .ok (.putfield 36, 3) := by decide +kernel
theorem d_M_compare_5 : decode b_M_compare 5 = .ok (.aload_n 0, 1) := by decide +kernel
theorem d_M_compare_6 : decode b_M_compare 6 = .ok (.iload_n 1, 1) := by decide +kernel
theorem d_M_compare_7 : decode b_M_compare 7 = .ok (.invokevirtual 90, 3) := by decide +kernel
theorem d_M_compare_10 : decode b_M_compare 10 = .ok (.ifCond .ne 11, 3) := by decide +kernel
theorem d_M_compare_13 : decode b_M_compare 13 = .ok (.aload_n 0, 1) := by decide +kernel
theorem d_M_compare_14 : decode b_M_compare 14 = .ok (.iload_n 2, 1) := by decide +kernel
theorem d_M_compare_15 : decode b_M_compare 15 = .ok (.invokevirtual 90, 3) := by decide +kernel
theorem d_M_compare_18 : decode b_M_compare 18 = .ok (.ifCond .eq 9, 3) := by decide +kernel
theorem d_M_compare_21 : decode b_M_compare 21 = .ok (.aload_n 0, 1) := by decide +kernel
theorem d_M_compare_22 : decode b_M_compare 22 = .ok (.iconst 1, 1) := by decide +kernel
theorem d_M_compare_23 : decode b_M_compare 23 = .ok (.invokevirtual 94, 3) := by decide +kernel
theorem d_M_compare_26 : decode b_M_compare 26 = .ok (.ireturn, 1) := by decide +kernel
theorem d_M_compare_27 : decode b_M_compare 27 = .ok (.aload_n 0, 1) := by decide +kernel
theorem d_M_compare_28 : decode b_M_compare 28 = .ok (.getfield 14, 3) := by decide +kernel
theorem d_M_compare_31 : decode b_M_compare 31 = .ok (.aload_n 0, 1) := by decide +kernel
theorem d_M_compare_32 : decode b_M_compare 32 = .ok (.getfield 9, 3) := by decide +kernel
theorem d_M_compare_35 : decode b_M_compare 35 = .ok (.iload_n 1, 1) := by decide +kernel
theorem d_M_compare_36 : decode b_M_compare 36 = .ok (.aaload, 1) := by decide +kernel
theorem d_M_compare_37 : decode b_M_compare 37 = .ok (.invokestatic 58, 3) := by decide +kernel
theorem d_M_compare_40 : decode b_M_compare 40 = .ok (.aload_n 0, 1) := by decide +kernel
theorem d_M_compare_41 : decode b_M_compare 41 = .ok (.getfield 18, 3) := by decide +kernel
theorem d_M_compare_44 : decode b_M_compare 44 = .ok (.aload_n 0, 1) := by decide +kernel
theorem d_M_compare_45 : decode b_M_compare 45 = .ok (.getfield 9, 3) := by decide +kernel
theorem d_M_compare_48 : decode b_M_compare 48 = .ok (.iload_n 2, 1) := by decide +kernel
theorem d_M_compare_49 : decode b_M_compare 49 = .ok (.aaload, 1) := by decide +kernel
theorem d_M_compare_50 : decode b_M_compare 50 = .ok (.invokestatic 58, 3) := by decide +kernel
theorem d_M_compare_53 : decode b_M_compare 53 = .ok (.iload_n 3, 1) := by decide +kernel
theorem d_M_compare_54 : decode b_M_compare 54 = .ok (.ifCond .eq 27, 3) := by decide +kernel
theorem d_M_compare_57 : decode b_M_compare 57 = .ok (.aload_n 0, 1) := by decide +kernel
theorem d_M_compare_58 : decode b_M_compare 58 = .ok (.getfield 14, 3) := by decide +kernel
theorem d_M_compare_61 : decode b_M_compare 61 = .ok (.bipush 7, 2) := by decide +kernel
theorem d_M_compare_63 : decode b_M_compare 63 = .ok (.dup2, 1) := by decide +kernel
theorem d_M_compare_64 : decode b_M_compare 64 = .ok (.iaload, 1) := by decide +kernel
theorem d_M_compare_65 : decode b_M_compare 65 = .ok (.ldc 129, 2) := by decide +kernel
theorem d_M_compare_67 : decode b_M_compare 67 = .ok (.ixor, 1) := by decide +kernel
theorem d_M_compare_68 : decode b_M_compare 68 = .ok (.iastore, 1) := by decide +kernel
theorem d_M_compare_69 : decode b_M_compare 69 = .ok (.aload_n 0, 1) := by decide +kernel
theorem d_M_compare_70 : decode b_M_compare 70 = .ok (.getfield 18, 3) := by decide +kernel
theorem d_M_compare_73 : decode b_M_compare 73 = .ok (.bipush 7, 2) := by decide +kernel
theorem d_M_compare_75 : decode b_M_compare 75 = .ok (.dup2, 1) := by decide +kernel
theorem d_M_compare_76 : decode b_M_compare 76 = .ok (.iaload, 1) := by decide +kernel
theorem d_M_compare_77 : decode b_M_compare 77 = .ok (.ldc 129, 2) := by decide +kernel
theorem d_M_compare_79 : decode b_M_compare 79 = .ok (.ixor, 1) := by decide +kernel
theorem d_M_compare_80 : decode b_M_compare 80 = .ok (.iastore, 1) := by decide +kernel
theorem d_M_compare_81 : decode b_M_compare 81 = .ok (.aload_n 0, 1) := by decide +kernel
theorem d_M_compare_82 : decode b_M_compare 82 = .ok (.getfield 14, 3) := by decide +kernel
theorem d_M_compare_85 : decode b_M_compare 85 = .ok (.aload_n 0, 1) := by decide +kernel
theorem d_M_compare_86 : decode b_M_compare 86 = .ok (.getfield 18, 3) := by decide +kernel
theorem d_M_compare_89 : decode b_M_compare 89 = .ok (.invokestatic 130, 3) := by decide +kernel
theorem d_M_compare_92 : decode b_M_compare 92 = .ok (.ifCond .eq 7, 3) := by decide +kernel
theorem d_M_compare_95 : decode b_M_compare 95 = .ok (.iconst (-1), 1) := by decide +kernel
theorem d_M_compare_96 : decode b_M_compare 96 = .ok (.goto 22, 3) := by decide +kernel
theorem d_M_compare_99 : decode b_M_compare 99 = .ok (.aload_n 0, 1) := by decide +kernel
theorem d_M_compare_100 : decode b_M_compare 100 = .ok (.getfield 18, 3) := by decide +kernel
theorem d_M_compare_103 : decode b_M_compare 103 = .ok (.aload_n 0, 1) := by decide +kernel
theorem d_M_compare_104 : decode b_M_compare 104 = .ok (.getfield 14, 3) := by decide +kernel
theorem d_M_compare_107 : decode b_M_compare 107 = .ok (.invokestatic 130, 3) := by decide +kernel
theorem d_M_compare_110 : decode b_M_compare 110 = .ok (.ifCond .eq 7, 3) := by decide +kernel
theorem d_M_compare_113 : decode b_M_compare 113 = .ok (.iconst 1, 1) := by decide +kernel
theorem d_M_compare_114 : decode b_M_compare 114 = .ok (.goto 4, 3) := by decide +kernel
theorem d_M_compare_117 : decode b_M_compare 117 = .ok (.iconst 0, 1) := by decide +kernel
theorem d_M_compare_118 : decode b_M_compare 118 = .ok (.ireturn, 1) := by decide +kernel
theorem d_M_less_0 : decode b_M_less 0 = .ok (.bipush 7, 2) := by decide +kernel
theorem d_M_less_2 : decode b_M_less 2 = .ok (.istore_n 2, 1) := by decide +kernel
theorem d_M_less_3 : decode b_M_less 3 = .ok (.iload_n 2, 1) := by decide +kernel
theorem d_M_less_4 : decode b_M_less 4 = .ok (.ifCond .lt 44, 3) := by decide +kernel
theorem d_M_less_7 : decode b_M_less 7 = .ok (.aload_n 0, 1) := by decide +kernel
theorem d_M_less_8 : decode b_M_less 8 = .ok (.iload_n 2, 1) := by decide +kernel
theorem d_M_less_9 : decode b_M_less 9 = .ok (.iaload, 1) := by decide +kernel
theorem d_M_less_10 : decode b_M_less 10 = .ok (.aload_n 1, 1) := by decide +kernel
theorem d_M_less_11 : decode b_M_less 11 = .ok (.iload_n 2, 1) := by decide +kernel
theorem d_M_less_12 : decode b_M_less 12 = .ok (.iaload, 1) := by decide +kernel
theorem d_M_less_13 : decode b_M_less 13 = .ok (.if_icmp .eq 29, 3) := by decide +kernel
theorem d_M_less_16 : decode b_M_less 16 = .ok (.aload_n 0, 1) := by decide +kernel
theorem d_M_less_17 : decode b_M_less 17 = .ok (.iload_n 2, 1) := by decide +kernel
theorem d_M_less_18 : decode b_M_less 18 = .ok (.iaload, 1) := by decide +kernel
theorem d_M_less_19 : decode b_M_less 19 = .ok (.i2l, 1) := by decide +kernel
theorem d_M_less_20 : decode b_M_less 20 = .ok (.ldc2_w 40, 3) := by decide +kernel
theorem d_M_less_23 : decode b_M_less 23 = .ok (.land, 1) := by decide +kernel
theorem d_M_less_24 : decode b_M_less 24 = .ok (.aload_n 1, 1) := by decide +kernel
theorem d_M_less_25 : decode b_M_less 25 = .ok (.iload_n 2, 1) := by decide +kernel
theorem d_M_less_26 : decode b_M_less 26 = .ok (.iaload, 1) := by decide +kernel
theorem d_M_less_27 : decode b_M_less 27 = .ok (.i2l, 1) := by decide +kernel
theorem d_M_less_28 : decode b_M_less 28 = .ok (.ldc2_w 40, 3) := by decide +kernel
theorem d_M_less_31 : decode b_M_less 31 = .ok (.land, 1) := by decide +kernel
theorem d_M_less_32 : decode b_M_less 32 = .ok (.lcmp, 1) := by decide +kernel
theorem d_M_less_33 : decode b_M_less 33 = .ok (.ifCond .ge 7, 3) := by decide +kernel
theorem d_M_less_36 : decode b_M_less 36 = .ok (.iconst 1, 1) := by decide +kernel
theorem d_M_less_37 : decode b_M_less 37 = .ok (.goto 4, 3) := by decide +kernel
theorem d_M_less_40 : decode b_M_less 40 = .ok (.iconst 0, 1) := by decide +kernel
theorem d_M_less_41 : decode b_M_less 41 = .ok (.ireturn, 1) := by decide +kernel
theorem d_M_less_42 : decode b_M_less 42 = .ok (.iinc 2 (-1), 3) := by decide +kernel
theorem d_M_less_45 : decode b_M_less 45 = .ok (.goto (-42), 3) := by decide +kernel
theorem d_M_less_48 : decode b_M_less 48 = .ok (.iconst 0, 1) := by decide +kernel
theorem d_M_less_49 : decode b_M_less 49 = .ok (.ireturn, 1) := by decide +kernel
theorem d_M_bytes_0 : decode b_M_bytes 0 = .ok (.aload_n 0, 1) := by decide +kernel
theorem d_M_bytes_1 : decode b_M_bytes 1 = .ok (.iconst 0, 1) := by decide +kernel
theorem d_M_bytes_2 : decode b_M_bytes 2 = .ok (.putfield 36, 3) := by decide +kernel
theorem d_M_bytes_5 : decode b_M_bytes 5 = .ok (.aload_n 0, 1) := by decide +kernel
theorem d_M_bytes_6 : decode b_M_bytes 6 = .ok (.iload_n 1, 1) := by decide +kernel
theorem d_M_bytes_7 : decode b_M_bytes 7 = .ok (.invokevirtual 90, 3) := by decide +kernel
theorem d_M_bytes_10 : decode b_M_bytes 10 = .ok (.ifCond .eq 9, 3) := by decide +kernel
theorem d_M_bytes_13 : decode b_M_bytes 13 = .ok (.aload_n 0, 1) := by decide +kernel
theorem d_M_bytes_14 : decode b_M_bytes 14 = .ok (.iconst 1, 1) := by decide +kernel
theorem d_M_bytes_15 : decode b_M_bytes 15 = .ok (.invokevirtual 94, 3) := by decide +kernel
theorem d_M_bytes_18 : decode b_M_bytes 18 = .ok (.ireturn, 1) := by decide +kernel
theorem d_M_bytes_19 : decode b_M_bytes 19 = .ok (.iconst 0, 1) := by decide +kernel
theorem d_M_bytes_20 : decode b_M_bytes 20 = .ok (.istore_n 2, 1) := by decide +kernel
theorem d_M_bytes_21 : decode b_M_bytes 21 = .ok (.iconst 0, 1) := by decide +kernel
theorem d_M_bytes_22 : decode b_M_bytes 22 = .ok (.istore_n 3, 1) := by decide +kernel
theorem d_M_bytes_23 : decode b_M_bytes 23 = .ok (.iload_n 3, 1) := by decide +kernel
theorem d_M_bytes_24 : decode b_M_bytes 24 = .ok (.bipush 32, 2) := by decide +kernel
theorem d_M_bytes_26 : decode b_M_bytes 26 = .ok (.if_icmp .ge 37, 3) := by decide +kernel
theorem d_M_bytes_29 : decode b_M_bytes 29 = .ok (.aload_n 0, 1) := by decide +kernel
theorem d_M_bytes_30 : decode b_M_bytes 30 = .ok (.getfield 9, 3) := by decide +kernel
theorem d_M_bytes_33 : decode b_M_bytes 33 = .ok (.iload_n 1, 1) := by decide +kernel
theorem d_M_bytes_34 : decode b_M_bytes 34 = .ok (.aaload, 1) := by decide +kernel
theorem d_M_bytes_35 : decode b_M_bytes 35 = .ok (.iload_n 3, 1) := by decide +kernel
theorem d_M_bytes_36 : decode b_M_bytes 36 = .ok (.iconst 4, 1) := by decide +kernel
theorem d_M_bytes_37 : decode b_M_bytes 37 = .ok (.idiv, 1) := by decide +kernel
theorem d_M_bytes_38 : decode b_M_bytes 38 = .ok (.iaload, 1) := by decide +kernel
theorem d_M_bytes_39 : decode b_M_bytes 39 = .ok (.bipush 8, 2) := by decide +kernel
theorem d_M_bytes_41 : decode b_M_bytes 41 = .ok (.iload_n 3, 1) := by decide +kernel
theorem d_M_bytes_42 : decode b_M_bytes 42 = .ok (.iconst 4, 1) := by decide +kernel
theorem d_M_bytes_43 : decode b_M_bytes 43 = .ok (.irem, 1) := by decide +kernel
theorem d_M_bytes_44 : decode b_M_bytes 44 = .ok (.imul, 1) := by decide +kernel
theorem d_M_bytes_45 : decode b_M_bytes 45 = .ok (.iushr, 1) := by decide +kernel
theorem d_M_bytes_46 : decode b_M_bytes 46 = .ok (.sipush 255, 3) := by decide +kernel
theorem d_M_bytes_49 : decode b_M_bytes 49 = .ok (.iand, 1) := by decide +kernel
theorem d_M_bytes_50 : decode b_M_bytes 50 = .ok (.ifCond .eq 7, 3) := by decide +kernel
theorem d_M_bytes_53 : decode b_M_bytes 53 = .ok (.iload_n 3, 1) := by decide +kernel
theorem d_M_bytes_54 : decode b_M_bytes 54 = .ok (.iconst 1, 1) := by decide +kernel
theorem d_M_bytes_55 : decode b_M_bytes 55 = .ok (.iadd, 1) := by decide +kernel
theorem d_M_bytes_56 : decode b_M_bytes 56 = .ok (.istore_n 2, 1) := by decide +kernel
theorem d_M_bytes_57 : decode b_M_bytes 57 = .ok (.iinc 3 1, 3) := by decide +kernel
theorem d_M_bytes_60 : decode b_M_bytes 60 = .ok (.goto (-37), 3) := by decide +kernel
theorem d_M_bytes_63 : decode b_M_bytes 63 = .ok (.iload_n 2, 1) := by decide +kernel
theorem d_M_bytes_64 : decode b_M_bytes 64 = .ok (.ireturn, 1) := by decide +kernel
