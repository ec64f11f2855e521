theorem dX0_init_0 : decode cX0_init 0 = .ok (.aload_n 0, 1) := by decide +kernel
theorem dX0_init_1 : decode cX0_init 1 = .ok (.iload_n 1, 1) := by decide +kernel
theorem dX0_init_2 : decode cX0_init 2 = .ok (.invokespecial 3, 3) := by decide +kernel
theorem dX0_init_5 : decode cX0_init 5 = .ok (.aload_n 0, 1) := by decide +kernel
theorem dX0_init_6 : decode cX0_init 6 = .ok (.iconst 1, 1) := by decide +kernel
theorem dX0_init_7 : decode cX0_init 7 = .ok (.putfield 9, 3) := by decide +kernel
theorem dX0_init_10 : decode cX0_init 10 = .ok (.aload_n 0, 1) := by decide +kernel
theorem dX0_init_11 : decode cX0_init 11 = .ok (.dup, 1) := by decide +kernel
theorem dX0_init_12 : decode cX0_init 12 = .ok (.getfield 15, 3) := by decide +kernel
theorem dX0_init_15 : decode cX0_init 15 = .ok (.iconst 1, 1) := by decide +kernel
theorem dX0_init_16 : decode cX0_init 16 = .ok (.isub, 1) := by decide +kernel
theorem dX0_init_17 : decode cX0_init 17 = .ok (.putfield 15, 3) := by decide +kernel
theorem dX0_init_20 : decode cX0_init 20 = .ok (.aload_n 0, 1) := by decide +kernel
theorem dX0_init_21 : decode cX0_init 21 = .ok (.dup, 1) := by decide +kernel
theorem dX0_init_22 : decode cX0_init 22 = .ok (.getfield 18, 3) := by decide +kernel
theorem dX0_init_25 : decode cX0_init 25 = .ok (.iconst 1, 1) := by decide +kernel
theorem dX0_init_26 : decode cX0_init 26 = .ok (.isub, 1) := by decide +kernel
theorem dX0_init_27 : decode cX0_init 27 = .ok (.putfield 18, 3) := by decide +kernel
theorem dX0_init_30 : decode cX0_init 30 = .ok (.aload_n 0, 1) := by decide +kernel
theorem dX0_init_31 : decode cX0_init 31 = .ok (.dup, 1) := by decide +kernel
theorem dX0_init_32 : decode cX0_init 32 = .ok (.getfield 21, 3) := by decide +kernel
theorem dX0_init_35 : decode cX0_init 35 = .ok (.iload_n 1, 1) := by decide +kernel
theorem dX0_init_36 : decode cX0_init 36 = .ok (.iadd, 1) := by decide +kernel
theorem dX0_init_37 : decode cX0_init 37 = .ok (.putfield 21, 3) := by decide +kernel
theorem dX0_init_40 : decode cX0_init 40 = .ok (.aload_n 0, 1) := by decide +kernel
theorem dX0_init_41 : decode cX0_init 41 = .ok (.dup, 1) := by decide +kernel
theorem dX0_init_42 : decode cX0_init 42 = .ok (.getfield 24, 3) := by decide +kernel
theorem dX0_init_45 : decode cX0_init 45 = .ok (.iload_n 1, 1) := by decide +kernel
theorem dX0_init_46 : decode cX0_init 46 = .ok (.iadd, 1) := by decide +kernel
theorem dX0_init_47 : decode cX0_init 47 = .ok (.putfield 24, 3) := by decide +kernel
theorem dX0_init_50 : decode cX0_init 50 = .ok (.iconst 0, 1) := by decide +kernel
theorem dX0_init_51 : decode cX0_init 51 = .ok (.istore_n 2, 1) := by decide +kernel
theorem dX0_init_52 : decode cX0_init 52 = .ok (.iload_n 2, 1) := by decide +kernel
theorem dX0_init_53 : decode cX0_init 53 = .ok (.bipush 7, 2) := by decide +kernel
theorem dX0_init_55 : decode cX0_init 55 = .ok (.if_icmp .ge 19, 3) := by decide +kernel
theorem dX0_init_58 : decode cX0_init 58 = .ok (.aload_n 0, 1) := by decide +kernel
theorem dX0_init_59 : decode cX0_init 59 = .ok (.getfield 27, 3) := by decide +kernel
theorem dX0_init_62 : decode cX0_init 62 = .ok (.iload_n 2, 1) := by decide +kernel
theorem dX0_init_63 : decode cX0_init 63 = .ok (.dup2, 1) := by decide +kernel
theorem dX0_init_64 : decode cX0_init 64 = .ok (.iaload, 1) := by decide +kernel
theorem dX0_init_65 : decode cX0_init 65 = .ok (.iconst 2, 1) := by decide +kernel
theorem dX0_init_66 : decode cX0_init 66 = .ok (.isub, 1) := by decide +kernel
theorem dX0_init_67 : decode cX0_init 67 = .ok (.iastore, 1) := by decide +kernel
theorem dX0_init_68 : decode cX0_init 68 = .ok (.iinc 2 1, 3) := by decide +kernel
theorem dX0_init_71 : decode cX0_init 71 = .ok (.goto (-19), 3) := by decide +kernel
theorem dX0_init_74 : decode cX0_init 74 = .ok (.return_, 1) := by decide +kernel
theorem dX0_fail_0 : decode cX0_fail 0 = .ok (.aload_n 0, 1) := by decide +kernel
theorem dX0_fail_1 : decode cX0_fail 1 = .ok (.getfield 31, 3) := by decide +kernel
theorem dX0_fail_4 : decode cX0_fail 4 = .ok (.ifCond .eq 13, 3) := by decide +kernel
theorem dX0_fail_7 : decode cX0_fail 7 = .ok (.new 34, 3) := by decide +kernel
theorem dX0_fail_10 : decode cX0_fail 10 = .ok (.dup, 1) := by decide +kernel
theorem dX0_fail_11 : decode cX0_fail 11 = .ok (.ldc 36, 2) := by decide +kernel
theorem dX0_fail_13 : decode cX0_fail 13 = .ok (.invokespecial 38, 3) := by decide +kernel
theorem dX0_fail_16 : decode cX0_fail 16 = .ok (.athrow, 1) := by decide +kernel
theorem dX0_fail_17 : decode cX0_fail 17 = .ok (.return_, 1) := by decide +kernel
theorem dX1_init_0 : decode cX1_init 0 = .ok (.aload_n 0, 1) := by decide +kernel
theorem dX1_init_1 : decode cX1_init 1 = .ok (.invokespecial 3, 3) := by decide +kernel
theorem dX1_init_4 : decode cX1_init 4 = .ok (.aload_n 0, 1) := by decide +kernel
theorem dX1_init_5 : decode cX1_init 5 = .ok (.bipush 8, 2) := by decide +kernel
theorem dX1_init_7 : decode cX1_init 7 = .ok (.newarray .int, 2) := by decide +kernel
theorem dX1_init_9 : decode cX1_init 9 = .ok (.putfield 9, 3) := by decide +kernel
theorem dX1_init_12 : decode cX1_init 12 = .ok (.aload_n 0, 1) := by decide +kernel
theorem dX1_init_13 : decode cX1_init 13 = .ok (.iload_n 1, 1) := by decide +kernel
theorem dX1_init_14 : decode cX1_init 14 = .ok (.putfield 15, 3) := by decide +kernel
theorem dX1_init_17 : decode cX1_init 17 = .ok (.aload_n 0, 1) := by decide +kernel
theorem dX1_init_18 : decode cX1_init 18 = .ok (.iconst 0, 1) := by decide +kernel
theorem dX1_init_19 : decode cX1_init 19 = .ok (.putfield 19, 3) := by decide +kernel
theorem dX1_init_22 : decode cX1_init 22 = .ok (.aload_n 0, 1) := by decide +kernel
theorem dX1_init_23 : decode cX1_init 23 = .ok (.iconst 2, 1) := by decide +kernel
theorem dX1_init_24 : decode cX1_init 24 = .ok (.putfield 22, 3) := by decide +kernel
theorem dX1_init_27 : decode cX1_init 27 = .ok (.aload_n 0, 1) := by decide +kernel
theorem dX1_init_28 : decode cX1_init 28 = .ok (.iconst 3, 1) := by decide +kernel
theorem dX1_init_29 : decode cX1_init 29 = .ok (.putfield 25, 3) := by decide +kernel
theorem dX1_init_32 : decode cX1_init 32 = .ok (.aload_n 0, 1) := by decide +kernel
theorem dX1_init_33 : decode cX1_init 33 = .ok (.iconst 5, 1) := by decide +kernel
theorem dX1_init_34 : decode cX1_init 34 = .ok (.putfield 28, 3) := by decide +kernel
theorem dX1_init_37 : decode cX1_init 37 = .ok (.aload_n 0, 1) := by decide +kernel
theorem dX1_init_38 : decode cX1_init 38 = .ok (.iconst 1, 1) := by decide +kernel
theorem dX1_init_39 : decode cX1_init 39 = .ok (.putfield 31, 3) := by decide +kernel
theorem dX1_init_42 : decode cX1_init 42 = .ok (.aload_n 0, 1) := by decide +kernel
theorem dX1_init_43 : decode cX1_init 43 = .ok (.iconst 5, 1) := by decide +kernel
theorem dX1_init_44 : decode cX1_init 44 = .ok (.putfield 34, 3) := by decide +kernel
theorem dX1_init_47 : decode cX1_init 47 = .ok (.iconst 0, 1) := by decide +kernel
theorem dX1_init_48 : decode cX1_init 48 = .ok (.istore_n 2, 1) := by decide +kernel
theorem dX1_init_49 : decode cX1_init 49 = .ok (.iload_n 2, 1) := by decide +kernel
theorem dX1_init_50 : decode cX1_init 50 = .ok (.bipush 7, 2) := by decide +kernel
theorem dX1_init_52 : decode cX1_init 52 = .ok (.if_icmp .ge 18, 3) := by decide +kernel
theorem dX1_init_55 : decode cX1_init 55 = .ok (.aload_n 0, 1) := by decide +kernel
theorem dX1_init_56 : decode cX1_init 56 = .ok (.getfield 9, 3) := by decide +kernel
theorem dX1_init_59 : decode cX1_init 59 = .ok (.iload_n 2, 1) := by decide +kernel
theorem dX1_init_60 : decode cX1_init 60 = .ok (.iload_n 2, 1) := by decide +kernel
theorem dX1_init_61 : decode cX1_init 61 = .ok (.iconst 4, 1) := by decide +kernel
theorem dX1_init_62 : decode cX1_init 62 = .ok (.iadd, 1) := by decide +kernel
theorem dX1_init_63 : decode cX1_init 63 = .ok (.iastore, 1) := by decide +kernel
theorem dX1_init_64 : decode cX1_init 64 = .ok (.iinc 2 1, 3) := by decide +kernel
theorem dX1_init_67 : decode cX1_init 67 = .ok (.goto (-18), 3) := by decide +kernel
theorem dX1_init_70 : decode cX1_init 70 = .ok (.return_, 1) := by decide +kernel
theorem dX1_of_0 : decode cX1_of 0 = .ok (.iload_n 0, 1) := by decide +kernel
theorem dX1_of_1 : decode cX1_of 1 = .ok (.tableswitch 106 1 7 #[43, 52, 61, 70, 79, 88, 97], 43) := by decide +kernel
theorem dX1_of_44 : decode cX1_of 44 = .ok (.new 37, 3) := by decide +kernel
theorem dX1_of_47 : decode cX1_of 47 = .ok (.dup, 1) := by decide +kernel
theorem dX1_of_48 : decode cX1_of 48 = .ok (.iload_n 1, 1) := by decide +kernel
theorem dX1_of_49 : decode cX1_of 49 = .ok (.invokespecial 39, 3) := by decide +kernel
theorem dX1_of_52 : decode cX1_of 52 = .ok (.areturn, 1) := by decide +kernel
theorem dX1_of_53 : decode cX1_of 53 = .ok (.new 42, 3) := by decide +kernel
theorem dX1_of_56 : decode cX1_of 56 = .ok (.dup, 1) := by decide +kernel
theorem dX1_of_57 : decode cX1_of 57 = .ok (.iload_n 1, 1) := by decide +kernel
theorem dX1_of_58 : decode cX1_of 58 = .ok (.invokespecial 44, 3) := by decide +kernel
theorem dX1_of_61 : decode cX1_of 61 = .ok (.areturn, 1) := by decide +kernel
theorem dX1_of_62 : decode cX1_of 62 = .ok (.new 45, 3) := by decide +kernel
theorem dX1_of_65 : decode cX1_of 65 = .ok (.dup, 1) := by decide +kernel
theorem dX1_of_66 : decode cX1_of 66 = .ok (.iload_n 1, 1) := by decide +kernel
theorem dX1_of_67 : decode cX1_of 67 = .ok (.invokespecial 47, 3) := by decide +kernel
theorem dX1_of_70 : decode cX1_of 70 = .ok (.areturn, 1) := by decide +kernel
theorem dX1_of_71 : decode cX1_of 71 = .ok (.new 48, 3) := by decide +kernel
theorem dX1_of_74 : decode cX1_of 74 = .ok (.dup, 1) := by decide +kernel
theorem dX1_of_75 : decode cX1_of 75 = .ok (.iload_n 1, 1) := by decide +kernel
theorem dX1_of_76 : decode cX1_of 76 = .ok (.invokespecial 50, 3) := by decide +kernel
theorem dX1_of_79 : decode cX1_of 79 = .ok (.areturn, 1) := by decide +kernel
theorem dX1_of_80 : decode cX1_of 80 = .ok (.new 51, 3) := by decide +kernel
theorem dX1_of_83 : decode cX1_of 83 = .ok (.dup, 1) := by decide +kernel
theorem dX1_of_84 : decode cX1_of 84 = .ok (.iload_n 1, 1) := by decide +kernel
theorem dX1_of_85 : decode cX1_of 85 = .ok (.invokespecial 53, 3) := by decide +kernel
theorem dX1_of_88 : decode cX1_of 88 = .ok (.areturn, 1) := by decide +kernel
theorem dX1_of_89 : decode cX1_of 89 = .ok (.new 54, 3) := by decide +kernel
theorem dX1_of_92 : decode cX1_of 92 = .ok (.dup, 1) := by decide +kernel
theorem dX1_of_93 : decode cX1_of 93 = .ok (.iload_n 1, 1) := by decide +kernel
theorem dX1_of_94 : decode cX1_of 94 = .ok (.invokespecial 56, 3) := by decide +kernel
theorem dX1_of_97 : decode cX1_of 97 = .ok (.areturn, 1) := by decide +kernel
theorem dX1_of_98 : decode cX1_of 98 = .ok (.new 57, 3) := by decide +kernel
theorem dX1_of_101 : decode cX1_of 101 = .ok (.dup, 1) := by decide +kernel
theorem dX1_of_102 : decode cX1_of 102 = .ok (.iload_n 1, 1) := by decide +kernel
theorem dX1_of_103 : decode cX1_of 103 = .ok (.invokespecial 59, 3) := by decide +kernel
theorem dX1_of_106 : decode cX1_of 106 = .ok (.areturn, 1) := by decide +kernel
theorem dX1_of_107 : decode cX1_of 107 = .ok (.new 10, 3) := by decide +kernel
theorem dX1_of_110 : decode cX1_of 110 = .ok (.dup, 1) := by decide +kernel
theorem dX1_of_111 : decode cX1_of 111 = .ok (.iload_n 1, 1) := by decide +kernel
theorem dX1_of_112 : decode cX1_of 112 = .ok (.invokespecial 60, 3) := by decide +kernel
theorem dX1_of_115 : decode cX1_of 115 = .ok (.areturn, 1) := by decide +kernel
theorem dX1_needsAt_0 : decode cX1_needsAt 0 = .ok (.iload_n 1, 1) := by decide +kernel
theorem dX1_needsAt_1 : decode cX1_needsAt 1 = .ok (.ifCond .lt 21, 3) := by decide +kernel
theorem dX1_needsAt_4 : decode cX1_needsAt 4 = .ok (.iload_n 1, 1) := by decide +kernel
theorem dX1_needsAt_5 : decode cX1_needsAt 5 = .ok (.aload_n 0, 1) := by decide +kernel
theorem dX1_needsAt_6 : decode cX1_needsAt 6 = .ok (.getfield 9, 3) := by decide +kernel
theorem dX1_needsAt_9 : decode cX1_needsAt 9 = .ok (.arraylength, 1) := by decide +kernel
theorem dX1_needsAt_10 : decode cX1_needsAt 10 = .ok (.if_icmp .ge 12, 3) := by decide +kernel
theorem dX1_needsAt_13 : decode cX1_needsAt 13 = .ok (.aload_n 0, 1) := by decide +kernel
theorem dX1_needsAt_14 : decode cX1_needsAt 14 = .ok (.getfield 9, 3) := by decide +kernel
theorem dX1_needsAt_17 : decode cX1_needsAt 17 = .ok (.iload_n 1, 1) := by decide +kernel
theorem dX1_needsAt_18 : decode cX1_needsAt 18 = .ok (.iaload, 1) := by decide +kernel
theorem dX1_needsAt_19 : decode cX1_needsAt 19 = .ok (.goto 4, 3) := by decide +kernel
theorem dX1_needsAt_22 : decode cX1_needsAt 22 = .ok (.iconst 0, 1) := by decide +kernel
theorem dX1_needsAt_23 : decode cX1_needsAt 23 = .ok (.ireturn, 1) := by decide +kernel
theorem dX1_fail_0 : decode cX1_fail 0 = .ok (.aload_n 0, 1) := by decide +kernel
theorem dX1_fail_1 : decode cX1_fail 1 = .ok (.getfield 15, 3) := by decide +kernel
theorem dX1_fail_4 : decode cX1_fail 4 = .ok (.ifCond .eq 13, 3) := by decide +kernel
theorem dX1_fail_7 : decode cX1_fail 7 = .ok (.new 61, 3) := by decide +kernel
theorem dX1_fail_10 : decode cX1_fail 10 = .ok (.dup, 1) := by decide +kernel
theorem dX1_fail_11 : decode cX1_fail 11 = .ok (.ldc 63, 2) := by decide +kernel
theorem dX1_fail_13 : decode cX1_fail 13 = .ok (.invokespecial 65, 3) := by decide +kernel
theorem dX1_fail_16 : decode cX1_fail 16 = .ok (.athrow, 1) := by decide +kernel
theorem dX1_fail_17 : decode cX1_fail 17 = .ok (.return_, 1) := by decide +kernel
theorem dX2_init_0 : decode cX2_init 0 = .ok (.aload_n 0, 1) := by decide +kernel
theorem dX2_init_1 : decode cX2_init 1 = .ok (.iload_n 1, 1) := by decide +kernel
theorem dX2_init_2 : decode cX2_init 2 = .ok (.invokespecial 3, 3) := by decide +kernel
theorem dX2_init_5 : decode cX2_init 5 = .ok (.aload_n 0, 1) := by decide +kernel
theorem dX2_init_6 : decode cX2_init 6 = .ok (.bipush 6, 2) := by decide +kernel
theorem dX2_init_8 : decode cX2_init 8 = .ok (.putfield 9, 3) := by decide +kernel
theorem dX2_init_11 : decode cX2_init 11 = .ok (.aload_n 0, 1) := by decide +kernel
theorem dX2_init_12 : decode cX2_init 12 = .ok (.dup, 1) := by decide +kernel
theorem dX2_init_13 : decode cX2_init 13 = .ok (.getfield 15, 3) := by decide +kernel
theorem dX2_init_16 : decode cX2_init 16 = .ok (.iload_n 1, 1) := by decide +kernel
theorem dX2_init_17 : decode cX2_init 17 = .ok (.iconst 3, 1) := by decide +kernel
theorem dX2_init_18 : decode cX2_init 18 = .ok (.idiv, 1) := by decide +kernel
theorem dX2_init_19 : decode cX2_init 19 = .ok (.iadd, 1) := by decide +kernel
theorem dX2_init_20 : decode cX2_init 20 = .ok (.putfield 15, 3) := by decide +kernel
theorem dX2_init_23 : decode cX2_init 23 = .ok (.aload_n 0, 1) := by decide +kernel
theorem dX2_init_24 : decode cX2_init 24 = .ok (.dup, 1) := by decide +kernel
theorem dX2_init_25 : decode cX2_init 25 = .ok (.getfield 18, 3) := by decide +kernel
theorem dX2_init_28 : decode cX2_init 28 = .ok (.iconst 2, 1) := by decide +kernel
theorem dX2_init_29 : decode cX2_init 29 = .ok (.imul, 1) := by decide +kernel
theorem dX2_init_30 : decode cX2_init 30 = .ok (.putfield 18, 3) := by decide +kernel
theorem dX2_init_33 : decode cX2_init 33 = .ok (.aload_n 0, 1) := by decide +kernel
theorem dX2_init_34 : decode cX2_init 34 = .ok (.dup, 1) := by decide +kernel
theorem dX2_init_35 : decode cX2_init 35 = .ok (.getfield 21, 3) := by decide +kernel
theorem dX2_init_38 : decode cX2_init 38 = .ok (.iload_n 1, 1) := by decide +kernel
theorem dX2_init_39 : decode cX2_init 39 = .ok (.iadd, 1) := by decide +kernel
theorem dX2_init_40 : decode cX2_init 40 = .ok (.putfield 21, 3) := by decide +kernel
theorem dX2_init_43 : decode cX2_init 43 = .ok (.iconst 0, 1) := by decide +kernel
theorem dX2_init_44 : decode cX2_init 44 = .ok (.istore_n 2, 1) := by decide +kernel
theorem dX2_init_45 : decode cX2_init 45 = .ok (.iload_n 2, 1) := by decide +kernel
theorem dX2_init_46 : decode cX2_init 46 = .ok (.bipush 7, 2) := by decide +kernel
theorem dX2_init_48 : decode cX2_init 48 = .ok (.if_icmp .ge 19, 3) := by decide +kernel
theorem dX2_init_51 : decode cX2_init 51 = .ok (.aload_n 0, 1) := by decide +kernel
theorem dX2_init_52 : decode cX2_init 52 = .ok (.getfield 24, 3) := by decide +kernel
theorem dX2_init_55 : decode cX2_init 55 = .ok (.iload_n 2, 1) := by decide +kernel
theorem dX2_init_56 : decode cX2_init 56 = .ok (.dup2, 1) := by decide +kernel
theorem dX2_init_57 : decode cX2_init 57 = .ok (.iaload, 1) := by decide +kernel
theorem dX2_init_58 : decode cX2_init 58 = .ok (.iconst 1, 1) := by decide +kernel
theorem dX2_init_59 : decode cX2_init 59 = .ok (.isub, 1) := by decide +kernel
theorem dX2_init_60 : decode cX2_init 60 = .ok (.iastore, 1) := by decide +kernel
theorem dX2_init_61 : decode cX2_init 61 = .ok (.iinc 2 1, 3) := by decide +kernel
theorem dX2_init_64 : decode cX2_init 64 = .ok (.goto (-19), 3) := by decide +kernel
theorem dX2_init_67 : decode cX2_init 67 = .ok (.return_, 1) := by decide +kernel
theorem dX3_init_0 : decode cX3_init 0 = .ok (.aload_n 0, 1) := by decide +kernel
theorem dX3_init_1 : decode cX3_init 1 = .ok (.iload_n 1, 1) := by decide +kernel
theorem dX3_init_2 : decode cX3_init 2 = .ok (.invokespecial 3, 3) := by decide +kernel
theorem dX3_init_5 : decode cX3_init 5 = .ok (.aload_n 0, 1) := by decide +kernel
theorem dX3_init_6 : decode cX3_init 6 = .ok (.bipush 7, 2) := by decide +kernel
theorem dX3_init_8 : decode cX3_init 8 = .ok (.putfield 9, 3) := by decide +kernel
theorem dX3_init_11 : decode cX3_init 11 = .ok (.aload_n 0, 1) := by decide +kernel
theorem dX3_init_12 : decode cX3_init 12 = .ok (.bipush 20, 2) := by decide +kernel
theorem dX3_init_14 : decode cX3_init 14 = .ok (.putfield 15, 3) := by decide +kernel
theorem dX3_init_17 : decode cX3_init 17 = .ok (.aload_n 0, 1) := by decide +kernel
theorem dX3_init_18 : decode cX3_init 18 = .ok (.dup, 1) := by decide +kernel
theorem dX3_init_19 : decode cX3_init 19 = .ok (.getfield 18, 3) := by decide +kernel
theorem dX3_init_22 : decode cX3_init 22 = .ok (.iconst 2, 1) := by decide +kernel
theorem dX3_init_23 : decode cX3_init 23 = .ok (.idiv, 1) := by decide +kernel
theorem dX3_init_24 : decode cX3_init 24 = .ok (.putfield 18, 3) := by decide +kernel
theorem dX3_init_27 : decode cX3_init 27 = .ok (.iconst 0, 1) := by decide +kernel
theorem dX3_init_28 : decode cX3_init 28 = .ok (.istore_n 2, 1) := by decide +kernel
theorem dX3_init_29 : decode cX3_init 29 = .ok (.iload_n 2, 1) := by decide +kernel
theorem dX3_init_30 : decode cX3_init 30 = .ok (.bipush 7, 2) := by decide +kernel
theorem dX3_init_32 : decode cX3_init 32 = .ok (.if_icmp .ge 19, 3) := by decide +kernel
theorem dX3_init_35 : decode cX3_init 35 = .ok (.aload_n 0, 1) := by decide +kernel
theorem dX3_init_36 : decode cX3_init 36 = .ok (.getfield 21, 3) := by decide +kernel
theorem dX3_init_39 : decode cX3_init 39 = .ok (.iload_n 2, 1) := by decide +kernel
theorem dX3_init_40 : decode cX3_init 40 = .ok (.dup2, 1) := by decide +kernel
theorem dX3_init_41 : decode cX3_init 41 = .ok (.iaload, 1) := by decide +kernel
theorem dX3_init_42 : decode cX3_init 42 = .ok (.iconst 2, 1) := by decide +kernel
theorem dX3_init_43 : decode cX3_init 43 = .ok (.idiv, 1) := by decide +kernel
theorem dX3_init_44 : decode cX3_init 44 = .ok (.iastore, 1) := by decide +kernel
theorem dX3_init_45 : decode cX3_init 45 = .ok (.iinc 2 1, 3) := by decide +kernel
theorem dX3_init_48 : decode cX3_init 48 = .ok (.goto (-19), 3) := by decide +kernel
theorem dX3_init_51 : decode cX3_init 51 = .ok (.return_, 1) := by decide +kernel
theorem dX3_fail_0 : decode cX3_fail 0 = .ok (.aload_n 0, 1) := by decide +kernel
theorem dX3_fail_1 : decode cX3_fail 1 = .ok (.getfield 25, 3) := by decide +kernel
theorem dX3_fail_4 : decode cX3_fail 4 = .ok (.ifCond .eq 13, 3) := by decide +kernel
theorem dX3_fail_7 : decode cX3_fail 7 = .ok (.new 28, 3) := by decide +kernel
theorem dX3_fail_10 : decode cX3_fail 10 = .ok (.dup, 1) := by decide +kernel
theorem dX3_fail_11 : decode cX3_fail 11 = .ok (.ldc 30, 2) := by decide +kernel
theorem dX3_fail_13 : decode cX3_fail 13 = .ok (.invokespecial 32, 3) := by decide +kernel
theorem dX3_fail_16 : decode cX3_fail 16 = .ok (.athrow, 1) := by decide +kernel
theorem dX3_fail_17 : decode cX3_fail 17 = .ok (.return_, 1) := by decide +kernel
theorem dX4_init_0 : decode cX4_init 0 = .ok (.aload_n 0, 1) := by decide +kernel
theorem dX4_init_1 : decode cX4_init 1 = .ok (.iload_n 1, 1) := by decide +kernel
theorem dX4_init_2 : decode cX4_init 2 = .ok (.invokespecial 1, 3) := by decide +kernel
theorem dX4_init_5 : decode cX4_init 5 = .ok (.aload_n 0, 1) := by decide +kernel
theorem dX4_init_6 : decode cX4_init 6 = .ok (.iconst 5, 1) := by decide +kernel
theorem dX4_init_7 : decode cX4_init 7 = .ok (.putfield 7, 3) := by decide +kernel
theorem dX4_init_10 : decode cX4_init 10 = .ok (.aload_n 0, 1) := by decide +kernel
theorem dX4_init_11 : decode cX4_init 11 = .ok (.dup, 1) := by decide +kernel
theorem dX4_init_12 : decode cX4_init 12 = .ok (.getfield 13, 3) := by decide +kernel
theorem dX4_init_15 : decode cX4_init 15 = .ok (.iconst 2, 1) := by decide +kernel
theorem dX4_init_16 : decode cX4_init 16 = .ok (.iadd, 1) := by decide +kernel
theorem dX4_init_17 : decode cX4_init 17 = .ok (.putfield 13, 3) := by decide +kernel
theorem dX4_init_20 : decode cX4_init 20 = .ok (.aload_n 0, 1) := by decide +kernel
theorem dX4_init_21 : decode cX4_init 21 = .ok (.dup, 1) := by decide +kernel
theorem dX4_init_22 : decode cX4_init 22 = .ok (.getfield 16, 3) := by decide +kernel
theorem dX4_init_25 : decode cX4_init 25 = .ok (.iconst 4, 1) := by decide +kernel
theorem dX4_init_26 : decode cX4_init 26 = .ok (.iadd, 1) := by decide +kernel
theorem dX4_init_27 : decode cX4_init 27 = .ok (.putfield 16, 3) := by decide +kernel
theorem dX4_init_30 : decode cX4_init 30 = .ok (.return_, 1) := by decide +kernel
theorem dX5_init_0 : decode cX5_init 0 = .ok (.aload_n 0, 1) := by decide +kernel
theorem dX5_init_1 : decode cX5_init 1 = .ok (.invokespecial 3, 3) := by decide +kernel
theorem dX5_init_4 : decode cX5_init 4 = .ok (.aload_n 0, 1) := by decide +kernel
theorem dX5_init_5 : decode cX5_init 5 = .ok (.aload_n 1, 1) := by decide +kernel
theorem dX5_init_6 : decode cX5_init 6 = .ok (.putfield 9, 3) := by decide +kernel
theorem dX5_init_9 : decode cX5_init 9 = .ok (.return_, 1) := by decide +kernel
theorem dX5_setTo_0 : decode cX5_setTo 0 = .ok (.aload_n 0, 1) := by decide +kernel
theorem dX5_setTo_1 : decode cX5_setTo 1 = .ok (.aload_n 1, 1) := by decide +kernel
theorem dX5_setTo_2 : decode cX5_setTo 2 = .ok (.getfield 9, 3) := by decide +kernel
theorem dX5_setTo_5 : decode cX5_setTo 5 = .ok (.putfield 9, 3) := by decide +kernel
theorem dX5_setTo_8 : decode cX5_setTo 8 = .ok (.aload_n 0, 1) := by decide +kernel
theorem dX5_setTo_9 : decode cX5_setTo 9 = .ok (.aload_n 1, 1) := by decide +kernel
theorem dX5_setTo_10 : decode cX5_setTo 10 = .ok (.getfield 15, 3) := by decide +kernel
theorem dX5_setTo_13 : decode cX5_setTo 13 = .ok (.putfield 15, 3) := by decide +kernel
theorem dX5_setTo_16 : decode cX5_setTo 16 = .ok (.aload_n 0, 1) := by decide +kernel
theorem dX5_setTo_17 : decode cX5_setTo 17 = .ok (.aload_n 1, 1) := by decide +kernel
theorem dX5_setTo_18 : decode cX5_setTo 18 = .ok (.getfield 19, 3) := by decide +kernel
theorem dX5_setTo_21 : decode cX5_setTo 21 = .ok (.putfield 19, 3) := by decide +kernel
theorem dX5_setTo_24 : decode cX5_setTo 24 = .ok (.aload_n 0, 1) := by decide +kernel
theorem dX5_setTo_25 : decode cX5_setTo 25 = .ok (.aload_n 1, 1) := by decide +kernel
theorem dX5_setTo_26 : decode cX5_setTo 26 = .ok (.getfield 22, 3) := by decide +kernel
theorem dX5_setTo_29 : decode cX5_setTo 29 = .ok (.putfield 22, 3) := by decide +kernel
theorem dX5_setTo_32 : decode cX5_setTo 32 = .ok (.return_, 1) := by decide +kernel
theorem dX5_swims_0 : decode cX5_swims 0 = .ok (.aload_n 0, 1) := by decide +kernel
theorem dX5_swims_1 : decode cX5_swims 1 = .ok (.getfield 19, 3) := by decide +kernel
theorem dX5_swims_4 : decode cX5_swims 4 = .ok (.bipush 7, 2) := by decide +kernel
theorem dX5_swims_6 : decode cX5_swims 6 = .ok (.if_icmp .lt 7, 3) := by decide +kernel
theorem dX5_swims_9 : decode cX5_swims 9 = .ok (.iconst 1, 1) := by decide +kernel
theorem dX5_swims_10 : decode cX5_swims 10 = .ok (.goto 4, 3) := by decide +kernel
theorem dX5_swims_13 : decode cX5_swims 13 = .ok (.iconst 0, 1) := by decide +kernel
theorem dX5_swims_14 : decode cX5_swims 14 = .ok (.ireturn, 1) := by decide +kernel
theorem dX5_needs_0 : decode cX5_needs 0 = .ok (.aload_n 0, 1) := by decide +kernel
theorem dX5_needs_1 : decode cX5_needs 1 = .ok (.getfield 9, 3) := by decide +kernel
theorem dX5_needs_4 : decode cX5_needs 4 = .ok (.aload_n 0, 1) := by decide +kernel
theorem dX5_needs_5 : decode cX5_needs 5 = .ok (.getfield 19, 3) := by decide +kernel
theorem dX5_needs_8 : decode cX5_needs 8 = .ok (.invokevirtual 25, 3) := by decide +kernel
theorem dX5_needs_11 : decode cX5_needs 11 = .ok (.ireturn, 1) := by decide +kernel
theorem dX5_isReady_0 : decode cX5_isReady 0 = .ok (.aload_n 0, 1) := by decide +kernel
theorem dX5_isReady_1 : decode cX5_isReady 1 = .ok (.invokevirtual 31, 3) := by decide +kernel
theorem dX5_isReady_4 : decode cX5_isReady 4 = .ok (.ifCond .ne 25, 3) := by decide +kernel
theorem dX5_isReady_7 : decode cX5_isReady 7 = .ok (.aload_n 0, 1) := by decide +kernel
theorem dX5_isReady_8 : decode cX5_isReady 8 = .ok (.getfield 15, 3) := by decide +kernel
theorem dX5_isReady_11 : decode cX5_isReady 11 = .ok (.aload_n 0, 1) := by decide +kernel
theorem dX5_isReady_12 : decode cX5_isReady 12 = .ok (.getfield 9, 3) := by decide +kernel
theorem dX5_isReady_15 : decode cX5_isReady 15 = .ok (.aload_n 0, 1) := by decide +kernel
theorem dX5_isReady_16 : decode cX5_isReady 16 = .ok (.getfield 19, 3) := by decide +kernel
theorem dX5_isReady_19 : decode cX5_isReady 19 = .ok (.invokevirtual 25, 3) := by decide +kernel
theorem dX5_isReady_22 : decode cX5_isReady 22 = .ok (.if_icmp .lt 7, 3) := by decide +kernel
theorem dX5_isReady_25 : decode cX5_isReady 25 = .ok (.iconst 1, 1) := by decide +kernel
theorem dX5_isReady_26 : decode cX5_isReady 26 = .ok (.goto 4, 3) := by decide +kernel
theorem dX5_isReady_29 : decode cX5_isReady 29 = .ok (.iconst 0, 1) := by decide +kernel
theorem dX5_isReady_30 : decode cX5_isReady 30 = .ok (.ireturn, 1) := by decide +kernel
theorem dX5_isBehind_0 : decode cX5_isBehind 0 = .ok (.aload_n 0, 1) := by decide +kernel
theorem dX5_isBehind_1 : decode cX5_isBehind 1 = .ok (.getfield 19, 3) := by decide +kernel
theorem dX5_isBehind_4 : decode cX5_isBehind 4 = .ok (.aload_n 1, 1) := by decide +kernel
theorem dX5_isBehind_5 : decode cX5_isBehind 5 = .ok (.getfield 19, 3) := by decide +kernel
theorem dX5_isBehind_8 : decode cX5_isBehind 8 = .ok (.if_icmp .lt 25, 3) := by decide +kernel
theorem dX5_isBehind_11 : decode cX5_isBehind 11 = .ok (.aload_n 0, 1) := by decide +kernel
theorem dX5_isBehind_12 : decode cX5_isBehind 12 = .ok (.getfield 19, 3) := by decide +kernel
theorem dX5_isBehind_15 : decode cX5_isBehind 15 = .ok (.aload_n 1, 1) := by decide +kernel
theorem dX5_isBehind_16 : decode cX5_isBehind 16 = .ok (.getfield 19, 3) := by decide +kernel
theorem dX5_isBehind_19 : decode cX5_isBehind 19 = .ok (.if_icmp .ne 18, 3) := by decide +kernel
theorem dX5_isBehind_22 : decode cX5_isBehind 22 = .ok (.aload_n 0, 1) := by decide +kernel
theorem dX5_isBehind_23 : decode cX5_isBehind 23 = .ok (.getfield 15, 3) := by decide +kernel
theorem dX5_isBehind_26 : decode cX5_isBehind 26 = .ok (.aload_n 1, 1) := by decide +kernel
theorem dX5_isBehind_27 : decode cX5_isBehind 27 = .ok (.getfield 15, 3) := by decide +kernel
theorem dX5_isBehind_30 : decode cX5_isBehind 30 = .ok (.if_icmp .ge 7, 3) := by decide +kernel
theorem dX5_isBehind_33 : decode cX5_isBehind 33 = .ok (.iconst 1, 1) := by decide +kernel
theorem dX5_isBehind_34 : decode cX5_isBehind 34 = .ok (.goto 4, 3) := by decide +kernel
theorem dX5_isBehind_37 : decode cX5_isBehind 37 = .ok (.iconst 0, 1) := by decide +kernel
theorem dX5_isBehind_38 : decode cX5_isBehind 38 = .ok (.ireturn, 1) := by decide +kernel
theorem dX5_gain_0 : decode cX5_gain 0 = .ok (.aload_n 0, 1) := by decide +kernel
theorem dX5_gain_1 : decode cX5_gain 1 = .ok (.iconst 0, 1) := by decide +kernel
theorem dX5_gain_2 : decode cX5_gain 2 = .ok (.bipush 20, 2) := by decide +kernel
theorem dX5_gain_4 : decode cX5_gain 4 = .ok (.aload_n 0, 1) := by decide +kernel
theorem dX5_gain_5 : decode cX5_gain 5 = .ok (.getfield 15, 3) := by decide +kernel
theorem dX5_gain_8 : decode cX5_gain 8 = .ok (.iload_n 1, 1) := by decide +kernel
theorem dX5_gain_9 : decode cX5_gain 9 = .ok (.iadd, 1) := by decide +kernel
theorem dX5_gain_10 : decode cX5_gain 10 = .ok (.invokestatic 35, 3) := by decide +kernel
theorem dX5_gain_13 : decode cX5_gain 13 = .ok (.invokestatic 41, 3) := by decide +kernel
theorem dX5_gain_16 : decode cX5_gain 16 = .ok (.putfield 15, 3) := by decide +kernel
theorem dX5_gain_19 : decode cX5_gain 19 = .ok (.return_, 1) := by decide +kernel
theorem dX5_trustByFinger_0 : decode cX5_trustByFinger 0 = .ok (.bipush 20, 2) := by decide +kernel
theorem dX5_trustByFinger_2 : decode cX5_trustByFinger 2 = .ok (.aload_n 0, 1) := by decide +kernel
theorem dX5_trustByFinger_3 : decode cX5_trustByFinger 3 = .ok (.getfield 15, 3) := by decide +kernel
theorem dX5_trustByFinger_6 : decode cX5_trustByFinger 6 = .ok (.aload_n 0, 1) := by decide +kernel
theorem dX5_trustByFinger_7 : decode cX5_trustByFinger 7 = .ok (.getfield 9, 3) := by decide +kernel
theorem dX5_trustByFinger_10 : decode cX5_trustByFinger 10 = .ok (.getfield 44, 3) := by decide +kernel
theorem dX5_trustByFinger_13 : decode cX5_trustByFinger 13 = .ok (.iconst 2, 1) := by decide +kernel
theorem dX5_trustByFinger_14 : decode cX5_trustByFinger 14 = .ok (.idiv, 1) := by decide +kernel
theorem dX5_trustByFinger_15 : decode cX5_trustByFinger 15 = .ok (.iadd, 1) := by decide +kernel
theorem dX5_trustByFinger_16 : decode cX5_trustByFinger 16 = .ok (.iconst 1, 1) := by decide +kernel
theorem dX5_trustByFinger_17 : decode cX5_trustByFinger 17 = .ok (.iadd, 1) := by decide +kernel
theorem dX5_trustByFinger_18 : decode cX5_trustByFinger 18 = .ok (.invokestatic 35, 3) := by decide +kernel
theorem dX5_trustByFinger_21 : decode cX5_trustByFinger 21 = .ok (.ireturn, 1) := by decide +kernel
theorem dX5_stepsByFinger_0 : decode cX5_stepsByFinger 0 = .ok (.aload_n 0, 1) := by decide +kernel
theorem dX5_stepsByFinger_1 : decode cX5_stepsByFinger 1 = .ok (.invokevirtual 31, 3) := by decide +kernel
theorem dX5_stepsByFinger_4 : decode cX5_stepsByFinger 4 = .ok (.ifCond .ne 27, 3) := by decide +kernel
theorem dX5_stepsByFinger_7 : decode cX5_stepsByFinger 7 = .ok (.aload_n 0, 1) := by decide +kernel
theorem dX5_stepsByFinger_8 : decode cX5_stepsByFinger 8 = .ok (.invokevirtual 47, 3) := by decide +kernel
theorem dX5_stepsByFinger_11 : decode cX5_stepsByFinger 11 = .ok (.aload_n 0, 1) := by decide +kernel
theorem dX5_stepsByFinger_12 : decode cX5_stepsByFinger 12 = .ok (.getfield 9, 3) := by decide +kernel
theorem dX5_stepsByFinger_15 : decode cX5_stepsByFinger 15 = .ok (.aload_n 0, 1) := by decide +kernel
theorem dX5_stepsByFinger_16 : decode cX5_stepsByFinger 16 = .ok (.getfield 19, 3) := by decide +kernel
theorem dX5_stepsByFinger_19 : decode cX5_stepsByFinger 19 = .ok (.invokevirtual 25, 3) := by decide +kernel
theorem dX5_stepsByFinger_22 : decode cX5_stepsByFinger 22 = .ok (.iconst 3, 1) := by decide +kernel
theorem dX5_stepsByFinger_23 : decode cX5_stepsByFinger 23 = .ok (.iadd, 1) := by decide +kernel
theorem dX5_stepsByFinger_24 : decode cX5_stepsByFinger 24 = .ok (.if_icmp .lt 7, 3) := by decide +kernel
theorem dX5_stepsByFinger_27 : decode cX5_stepsByFinger 27 = .ok (.iconst 1, 1) := by decide +kernel
theorem dX5_stepsByFinger_28 : decode cX5_stepsByFinger 28 = .ok (.goto 4, 3) := by decide +kernel
theorem dX5_stepsByFinger_31 : decode cX5_stepsByFinger 31 = .ok (.iconst 0, 1) := by decide +kernel
theorem dX5_stepsByFinger_32 : decode cX5_stepsByFinger 32 = .ok (.ireturn, 1) := by decide +kernel
theorem dX5_meets_0 : decode cX5_meets 0 = .ok (.iload_n 1, 1) := by decide +kernel
theorem dX5_meets_1 : decode cX5_meets 1 = .ok (.iconst 2, 1) := by decide +kernel
theorem dX5_meets_2 : decode cX5_meets 2 = .ok (.if_icmp .ne 10, 3) := by decide +kernel
theorem dX5_meets_5 : decode cX5_meets 5 = .ok (.aload_n 0, 1) := by decide +kernel
theorem dX5_meets_6 : decode cX5_meets 6 = .ok (.invokevirtual 51, 3) := by decide +kernel
theorem dX5_meets_9 : decode cX5_meets 9 = .ok (.goto 20, 3) := by decide +kernel
theorem dX5_meets_12 : decode cX5_meets 12 = .ok (.iload_n 1, 1) := by decide +kernel
theorem dX5_meets_13 : decode cX5_meets 13 = .ok (.iconst 1, 1) := by decide +kernel
theorem dX5_meets_14 : decode cX5_meets 14 = .ok (.if_icmp .ne 14, 3) := by decide +kernel
theorem dX5_meets_17 : decode cX5_meets 17 = .ok (.aload_n 0, 1) := by decide +kernel
theorem dX5_meets_18 : decode cX5_meets 18 = .ok (.invokevirtual 54, 3) := by decide +kernel
theorem dX5_meets_21 : decode cX5_meets 21 = .ok (.ifCond .eq 7, 3) := by decide +kernel
theorem dX5_meets_24 : decode cX5_meets 24 = .ok (.iconst 1, 1) := by decide +kernel
theorem dX5_meets_25 : decode cX5_meets 25 = .ok (.goto 4, 3) := by decide +kernel
theorem dX5_meets_28 : decode cX5_meets 28 = .ok (.iconst 0, 1) := by decide +kernel
theorem dX5_meets_29 : decode cX5_meets 29 = .ok (.istore_n 2, 1) := by decide +kernel
theorem dX5_meets_30 : decode cX5_meets 30 = .ok (.iload_n 1, 1) := by decide +kernel
theorem dX5_meets_31 : decode cX5_meets 31 = .ok (.ifCond .ne 17, 3) := by decide +kernel
theorem dX5_meets_34 : decode cX5_meets 34 = .ok (.aload_n 0, 1) := by decide +kernel
theorem dX5_meets_35 : decode cX5_meets 35 = .ok (.aload_n 0, 1) := by decide +kernel
theorem dX5_meets_36 : decode cX5_meets 36 = .ok (.getfield 9, 3) := by decide +kernel
theorem dX5_meets_39 : decode cX5_meets 39 = .ok (.getfield 44, 3) := by decide +kernel
theorem dX5_meets_42 : decode cX5_meets 42 = .ok (.invokevirtual 57, 3) := by decide +kernel
theorem dX5_meets_45 : decode cX5_meets 45 = .ok (.goto 35, 3) := by decide +kernel
theorem dX5_meets_48 : decode cX5_meets 48 = .ok (.iload_n 1, 1) := by decide +kernel
theorem dX5_meets_49 : decode cX5_meets 49 = .ok (.iconst 1, 1) := by decide +kernel
theorem dX5_meets_50 : decode cX5_meets 50 = .ok (.if_icmp .ne 14, 3) := by decide +kernel
theorem dX5_meets_53 : decode cX5_meets 53 = .ok (.aload_n 0, 1) := by decide +kernel
theorem dX5_meets_54 : decode cX5_meets 54 = .ok (.aload_n 0, 1) := by decide +kernel
theorem dX5_meets_55 : decode cX5_meets 55 = .ok (.invokevirtual 47, 3) := by decide +kernel
theorem dX5_meets_58 : decode cX5_meets 58 = .ok (.putfield 15, 3) := by decide +kernel
theorem dX5_meets_61 : decode cX5_meets 61 = .ok (.goto 19, 3) := by decide +kernel
theorem dX5_meets_64 : decode cX5_meets 64 = .ok (.iload_n 2, 1) := by decide +kernel
theorem dX5_meets_65 : decode cX5_meets 65 = .ok (.ifCond .ne 15, 3) := by decide +kernel
theorem dX5_meets_68 : decode cX5_meets 68 = .ok (.aload_n 0, 1) := by decide +kernel
theorem dX5_meets_69 : decode cX5_meets 69 = .ok (.aload_n 0, 1) := by decide +kernel
theorem dX5_meets_70 : decode cX5_meets 70 = .ok (.getfield 9, 3) := by decide +kernel
theorem dX5_meets_73 : decode cX5_meets 73 = .ok (.getfield 61, 3) := by decide +kernel
theorem dX5_meets_76 : decode cX5_meets 76 = .ok (.ineg, 1) := by decide +kernel
theorem dX5_meets_77 : decode cX5_meets 77 = .ok (.invokevirtual 57, 3) := by decide +kernel
theorem dX5_meets_80 : decode cX5_meets 80 = .ok (.iload_n 2, 1) := by decide +kernel
theorem dX5_meets_81 : decode cX5_meets 81 = .ok (.ifCond .eq 13, 3) := by decide +kernel
theorem dX5_meets_84 : decode cX5_meets 84 = .ok (.aload_n 0, 1) := by decide +kernel
theorem dX5_meets_85 : decode cX5_meets 85 = .ok (.dup, 1) := by decide +kernel
theorem dX5_meets_86 : decode cX5_meets 86 = .ok (.getfield 19, 3) := by decide +kernel
theorem dX5_meets_89 : decode cX5_meets 89 = .ok (.iconst 1, 1) := by decide +kernel
theorem dX5_meets_90 : decode cX5_meets 90 = .ok (.iadd, 1) := by decide +kernel
theorem dX5_meets_91 : decode cX5_meets 91 = .ok (.putfield 19, 3) := by decide +kernel
theorem dX5_meets_94 : decode cX5_meets 94 = .ok (.iload_n 1, 1) := by decide +kernel
theorem dX5_meets_95 : decode cX5_meets 95 = .ok (.iconst 2, 1) := by decide +kernel
theorem dX5_meets_96 : decode cX5_meets 96 = .ok (.if_icmp .ne 11, 3) := by decide +kernel
theorem dX5_meets_99 : decode cX5_meets 99 = .ok (.iload_n 2, 1) := by decide +kernel
theorem dX5_meets_100 : decode cX5_meets 100 = .ok (.ifCond .ne 7, 3) := by decide +kernel
theorem dX5_meets_103 : decode cX5_meets 103 = .ok (.iconst 1, 1) := by decide +kernel
theorem dX5_meets_104 : decode cX5_meets 104 = .ok (.goto 4, 3) := by decide +kernel
theorem dX5_meets_107 : decode cX5_meets 107 = .ok (.iconst 0, 1) := by decide +kernel
theorem dX5_meets_108 : decode cX5_meets 108 = .ok (.ireturn, 1) := by decide +kernel
theorem dX5_getsColder_0 : decode cX5_getsColder 0 = .ok (.aload_n 0, 1) := by decide +kernel
theorem dX5_getsColder_1 : decode cX5_getsColder 1 = .ok (.bipush 20, 2) := by decide +kernel
theorem dX5_getsColder_3 : decode cX5_getsColder 3 = .ok (.aload_n 0, 1) := by decide +kernel
theorem dX5_getsColder_4 : decode cX5_getsColder 4 = .ok (.getfield 22, 3) := by decide +kernel
theorem dX5_getsColder_7 : decode cX5_getsColder 7 = .ok (.iconst 1, 1) := by decide +kernel
theorem dX5_getsColder_8 : decode cX5_getsColder 8 = .ok (.iadd, 1) := by decide +kernel
theorem dX5_getsColder_9 : decode cX5_getsColder 9 = .ok (.invokestatic 35, 3) := by decide +kernel
theorem dX5_getsColder_12 : decode cX5_getsColder 12 = .ok (.putfield 22, 3) := by decide +kernel
theorem dX5_getsColder_15 : decode cX5_getsColder 15 = .ok (.aload_n 0, 1) := by decide +kernel
theorem dX5_getsColder_16 : decode cX5_getsColder 16 = .ok (.getfield 22, 3) := by decide +kernel
theorem dX5_getsColder_19 : decode cX5_getsColder 19 = .ok (.aload_n 0, 1) := by decide +kernel
theorem dX5_getsColder_20 : decode cX5_getsColder 20 = .ok (.getfield 9, 3) := by decide +kernel
theorem dX5_getsColder_23 : decode cX5_getsColder 23 = .ok (.getfield 64, 3) := by decide +kernel
theorem dX5_getsColder_26 : decode cX5_getsColder 26 = .ok (.if_icmp .le 13, 3) := by decide +kernel
theorem dX5_getsColder_29 : decode cX5_getsColder 29 = .ok (.aload_n 0, 1) := by decide +kernel
theorem dX5_getsColder_30 : decode cX5_getsColder 30 = .ok (.iconst (-1), 1) := by decide +kernel
theorem dX5_getsColder_31 : decode cX5_getsColder 31 = .ok (.invokevirtual 57, 3) := by decide +kernel
theorem dX5_getsColder_34 : decode cX5_getsColder 34 = .ok (.aload_n 0, 1) := by decide +kernel
theorem dX5_getsColder_35 : decode cX5_getsColder 35 = .ok (.iconst 0, 1) := by decide +kernel
theorem dX5_getsColder_36 : decode cX5_getsColder 36 = .ok (.putfield 22, 3) := by decide +kernel
theorem dX5_getsColder_39 : decode cX5_getsColder 39 = .ok (.return_, 1) := by decide +kernel
theorem dX5_pauses_0 : decode cX5_pauses 0 = .ok (.aload_n 0, 1) := by decide +kernel
theorem dX5_pauses_1 : decode cX5_pauses 1 = .ok (.invokevirtual 31, 3) := by decide +kernel
theorem dX5_pauses_4 : decode cX5_pauses 4 = .ok (.ifCond .ne 19, 3) := by decide +kernel
theorem dX5_pauses_7 : decode cX5_pauses 7 = .ok (.aload_n 0, 1) := by decide +kernel
theorem dX5_pauses_8 : decode cX5_pauses 8 = .ok (.iconst 0, 1) := by decide +kernel
theorem dX5_pauses_9 : decode cX5_pauses 9 = .ok (.aload_n 0, 1) := by decide +kernel
theorem dX5_pauses_10 : decode cX5_pauses 10 = .ok (.getfield 19, 3) := by decide +kernel
theorem dX5_pauses_13 : decode cX5_pauses 13 = .ok (.iload_n 1, 1) := by decide +kernel
theorem dX5_pauses_14 : decode cX5_pauses 14 = .ok (.iconst 3, 1) := by decide +kernel
theorem dX5_pauses_15 : decode cX5_pauses 15 = .ok (.idiv, 1) := by decide +kernel
theorem dX5_pauses_16 : decode cX5_pauses 16 = .ok (.isub, 1) := by decide +kernel
theorem dX5_pauses_17 : decode cX5_pauses 17 = .ok (.invokestatic 41, 3) := by decide +kernel
theorem dX5_pauses_20 : decode cX5_pauses 20 = .ok (.putfield 19, 3) := by decide +kernel
theorem dX5_pauses_23 : decode cX5_pauses 23 = .ok (.aload_n 0, 1) := by decide +kernel
theorem dX5_pauses_24 : decode cX5_pauses 24 = .ok (.iload_n 1, 1) := by decide +kernel
theorem dX5_pauses_25 : decode cX5_pauses 25 = .ok (.ineg, 1) := by decide +kernel
theorem dX5_pauses_26 : decode cX5_pauses 26 = .ok (.invokevirtual 57, 3) := by decide +kernel
theorem dX5_pauses_29 : decode cX5_pauses 29 = .ok (.aload_n 0, 1) := by decide +kernel
theorem dX5_pauses_30 : decode cX5_pauses 30 = .ok (.iconst 0, 1) := by decide +kernel
theorem dX5_pauses_31 : decode cX5_pauses 31 = .ok (.putfield 22, 3) := by decide +kernel
theorem dX5_pauses_34 : decode cX5_pauses 34 = .ok (.return_, 1) := by decide +kernel
theorem dX6_init_0 : decode cX6_init 0 = .ok (.aload_n 0, 1) := by decide +kernel
theorem dX6_init_1 : decode cX6_init 1 = .ok (.iload_n 1, 1) := by decide +kernel
theorem dX6_init_2 : decode cX6_init 2 = .ok (.invokespecial 1, 3) := by decide +kernel
theorem dX6_init_5 : decode cX6_init 5 = .ok (.aload_n 0, 1) := by decide +kernel
theorem dX6_init_6 : decode cX6_init 6 = .ok (.iconst 4, 1) := by decide +kernel
theorem dX6_init_7 : decode cX6_init 7 = .ok (.putfield 7, 3) := by decide +kernel
theorem dX6_init_10 : decode cX6_init 10 = .ok (.aload_n 0, 1) := by decide +kernel
theorem dX6_init_11 : decode cX6_init 11 = .ok (.iconst 0, 1) := by decide +kernel
theorem dX6_init_12 : decode cX6_init 12 = .ok (.putfield 13, 3) := by decide +kernel
theorem dX6_init_15 : decode cX6_init 15 = .ok (.aload_n 0, 1) := by decide +kernel
theorem dX6_init_16 : decode cX6_init 16 = .ok (.dup, 1) := by decide +kernel
theorem dX6_init_17 : decode cX6_init 17 = .ok (.getfield 16, 3) := by decide +kernel
theorem dX6_init_20 : decode cX6_init 20 = .ok (.iconst 1, 1) := by decide +kernel
theorem dX6_init_21 : decode cX6_init 21 = .ok (.iadd, 1) := by decide +kernel
theorem dX6_init_22 : decode cX6_init 22 = .ok (.putfield 16, 3) := by decide +kernel
theorem dX6_init_25 : decode cX6_init 25 = .ok (.aload_n 0, 1) := by decide +kernel
theorem dX6_init_26 : decode cX6_init 26 = .ok (.dup, 1) := by decide +kernel
theorem dX6_init_27 : decode cX6_init 27 = .ok (.getfield 19, 3) := by decide +kernel
theorem dX6_init_30 : decode cX6_init 30 = .ok (.iconst 1, 1) := by decide +kernel
theorem dX6_init_31 : decode cX6_init 31 = .ok (.isub, 1) := by decide +kernel
theorem dX6_init_32 : decode cX6_init 32 = .ok (.putfield 19, 3) := by decide +kernel
theorem dX6_init_35 : decode cX6_init 35 = .ok (.return_, 1) := by decide +kernel
theorem dX7_init_0 : decode cX7_init 0 = .ok (.aload_n 0, 1) := by decide +kernel
theorem dX7_init_1 : decode cX7_init 1 = .ok (.invokespecial 3, 3) := by decide +kernel
theorem dX7_init_4 : decode cX7_init 4 = .ok (.aload_n 0, 1) := by decide +kernel
theorem dX7_init_5 : decode cX7_init 5 = .ok (.bipush 6, 2) := by decide +kernel
theorem dX7_init_7 : decode cX7_init 7 = .ok (.anewarray 9, 3) := by decide +kernel
theorem dX7_init_10 : decode cX7_init 10 = .ok (.putfield 11, 3) := by decide +kernel
theorem dX7_init_13 : decode cX7_init 13 = .ok (.iconst 0, 1) := by decide +kernel
theorem dX7_init_14 : decode cX7_init 14 = .ok (.istore_n 2, 1) := by decide +kernel
theorem dX7_init_15 : decode cX7_init 15 = .ok (.iload_n 2, 1) := by decide +kernel
theorem dX7_init_16 : decode cX7_init 16 = .ok (.aload_n 0, 1) := by decide +kernel
theorem dX7_init_17 : decode cX7_init 17 = .ok (.getfield 11, 3) := by decide +kernel
theorem dX7_init_20 : decode cX7_init 20 = .ok (.arraylength, 1) := by decide +kernel
theorem dX7_init_21 : decode cX7_init 21 = .ok (.if_icmp .ge 23, 3) := by decide +kernel
theorem dX7_init_24 : decode cX7_init 24 = .ok (.aload_n 0, 1) := by decide +kernel
theorem dX7_init_25 : decode cX7_init 25 = .ok (.getfield 11, 3) := by decide +kernel
theorem dX7_init_28 : decode cX7_init 28 = .ok (.iload_n 2, 1) := by decide +kernel
theorem dX7_init_29 : decode cX7_init 29 = .ok (.new 9, 3) := by decide +kernel
theorem dX7_init_32 : decode cX7_init 32 = .ok (.dup, 1) := by decide +kernel
theorem dX7_init_33 : decode cX7_init 33 = .ok (.aload_n 1, 1) := by decide +kernel
theorem dX7_init_34 : decode cX7_init 34 = .ok (.invokespecial 17, 3) := by decide +kernel
theorem dX7_init_37 : decode cX7_init 37 = .ok (.aastore, 1) := by decide +kernel
theorem dX7_init_38 : decode cX7_init 38 = .ok (.iinc 2 1, 3) := by decide +kernel
theorem dX7_init_41 : decode cX7_init 41 = .ok (.goto (-26), 3) := by decide +kernel
theorem dX7_init_44 : decode cX7_init 44 = .ok (.aload_n 0, 1) := by decide +kernel
theorem dX7_init_45 : decode cX7_init 45 = .ok (.new 9, 3) := by decide +kernel
theorem dX7_init_48 : decode cX7_init 48 = .ok (.dup, 1) := by decide +kernel
theorem dX7_init_49 : decode cX7_init 49 = .ok (.aload_n 1, 1) := by decide +kernel
theorem dX7_init_50 : decode cX7_init 50 = .ok (.invokespecial 17, 3) := by decide +kernel
theorem dX7_init_53 : decode cX7_init 53 = .ok (.putfield 20, 3) := by decide +kernel
theorem dX7_init_56 : decode cX7_init 56 = .ok (.return_, 1) := by decide +kernel
theorem dX7_setTo_0 : decode cX7_setTo 0 = .ok (.iconst 0, 1) := by decide +kernel
theorem dX7_setTo_1 : decode cX7_setTo 1 = .ok (.istore_n 2, 1) := by decide +kernel
theorem dX7_setTo_2 : decode cX7_setTo 2 = .ok (.iload_n 2, 1) := by decide +kernel
theorem dX7_setTo_3 : decode cX7_setTo 3 = .ok (.aload_n 1, 1) := by decide +kernel
theorem dX7_setTo_4 : decode cX7_setTo 4 = .ok (.getfield 24, 3) := by decide +kernel
theorem dX7_setTo_7 : decode cX7_setTo 7 = .ok (.if_icmp .ge 24, 3) := by decide +kernel
theorem dX7_setTo_10 : decode cX7_setTo 10 = .ok (.aload_n 0, 1) := by decide +kernel
theorem dX7_setTo_11 : decode cX7_setTo 11 = .ok (.getfield 11, 3) := by decide +kernel
theorem dX7_setTo_14 : decode cX7_setTo 14 = .ok (.iload_n 2, 1) := by decide +kernel
theorem dX7_setTo_15 : decode cX7_setTo 15 = .ok (.aaload, 1) := by decide +kernel
theorem dX7_setTo_16 : decode cX7_setTo 16 = .ok (.aload_n 1, 1) := by decide +kernel
theorem dX7_setTo_17 : decode cX7_setTo 17 = .ok (.getfield 11, 3) := by decide +kernel
theorem dX7_setTo_20 : decode cX7_setTo 20 = .ok (.iload_n 2, 1) := by decide +kernel
theorem dX7_setTo_21 : decode cX7_setTo 21 = .ok (.aaload, 1) := by decide +kernel
theorem dX7_setTo_22 : decode cX7_setTo 22 = .ok (.invokevirtual 28, 3) := by decide +kernel
theorem dX7_setTo_25 : decode cX7_setTo 25 = .ok (.iinc 2 1, 3) := by decide +kernel
theorem dX7_setTo_28 : decode cX7_setTo 28 = .ok (.goto (-26), 3) := by decide +kernel
theorem dX7_setTo_31 : decode cX7_setTo 31 = .ok (.aload_n 0, 1) := by decide +kernel
theorem dX7_setTo_32 : decode cX7_setTo 32 = .ok (.aload_n 1, 1) := by decide +kernel
theorem dX7_setTo_33 : decode cX7_setTo 33 = .ok (.getfield 24, 3) := by decide +kernel
theorem dX7_setTo_36 : decode cX7_setTo 36 = .ok (.putfield 24, 3) := by decide +kernel
theorem dX7_setTo_39 : decode cX7_setTo 39 = .ok (.aload_n 0, 1) := by decide +kernel
theorem dX7_setTo_40 : decode cX7_setTo 40 = .ok (.aload_n 1, 1) := by decide +kernel
theorem dX7_setTo_41 : decode cX7_setTo 41 = .ok (.getfield 32, 3) := by decide +kernel
theorem dX7_setTo_44 : decode cX7_setTo 44 = .ok (.putfield 32, 3) := by decide +kernel
theorem dX7_setTo_47 : decode cX7_setTo 47 = .ok (.aload_n 0, 1) := by decide +kernel
theorem dX7_setTo_48 : decode cX7_setTo 48 = .ok (.iconst 0, 1) := by decide +kernel
theorem dX7_setTo_49 : decode cX7_setTo 49 = .ok (.putfield 35, 3) := by decide +kernel
theorem dX7_setTo_52 : decode cX7_setTo 52 = .ok (.return_, 1) := by decide +kernel
theorem dX7_has_0 : decode cX7_has 0 = .ok (.iload_n 1, 1) := by decide +kernel
theorem dX7_has_1 : decode cX7_has 1 = .ok (.iconst 0, 1) := by decide +kernel
theorem dX7_has_2 : decode cX7_has 2 = .ok (.aload_n 0, 1) := by decide +kernel
theorem dX7_has_3 : decode cX7_has 3 = .ok (.getfield 24, 3) := by decide +kernel
theorem dX7_has_6 : decode cX7_has 6 = .ok (.iconst 1, 1) := by decide +kernel
theorem dX7_has_7 : decode cX7_has 7 = .ok (.isub, 1) := by decide +kernel
theorem dX7_has_8 : decode cX7_has 8 = .ok (.invokestatic 38, 3) := by decide +kernel
theorem dX7_has_11 : decode cX7_has 11 = .ok (.ireturn, 1) := by decide +kernel
theorem dX7_hasTwo_0 : decode cX7_hasTwo 0 = .ok (.aload_n 0, 1) := by decide +kernel
theorem dX7_hasTwo_1 : decode cX7_hasTwo 1 = .ok (.iload_n 1, 1) := by decide +kernel
theorem dX7_hasTwo_2 : decode cX7_hasTwo 2 = .ok (.invokevirtual 42, 3) := by decide +kernel
theorem dX7_hasTwo_5 : decode cX7_hasTwo 5 = .ok (.ifCond .eq 20, 3) := by decide +kernel
theorem dX7_hasTwo_8 : decode cX7_hasTwo 8 = .ok (.aload_n 0, 1) := by decide +kernel
theorem dX7_hasTwo_9 : decode cX7_hasTwo 9 = .ok (.iload_n 2, 1) := by decide +kernel
theorem dX7_hasTwo_10 : decode cX7_hasTwo 10 = .ok (.invokevirtual 42, 3) := by decide +kernel
theorem dX7_hasTwo_13 : decode cX7_hasTwo 13 = .ok (.ifCond .eq 12, 3) := by decide +kernel
theorem dX7_hasTwo_16 : decode cX7_hasTwo 16 = .ok (.iload_n 1, 1) := by decide +kernel
theorem dX7_hasTwo_17 : decode cX7_hasTwo 17 = .ok (.iload_n 2, 1) := by decide +kernel
theorem dX7_hasTwo_18 : decode cX7_hasTwo 18 = .ok (.if_icmp .eq 7, 3) := by decide +kernel
theorem dX7_hasTwo_21 : decode cX7_hasTwo 21 = .ok (.iconst 1, 1) := by decide +kernel
theorem dX7_hasTwo_22 : decode cX7_hasTwo 22 = .ok (.goto 4, 3) := by decide +kernel
theorem dX7_hasTwo_25 : decode cX7_hasTwo 25 = .ok (.iconst 0, 1) := by decide +kernel
theorem dX7_hasTwo_26 : decode cX7_hasTwo 26 = .ok (.ireturn, 1) := by decide +kernel
theorem dX7_hasRoom_0 : decode cX7_hasRoom 0 = .ok (.aload_n 0, 1) := by decide +kernel
theorem dX7_hasRoom_1 : decode cX7_hasRoom 1 = .ok (.getfield 24, 3) := by decide +kernel
theorem dX7_hasRoom_4 : decode cX7_hasRoom 4 = .ok (.aload_n 0, 1) := by decide +kernel
theorem dX7_hasRoom_5 : decode cX7_hasRoom 5 = .ok (.getfield 11, 3) := by decide +kernel
theorem dX7_hasRoom_8 : decode cX7_hasRoom 8 = .ok (.arraylength, 1) := by decide +kernel
theorem dX7_hasRoom_9 : decode cX7_hasRoom 9 = .ok (.if_icmp .ge 7, 3) := by decide +kernel
theorem dX7_hasRoom_12 : decode cX7_hasRoom 12 = .ok (.iconst 1, 1) := by decide +kernel
theorem dX7_hasRoom_13 : decode cX7_hasRoom 13 = .ok (.goto 4, 3) := by decide +kernel
theorem dX7_hasRoom_16 : decode cX7_hasRoom 16 = .ok (.iconst 0, 1) := by decide +kernel
theorem dX7_hasRoom_17 : decode cX7_hasRoom 17 = .ok (.ireturn, 1) := by decide +kernel
theorem dX7_canTake_0 : decode cX7_canTake 0 = .ok (.aload_n 0, 1) := by decide +kernel
theorem dX7_canTake_1 : decode cX7_canTake 1 = .ok (.iload_n 1, 1) := by decide +kernel
theorem dX7_canTake_2 : decode cX7_canTake 2 = .ok (.invokevirtual 42, 3) := by decide +kernel
theorem dX7_canTake_5 : decode cX7_canTake 5 = .ok (.ifCond .eq 28, 3) := by decide +kernel
theorem dX7_canTake_8 : decode cX7_canTake 8 = .ok (.aload_n 0, 1) := by decide +kernel
theorem dX7_canTake_9 : decode cX7_canTake 9 = .ok (.getfield 11, 3) := by decide +kernel
theorem dX7_canTake_12 : decode cX7_canTake 12 = .ok (.iload_n 1, 1) := by decide +kernel
theorem dX7_canTake_13 : decode cX7_canTake 13 = .ok (.aaload, 1) := by decide +kernel
theorem dX7_canTake_14 : decode cX7_canTake 14 = .ok (.invokevirtual 46, 3) := by decide +kernel
theorem dX7_canTake_17 : decode cX7_canTake 17 = .ok (.ifCond .ne 16, 3) := by decide +kernel
theorem dX7_canTake_20 : decode cX7_canTake 20 = .ok (.iload_n 2, 1) := by decide +kernel
theorem dX7_canTake_21 : decode cX7_canTake 21 = .ok (.iconst 0, 1) := by decide +kernel
theorem dX7_canTake_22 : decode cX7_canTake 22 = .ok (.iconst 3, 1) := by decide +kernel
theorem dX7_canTake_23 : decode cX7_canTake 23 = .ok (.invokestatic 38, 3) := by decide +kernel
theorem dX7_canTake_26 : decode cX7_canTake 26 = .ok (.ifCond .eq 7, 3) := by decide +kernel
theorem dX7_canTake_29 : decode cX7_canTake 29 = .ok (.iconst 1, 1) := by decide +kernel
theorem dX7_canTake_30 : decode cX7_canTake 30 = .ok (.goto 4, 3) := by decide +kernel
theorem dX7_canTake_33 : decode cX7_canTake 33 = .ok (.iconst 0, 1) := by decide +kernel
theorem dX7_canTake_34 : decode cX7_canTake 34 = .ok (.ireturn, 1) := by decide +kernel
theorem dX7_add_0 : decode cX7_add 0 = .ok (.aload_n 0, 1) := by decide +kernel
theorem dX7_add_1 : decode cX7_add 1 = .ok (.getfield 11, 3) := by decide +kernel
theorem dX7_add_4 : decode cX7_add 4 = .ok (.aload_n 0, 1) := by decide +kernel
theorem dX7_add_5 : decode cX7_add 5 = .ok (.getfield 24, 3) := by decide +kernel
theorem dX7_add_8 : decode cX7_add 8 = .ok (.aaload, 1) := by decide +kernel
theorem dX7_add_9 : decode cX7_add 9 = .ok (.astore_n 3, 1) := by decide +kernel
theorem dX7_add_10 : decode cX7_add 10 = .ok (.aload_n 3, 1) := by decide +kernel
theorem dX7_add_11 : decode cX7_add 11 = .ok (.aload_n 1, 1) := by decide +kernel
theorem dX7_add_12 : decode cX7_add 12 = .ok (.putfield 50, 3) := by decide +kernel
theorem dX7_add_15 : decode cX7_add 15 = .ok (.aload_n 3, 1) := by decide +kernel
theorem dX7_add_16 : decode cX7_add 16 = .ok (.iload_n 2, 1) := by decide +kernel
theorem dX7_add_17 : decode cX7_add 17 = .ok (.putfield 54, 3) := by decide +kernel
theorem dX7_add_20 : decode cX7_add 20 = .ok (.aload_n 3, 1) := by decide +kernel
theorem dX7_add_21 : decode cX7_add 21 = .ok (.iconst 0, 1) := by decide +kernel
theorem dX7_add_22 : decode cX7_add 22 = .ok (.putfield 57, 3) := by decide +kernel
theorem dX7_add_25 : decode cX7_add 25 = .ok (.aload_n 3, 1) := by decide +kernel
theorem dX7_add_26 : decode cX7_add 26 = .ok (.iconst 0, 1) := by decide +kernel
theorem dX7_add_27 : decode cX7_add 27 = .ok (.putfield 60, 3) := by decide +kernel
theorem dX7_add_30 : decode cX7_add 30 = .ok (.aload_n 0, 1) := by decide +kernel
theorem dX7_add_31 : decode cX7_add 31 = .ok (.dup, 1) := by decide +kernel
theorem dX7_add_32 : decode cX7_add 32 = .ok (.getfield 24, 3) := by decide +kernel
theorem dX7_add_35 : decode cX7_add 35 = .ok (.iconst 1, 1) := by decide +kernel
theorem dX7_add_36 : decode cX7_add 36 = .ok (.iadd, 1) := by decide +kernel
theorem dX7_add_37 : decode cX7_add 37 = .ok (.putfield 24, 3) := by decide +kernel
theorem dX7_add_40 : decode cX7_add 40 = .ok (.return_, 1) := by decide +kernel
theorem dX7_swap_0 : decode cX7_swap 0 = .ok (.aload_n 0, 1) := by decide +kernel
theorem dX7_swap_1 : decode cX7_swap 1 = .ok (.getfield 20, 3) := by decide +kernel
theorem dX7_swap_4 : decode cX7_swap 4 = .ok (.aload_n 0, 1) := by decide +kernel
theorem dX7_swap_5 : decode cX7_swap 5 = .ok (.getfield 11, 3) := by decide +kernel
theorem dX7_swap_8 : decode cX7_swap 8 = .ok (.iload_n 1, 1) := by decide +kernel
theorem dX7_swap_9 : decode cX7_swap 9 = .ok (.aaload, 1) := by decide +kernel
theorem dX7_swap_10 : decode cX7_swap 10 = .ok (.invokevirtual 28, 3) := by decide +kernel
theorem dX7_swap_13 : decode cX7_swap 13 = .ok (.aload_n 0, 1) := by decide +kernel
theorem dX7_swap_14 : decode cX7_swap 14 = .ok (.getfield 11, 3) := by decide +kernel
theorem dX7_swap_17 : decode cX7_swap 17 = .ok (.iload_n 1, 1) := by decide +kernel
theorem dX7_swap_18 : decode cX7_swap 18 = .ok (.aaload, 1) := by decide +kernel
theorem dX7_swap_19 : decode cX7_swap 19 = .ok (.aload_n 0, 1) := by decide +kernel
theorem dX7_swap_20 : decode cX7_swap 20 = .ok (.getfield 11, 3) := by decide +kernel
theorem dX7_swap_23 : decode cX7_swap 23 = .ok (.iload_n 2, 1) := by decide +kernel
theorem dX7_swap_24 : decode cX7_swap 24 = .ok (.aaload, 1) := by decide +kernel
theorem dX7_swap_25 : decode cX7_swap 25 = .ok (.invokevirtual 28, 3) := by decide +kernel
theorem dX7_swap_28 : decode cX7_swap 28 = .ok (.aload_n 0, 1) := by decide +kernel
theorem dX7_swap_29 : decode cX7_swap 29 = .ok (.getfield 11, 3) := by decide +kernel
theorem dX7_swap_32 : decode cX7_swap 32 = .ok (.iload_n 2, 1) := by decide +kernel
theorem dX7_swap_33 : decode cX7_swap 33 = .ok (.aaload, 1) := by decide +kernel
theorem dX7_swap_34 : decode cX7_swap 34 = .ok (.aload_n 0, 1) := by decide +kernel
theorem dX7_swap_35 : decode cX7_swap 35 = .ok (.getfield 20, 3) := by decide +kernel
theorem dX7_swap_38 : decode cX7_swap 38 = .ok (.invokevirtual 28, 3) := by decide +kernel
theorem dX7_swap_41 : decode cX7_swap 41 = .ok (.return_, 1) := by decide +kernel
theorem dX7_pause_0 : decode cX7_pause 0 = .ok (.iconst 0, 1) := by decide +kernel
theorem dX7_pause_1 : decode cX7_pause 1 = .ok (.istore_n 2, 1) := by decide +kernel
theorem dX7_pause_2 : decode cX7_pause 2 = .ok (.iload_n 2, 1) := by decide +kernel
theorem dX7_pause_3 : decode cX7_pause 3 = .ok (.aload_n 0, 1) := by decide +kernel
theorem dX7_pause_4 : decode cX7_pause 4 = .ok (.getfield 24, 3) := by decide +kernel
theorem dX7_pause_7 : decode cX7_pause 7 = .ok (.if_icmp .ge 19, 3) := by decide +kernel
theorem dX7_pause_10 : decode cX7_pause 10 = .ok (.aload_n 0, 1) := by decide +kernel
theorem dX7_pause_11 : decode cX7_pause 11 = .ok (.getfield 11, 3) := by decide +kernel
theorem dX7_pause_14 : decode cX7_pause 14 = .ok (.iload_n 2, 1) := by decide +kernel
theorem dX7_pause_15 : decode cX7_pause 15 = .ok (.aaload, 1) := by decide +kernel
theorem dX7_pause_16 : decode cX7_pause 16 = .ok (.iload_n 1, 1) := by decide +kernel
theorem dX7_pause_17 : decode cX7_pause 17 = .ok (.invokevirtual 63, 3) := by decide +kernel
theorem dX7_pause_20 : decode cX7_pause 20 = .ok (.iinc 2 1, 3) := by decide +kernel
theorem dX7_pause_23 : decode cX7_pause 23 = .ok (.goto (-21), 3) := by decide +kernel
theorem dX7_pause_26 : decode cX7_pause 26 = .ok (.return_, 1) := by decide +kernel
theorem dX7_take_0 : decode cX7_take 0 = .ok (.aload_n 0, 1) := by decide +kernel
theorem dX7_take_1 : decode cX7_take 1 = .ok (.getfield 11, 3) := by decide +kernel
theorem dX7_take_4 : decode cX7_take 4 = .ok (.iload_n 1, 1) := by decide +kernel
theorem dX7_take_5 : decode cX7_take 5 = .ok (.aaload, 1) := by decide +kernel
theorem dX7_take_6 : decode cX7_take 6 = .ok (.astore_n 3, 1) := by decide +kernel
theorem dX7_take_7 : decode cX7_take 7 = .ok (.iconst 0, 1) := by decide +kernel
theorem dX7_take_8 : decode cX7_take 8 = .ok (.istore 4, 2) := by decide +kernel
theorem dX7_take_10 : decode cX7_take 10 = .ok (.iload_n 2, 1) := by decide +kernel
theorem dX7_take_11 : decode cX7_take 11 = .ok (.iconst 3, 1) := by decide +kernel
theorem dX7_take_12 : decode cX7_take 12 = .ok (.if_icmp .ne 15, 3) := by decide +kernel
theorem dX7_take_15 : decode cX7_take 15 = .ok (.aload_n 3, 1) := by decide +kernel
theorem dX7_take_16 : decode cX7_take 16 = .ok (.aload_n 0, 1) := by decide +kernel
theorem dX7_take_17 : decode cX7_take 17 = .ok (.iload_n 1, 1) := by decide +kernel
theorem dX7_take_18 : decode cX7_take 18 = .ok (.invokevirtual 67, 3) := by decide +kernel
theorem dX7_take_21 : decode cX7_take 21 = .ok (.invokevirtual 71, 3) := by decide +kernel
theorem dX7_take_24 : decode cX7_take 24 = .ok (.goto 10, 3) := by decide +kernel
theorem dX7_take_27 : decode cX7_take 27 = .ok (.aload_n 3, 1) := by decide +kernel
theorem dX7_take_28 : decode cX7_take 28 = .ok (.iload_n 2, 1) := by decide +kernel
theorem dX7_take_29 : decode cX7_take 29 = .ok (.invokevirtual 74, 3) := by decide +kernel
theorem dX7_take_32 : decode cX7_take 32 = .ok (.istore 4, 2) := by decide +kernel
theorem dX7_take_34 : decode cX7_take 34 = .ok (.iload_n 2, 1) := by decide +kernel
theorem dX7_take_35 : decode cX7_take 35 = .ok (.iconst 2, 1) := by decide +kernel
theorem dX7_take_36 : decode cX7_take 36 = .ok (.if_icmp .ne 31, 3) := by decide +kernel
theorem dX7_take_39 : decode cX7_take 39 = .ok (.aload_n 0, 1) := by decide +kernel
theorem dX7_take_40 : decode cX7_take 40 = .ok (.iload_n 1, 1) := by decide +kernel
theorem dX7_take_41 : decode cX7_take 41 = .ok (.iload 4, 2) := by decide +kernel
theorem dX7_take_43 : decode cX7_take 43 = .ok (.ifCond .eq 14, 3) := by decide +kernel
theorem dX7_take_46 : decode cX7_take 46 = .ok (.aload_n 3, 1) := by decide +kernel
theorem dX7_take_47 : decode cX7_take 47 = .ok (.getfield 50, 3) := by decide +kernel
theorem dX7_take_50 : decode cX7_take 50 = .ok (.getfield 77, 3) := by decide +kernel
theorem dX7_take_53 : decode cX7_take 53 = .ok (.ineg, 1) := by decide +kernel
theorem dX7_take_54 : decode cX7_take 54 = .ok (.goto 10, 3) := by decide +kernel
theorem dX7_take_57 : decode cX7_take 57 = .ok (.aload_n 3, 1) := by decide +kernel
theorem dX7_take_58 : decode cX7_take 58 = .ok (.getfield 50, 3) := by decide +kernel
theorem dX7_take_61 : decode cX7_take 61 = .ok (.getfield 77, 3) := by decide +kernel
theorem dX7_take_64 : decode cX7_take 64 = .ok (.invokevirtual 82, 3) := by decide +kernel
theorem dX7_take_67 : decode cX7_take 67 = .ok (.iconst 0, 1) := by decide +kernel
theorem dX7_take_68 : decode cX7_take 68 = .ok (.istore 5, 2) := by decide +kernel
theorem dX7_take_70 : decode cX7_take 70 = .ok (.iload 5, 2) := by decide +kernel
theorem dX7_take_72 : decode cX7_take 72 = .ok (.aload_n 0, 1) := by decide +kernel
theorem dX7_take_73 : decode cX7_take 73 = .ok (.getfield 24, 3) := by decide +kernel
theorem dX7_take_76 : decode cX7_take 76 = .ok (.if_icmp .ge 38, 3) := by decide +kernel
theorem dX7_take_79 : decode cX7_take 79 = .ok (.iload 5, 2) := by decide +kernel
theorem dX7_take_81 : decode cX7_take 81 = .ok (.iload_n 1, 1) := by decide +kernel
theorem dX7_take_82 : decode cX7_take 82 = .ok (.if_icmp .eq 26, 3) := by decide +kernel
theorem dX7_take_85 : decode cX7_take 85 = .ok (.aload_n 0, 1) := by decide +kernel
theorem dX7_take_86 : decode cX7_take 86 = .ok (.getfield 11, 3) := by decide +kernel
theorem dX7_take_89 : decode cX7_take 89 = .ok (.iload 5, 2) := by decide +kernel
theorem dX7_take_91 : decode cX7_take 91 = .ok (.aaload, 1) := by decide +kernel
theorem dX7_take_92 : decode cX7_take 92 = .ok (.invokevirtual 46, 3) := by decide +kernel
theorem dX7_take_95 : decode cX7_take 95 = .ok (.ifCond .ne 13, 3) := by decide +kernel
theorem dX7_take_98 : decode cX7_take 98 = .ok (.aload_n 0, 1) := by decide +kernel
theorem dX7_take_99 : decode cX7_take 99 = .ok (.getfield 11, 3) := by decide +kernel
theorem dX7_take_102 : decode cX7_take 102 = .ok (.iload 5, 2) := by decide +kernel
theorem dX7_take_104 : decode cX7_take 104 = .ok (.aaload, 1) := by decide +kernel
theorem dX7_take_105 : decode cX7_take 105 = .ok (.invokevirtual 86, 3) := by decide +kernel
theorem dX7_take_108 : decode cX7_take 108 = .ok (.iinc 5 1, 3) := by decide +kernel
theorem dX7_take_111 : decode cX7_take 111 = .ok (.goto (-41), 3) := by decide +kernel
theorem dX7_take_114 : decode cX7_take 114 = .ok (.aload_n 0, 1) := by decide +kernel
theorem dX7_take_115 : decode cX7_take 115 = .ok (.dup, 1) := by decide +kernel
theorem dX7_take_116 : decode cX7_take 116 = .ok (.getfield 32, 3) := by decide +kernel
theorem dX7_take_119 : decode cX7_take 119 = .ok (.iconst 1, 1) := by decide +kernel
theorem dX7_take_120 : decode cX7_take 120 = .ok (.iadd, 1) := by decide +kernel
theorem dX7_take_121 : decode cX7_take 121 = .ok (.putfield 32, 3) := by decide +kernel
theorem dX7_take_124 : decode cX7_take 124 = .ok (.iload 4, 2) := by decide +kernel
theorem dX7_take_126 : decode cX7_take 126 = .ok (.ireturn, 1) := by decide +kernel
theorem dX7_shownTo_0 : decode cX7_shownTo 0 = .ok (.iconst 0, 1) := by decide +kernel
theorem dX7_shownTo_1 : decode cX7_shownTo 1 = .ok (.istore_n 2, 1) := by decide +kernel
theorem dX7_shownTo_2 : decode cX7_shownTo 2 = .ok (.iconst 0, 1) := by decide +kernel
theorem dX7_shownTo_3 : decode cX7_shownTo 3 = .ok (.istore_n 3, 1) := by decide +kernel
theorem dX7_shownTo_4 : decode cX7_shownTo 4 = .ok (.iload_n 3, 1) := by decide +kernel
theorem dX7_shownTo_5 : decode cX7_shownTo 5 = .ok (.aload_n 0, 1) := by decide +kernel
theorem dX7_shownTo_6 : decode cX7_shownTo 6 = .ok (.getfield 24, 3) := by decide +kernel
theorem dX7_shownTo_9 : decode cX7_shownTo 9 = .ok (.if_icmp .ge 50, 3) := by decide +kernel
theorem dX7_shownTo_12 : decode cX7_shownTo 12 = .ok (.aload_n 0, 1) := by decide +kernel
theorem dX7_shownTo_13 : decode cX7_shownTo 13 = .ok (.getfield 11, 3) := by decide +kernel
theorem dX7_shownTo_16 : decode cX7_shownTo 16 = .ok (.iload_n 3, 1) := by decide +kernel
theorem dX7_shownTo_17 : decode cX7_shownTo 17 = .ok (.aaload, 1) := by decide +kernel
theorem dX7_shownTo_18 : decode cX7_shownTo 18 = .ok (.getfield 57, 3) := by decide +kernel
theorem dX7_shownTo_21 : decode cX7_shownTo 21 = .ok (.aload_n 0, 1) := by decide +kernel
theorem dX7_shownTo_22 : decode cX7_shownTo 22 = .ok (.getfield 11, 3) := by decide +kernel
theorem dX7_shownTo_25 : decode cX7_shownTo 25 = .ok (.iload_n 1, 1) := by decide +kernel
theorem dX7_shownTo_26 : decode cX7_shownTo 26 = .ok (.aaload, 1) := by decide +kernel
theorem dX7_shownTo_27 : decode cX7_shownTo 27 = .ok (.getfield 57, 3) := by decide +kernel
theorem dX7_shownTo_30 : decode cX7_shownTo 30 = .ok (.if_icmp .le 23, 3) := by decide +kernel
theorem dX7_shownTo_33 : decode cX7_shownTo 33 = .ok (.iload_n 2, 1) := by decide +kernel
theorem dX7_shownTo_34 : decode cX7_shownTo 34 = .ok (.iload_n 3, 1) := by decide +kernel
theorem dX7_shownTo_35 : decode cX7_shownTo 35 = .ok (.iload_n 1, 1) := by decide +kernel
theorem dX7_shownTo_36 : decode cX7_shownTo 36 = .ok (.isub, 1) := by decide +kernel
theorem dX7_shownTo_37 : decode cX7_shownTo 37 = .ok (.invokestatic 89, 3) := by decide +kernel
theorem dX7_shownTo_40 : decode cX7_shownTo 40 = .ok (.iconst 1, 1) := by decide +kernel
theorem dX7_shownTo_41 : decode cX7_shownTo 41 = .ok (.if_icmp .ne 7, 3) := by decide +kernel
theorem dX7_shownTo_44 : decode cX7_shownTo 44 = .ok (.iconst 2, 1) := by decide +kernel
theorem dX7_shownTo_45 : decode cX7_shownTo 45 = .ok (.goto 4, 3) := by decide +kernel
theorem dX7_shownTo_48 : decode cX7_shownTo 48 = .ok (.iconst 1, 1) := by decide +kernel
theorem dX7_shownTo_49 : decode cX7_shownTo 49 = .ok (.invokestatic 94, 3) := by decide +kernel
theorem dX7_shownTo_52 : decode cX7_shownTo 52 = .ok (.istore_n 2, 1) := by decide +kernel
theorem dX7_shownTo_53 : decode cX7_shownTo 53 = .ok (.iinc 3 1, 3) := by decide +kernel
theorem dX7_shownTo_56 : decode cX7_shownTo 56 = .ok (.goto (-52), 3) := by decide +kernel
theorem dX7_shownTo_59 : decode cX7_shownTo 59 = .ok (.iload_n 2, 1) := by decide +kernel
theorem dX7_shownTo_60 : decode cX7_shownTo 60 = .ok (.ireturn, 1) := by decide +kernel
theorem dX7_passOn_0 : decode cX7_passOn 0 = .ok (.aload_n 0, 1) := by decide +kernel
theorem dX7_passOn_1 : decode cX7_passOn 1 = .ok (.iload_n 1, 1) := by decide +kernel
theorem dX7_passOn_2 : decode cX7_passOn 2 = .ok (.iconst 1, 1) := by decide +kernel
theorem dX7_passOn_3 : decode cX7_passOn 3 = .ok (.isub, 1) := by decide +kernel
theorem dX7_passOn_4 : decode cX7_passOn 4 = .ok (.invokevirtual 42, 3) := by decide +kernel
theorem dX7_passOn_7 : decode cX7_passOn 7 = .ok (.ifCond .eq 15, 3) := by decide +kernel
theorem dX7_passOn_10 : decode cX7_passOn 10 = .ok (.aload_n 0, 1) := by decide +kernel
theorem dX7_passOn_11 : decode cX7_passOn 11 = .ok (.getfield 11, 3) := by decide +kernel
theorem dX7_passOn_14 : decode cX7_passOn 14 = .ok (.iload_n 1, 1) := by decide +kernel
theorem dX7_passOn_15 : decode cX7_passOn 15 = .ok (.iconst 1, 1) := by decide +kernel
theorem dX7_passOn_16 : decode cX7_passOn 16 = .ok (.isub, 1) := by decide +kernel
theorem dX7_passOn_17 : decode cX7_passOn 17 = .ok (.aaload, 1) := by decide +kernel
theorem dX7_passOn_18 : decode cX7_passOn 18 = .ok (.iload_n 2, 1) := by decide +kernel
theorem dX7_passOn_19 : decode cX7_passOn 19 = .ok (.invokevirtual 71, 3) := by decide +kernel
theorem dX7_passOn_22 : decode cX7_passOn 22 = .ok (.aload_n 0, 1) := by decide +kernel
theorem dX7_passOn_23 : decode cX7_passOn 23 = .ok (.iload_n 1, 1) := by decide +kernel
theorem dX7_passOn_24 : decode cX7_passOn 24 = .ok (.iconst 1, 1) := by decide +kernel
theorem dX7_passOn_25 : decode cX7_passOn 25 = .ok (.iadd, 1) := by decide +kernel
theorem dX7_passOn_26 : decode cX7_passOn 26 = .ok (.invokevirtual 42, 3) := by decide +kernel
theorem dX7_passOn_29 : decode cX7_passOn 29 = .ok (.ifCond .eq 15, 3) := by decide +kernel
theorem dX7_passOn_32 : decode cX7_passOn 32 = .ok (.aload_n 0, 1) := by decide +kernel
theorem dX7_passOn_33 : decode cX7_passOn 33 = .ok (.getfield 11, 3) := by decide +kernel
theorem dX7_passOn_36 : decode cX7_passOn 36 = .ok (.iload_n 1, 1) := by decide +kernel
theorem dX7_passOn_37 : decode cX7_passOn 37 = .ok (.iconst 1, 1) := by decide +kernel
theorem dX7_passOn_38 : decode cX7_passOn 38 = .ok (.iadd, 1) := by decide +kernel
theorem dX7_passOn_39 : decode cX7_passOn 39 = .ok (.aaload, 1) := by decide +kernel
theorem dX7_passOn_40 : decode cX7_passOn 40 = .ok (.iload_n 2, 1) := by decide +kernel
theorem dX7_passOn_41 : decode cX7_passOn 41 = .ok (.invokevirtual 71, 3) := by decide +kernel
theorem dX7_passOn_44 : decode cX7_passOn 44 = .ok (.return_, 1) := by decide +kernel
theorem dX7_neighbours_0 : decode cX7_neighbours 0 = .ok (.aload_n 0, 1) := by decide +kernel
theorem dX7_neighbours_1 : decode cX7_neighbours 1 = .ok (.iload_n 1, 1) := by decide +kernel
theorem dX7_neighbours_2 : decode cX7_neighbours 2 = .ok (.iconst 1, 1) := by decide +kernel
theorem dX7_neighbours_3 : decode cX7_neighbours 3 = .ok (.isub, 1) := by decide +kernel
theorem dX7_neighbours_4 : decode cX7_neighbours 4 = .ok (.invokevirtual 42, 3) := by decide +kernel
theorem dX7_neighbours_7 : decode cX7_neighbours 7 = .ok (.ifCond .eq 7, 3) := by decide +kernel
theorem dX7_neighbours_10 : decode cX7_neighbours 10 = .ok (.iconst 1, 1) := by decide +kernel
theorem dX7_neighbours_11 : decode cX7_neighbours 11 = .ok (.goto 4, 3) := by decide +kernel
theorem dX7_neighbours_14 : decode cX7_neighbours 14 = .ok (.iconst 0, 1) := by decide +kernel
theorem dX7_neighbours_15 : decode cX7_neighbours 15 = .ok (.aload_n 0, 1) := by decide +kernel
theorem dX7_neighbours_16 : decode cX7_neighbours 16 = .ok (.iload_n 1, 1) := by decide +kernel
theorem dX7_neighbours_17 : decode cX7_neighbours 17 = .ok (.iconst 1, 1) := by decide +kernel
theorem dX7_neighbours_18 : decode cX7_neighbours 18 = .ok (.iadd, 1) := by decide +kernel
theorem dX7_neighbours_19 : decode cX7_neighbours 19 = .ok (.invokevirtual 42, 3) := by decide +kernel
theorem dX7_neighbours_22 : decode cX7_neighbours 22 = .ok (.ifCond .eq 7, 3) := by decide +kernel
theorem dX7_neighbours_25 : decode cX7_neighbours 25 = .ok (.iconst 1, 1) := by decide +kernel
theorem dX7_neighbours_26 : decode cX7_neighbours 26 = .ok (.goto 4, 3) := by decide +kernel
theorem dX7_neighbours_29 : decode cX7_neighbours 29 = .ok (.iconst 0, 1) := by decide +kernel
theorem dX7_neighbours_30 : decode cX7_neighbours 30 = .ok (.iadd, 1) := by decide +kernel
theorem dX7_neighbours_31 : decode cX7_neighbours 31 = .ok (.ireturn, 1) := by decide +kernel
theorem dX7_takeTurn_0 : decode cX7_takeTurn 0 = .ok (.iconst 0, 1) := by decide +kernel
theorem dX7_takeTurn_1 : decode cX7_takeTurn 1 = .ok (.istore_n 1, 1) := by decide +kernel
theorem dX7_takeTurn_2 : decode cX7_takeTurn 2 = .ok (.iload_n 1, 1) := by decide +kernel
theorem dX7_takeTurn_3 : decode cX7_takeTurn 3 = .ok (.aload_n 0, 1) := by decide +kernel
theorem dX7_takeTurn_4 : decode cX7_takeTurn 4 = .ok (.getfield 24, 3) := by decide +kernel
theorem dX7_takeTurn_7 : decode cX7_takeTurn 7 = .ok (.if_icmp .ge 67, 3) := by decide +kernel
theorem dX7_takeTurn_10 : decode cX7_takeTurn 10 = .ok (.aload_n 0, 1) := by decide +kernel
theorem dX7_takeTurn_11 : decode cX7_takeTurn 11 = .ok (.getfield 35, 3) := by decide +kernel
theorem dX7_takeTurn_14 : decode cX7_takeTurn 14 = .ok (.iload_n 1, 1) := by decide +kernel
theorem dX7_takeTurn_15 : decode cX7_takeTurn 15 = .ok (.iadd, 1) := by decide +kernel
theorem dX7_takeTurn_16 : decode cX7_takeTurn 16 = .ok (.aload_n 0, 1) := by decide +kernel
theorem dX7_takeTurn_17 : decode cX7_takeTurn 17 = .ok (.getfield 24, 3) := by decide +kernel
theorem dX7_takeTurn_20 : decode cX7_takeTurn 20 = .ok (.irem, 1) := by decide +kernel
theorem dX7_takeTurn_21 : decode cX7_takeTurn 21 = .ok (.istore_n 2, 1) := by decide +kernel
theorem dX7_takeTurn_22 : decode cX7_takeTurn 22 = .ok (.aload_n 0, 1) := by decide +kernel
theorem dX7_takeTurn_23 : decode cX7_takeTurn 23 = .ok (.getfield 11, 3) := by decide +kernel
theorem dX7_takeTurn_26 : decode cX7_takeTurn 26 = .ok (.iload_n 2, 1) := by decide +kernel
theorem dX7_takeTurn_27 : decode cX7_takeTurn 27 = .ok (.aaload, 1) := by decide +kernel
theorem dX7_takeTurn_28 : decode cX7_takeTurn 28 = .ok (.invokevirtual 46, 3) := by decide +kernel
theorem dX7_takeTurn_31 : decode cX7_takeTurn 31 = .ok (.ifCond .ne 37, 3) := by decide +kernel
theorem dX7_takeTurn_34 : decode cX7_takeTurn 34 = .ok (.aload_n 0, 1) := by decide +kernel
theorem dX7_takeTurn_35 : decode cX7_takeTurn 35 = .ok (.getfield 11, 3) := by decide +kernel
theorem dX7_takeTurn_38 : decode cX7_takeTurn 38 = .ok (.iload_n 2, 1) := by decide +kernel
theorem dX7_takeTurn_39 : decode cX7_takeTurn 39 = .ok (.aaload, 1) := by decide +kernel
theorem dX7_takeTurn_40 : decode cX7_takeTurn 40 = .ok (.invokevirtual 98, 3) := by decide +kernel
theorem dX7_takeTurn_43 : decode cX7_takeTurn 43 = .ok (.ifCond .eq 7, 3) := by decide +kernel
theorem dX7_takeTurn_46 : decode cX7_takeTurn 46 = .ok (.iconst 2, 1) := by decide +kernel
theorem dX7_takeTurn_47 : decode cX7_takeTurn 47 = .ok (.goto 4, 3) := by decide +kernel
theorem dX7_takeTurn_50 : decode cX7_takeTurn 50 = .ok (.iconst 0, 1) := by decide +kernel
theorem dX7_takeTurn_51 : decode cX7_takeTurn 51 = .ok (.istore_n 3, 1) := by decide +kernel
theorem dX7_takeTurn_52 : decode cX7_takeTurn 52 = .ok (.aload_n 0, 1) := by decide +kernel
theorem dX7_takeTurn_53 : decode cX7_takeTurn 53 = .ok (.iload_n 2, 1) := by decide +kernel
theorem dX7_takeTurn_54 : decode cX7_takeTurn 54 = .ok (.iload_n 3, 1) := by decide +kernel
theorem dX7_takeTurn_55 : decode cX7_takeTurn 55 = .ok (.invokevirtual 101, 3) := by decide +kernel
theorem dX7_takeTurn_58 : decode cX7_takeTurn 58 = .ok (.pop, 1) := by decide +kernel
theorem dX7_takeTurn_59 : decode cX7_takeTurn 59 = .ok (.aload_n 0, 1) := by decide +kernel
theorem dX7_takeTurn_60 : decode cX7_takeTurn 60 = .ok (.iload_n 2, 1) := by decide +kernel
theorem dX7_takeTurn_61 : decode cX7_takeTurn 61 = .ok (.iconst 1, 1) := by decide +kernel
theorem dX7_takeTurn_62 : decode cX7_takeTurn 62 = .ok (.iadd, 1) := by decide +kernel
theorem dX7_takeTurn_63 : decode cX7_takeTurn 63 = .ok (.putfield 35, 3) := by decide +kernel
theorem dX7_takeTurn_66 : decode cX7_takeTurn 66 = .ok (.iload_n 3, 1) := by decide +kernel
theorem dX7_takeTurn_67 : decode cX7_takeTurn 67 = .ok (.ireturn, 1) := by decide +kernel
theorem dX7_takeTurn_68 : decode cX7_takeTurn 68 = .ok (.iinc 1 1, 3) := by decide +kernel
theorem dX7_takeTurn_71 : decode cX7_takeTurn 71 = .ok (.goto (-69), 3) := by decide +kernel
theorem dX7_takeTurn_74 : decode cX7_takeTurn 74 = .ok (.bipush (-4), 2) := by decide +kernel
theorem dX7_takeTurn_76 : decode cX7_takeTurn 76 = .ok (.ireturn, 1) := by decide +kernel
theorem dX7_obeys_0 : decode cX7_obeys 0 = .ok (.aload_n 1, 1) := by decide +kernel
theorem dX7_obeys_1 : decode cX7_obeys 1 = .ok (.iload_n 2, 1) := by decide +kernel
theorem dX7_obeys_2 : decode cX7_obeys 2 = .ok (.iconst 1, 1) := by decide +kernel
theorem dX7_obeys_3 : decode cX7_obeys 3 = .ok (.iadd, 1) := by decide +kernel
theorem dX7_obeys_4 : decode cX7_obeys 4 = .ok (.iconst 1, 1) := by decide +kernel
theorem dX7_obeys_5 : decode cX7_obeys 5 = .ok (.invokevirtual 105, 3) := by decide +kernel
theorem dX7_obeys_8 : decode cX7_obeys 8 = .ok (.istore_n 3, 1) := by decide +kernel
theorem dX7_obeys_9 : decode cX7_obeys 9 = .ok (.aload_n 1, 1) := by decide +kernel
theorem dX7_obeys_10 : decode cX7_obeys 10 = .ok (.iload_n 2, 1) := by decide +kernel
theorem dX7_obeys_11 : decode cX7_obeys 11 = .ok (.iconst 2, 1) := by decide +kernel
theorem dX7_obeys_12 : decode cX7_obeys 12 = .ok (.iadd, 1) := by decide +kernel
theorem dX7_obeys_13 : decode cX7_obeys 13 = .ok (.iconst 1, 1) := by decide +kernel
theorem dX7_obeys_14 : decode cX7_obeys 14 = .ok (.invokevirtual 105, 3) := by decide +kernel
theorem dX7_obeys_17 : decode cX7_obeys 17 = .ok (.istore 4, 2) := by decide +kernel
theorem dX7_obeys_19 : decode cX7_obeys 19 = .ok (.aload_n 1, 1) := by decide +kernel
theorem dX7_obeys_20 : decode cX7_obeys 20 = .ok (.iload_n 2, 1) := by decide +kernel
theorem dX7_obeys_21 : decode cX7_obeys 21 = .ok (.invokevirtual 110, 3) := by decide +kernel
theorem dX7_obeys_24 : decode cX7_obeys 24 = .ok (.lookupswitch 105 #[(98, 76), (99, 52), (109, 68), (116, 91), (120, 83)], 52) := by decide +kernel
theorem dX7_obeys_76 : decode cX7_obeys 76 = .ok (.aload_n 0, 1) := by decide +kernel
theorem dX7_obeys_77 : decode cX7_obeys 77 = .ok (.iload_n 3, 1) := by decide +kernel
theorem dX7_obeys_78 : decode cX7_obeys 78 = .ok (.iload 4, 2) := by decide +kernel
theorem dX7_obeys_80 : decode cX7_obeys 80 = .ok (.aload_n 1, 1) := by decide +kernel
theorem dX7_obeys_81 : decode cX7_obeys 81 = .ok (.iload_n 2, 1) := by decide +kernel
theorem dX7_obeys_82 : decode cX7_obeys 82 = .ok (.iconst 3, 1) := by decide +kernel
theorem dX7_obeys_83 : decode cX7_obeys 83 = .ok (.iadd, 1) := by decide +kernel
theorem dX7_obeys_84 : decode cX7_obeys 84 = .ok (.iconst 2, 1) := by decide +kernel
theorem dX7_obeys_85 : decode cX7_obeys 85 = .ok (.invokevirtual 105, 3) := by decide +kernel
theorem dX7_obeys_88 : decode cX7_obeys 88 = .ok (.invokevirtual 113, 3) := by decide +kernel
theorem dX7_obeys_91 : decode cX7_obeys 91 = .ok (.ireturn, 1) := by decide +kernel
theorem dX7_obeys_92 : decode cX7_obeys 92 = .ok (.aload_n 0, 1) := by decide +kernel
theorem dX7_obeys_93 : decode cX7_obeys 93 = .ok (.iload_n 3, 1) := by decide +kernel
theorem dX7_obeys_94 : decode cX7_obeys 94 = .ok (.iload 4, 2) := by decide +kernel
theorem dX7_obeys_96 : decode cX7_obeys 96 = .ok (.invokevirtual 116, 3) := by decide +kernel
theorem dX7_obeys_99 : decode cX7_obeys 99 = .ok (.ireturn, 1) := by decide +kernel
theorem dX7_obeys_100 : decode cX7_obeys 100 = .ok (.aload_n 0, 1) := by decide +kernel
theorem dX7_obeys_101 : decode cX7_obeys 101 = .ok (.iload_n 3, 1) := by decide +kernel
theorem dX7_obeys_102 : decode cX7_obeys 102 = .ok (.invokevirtual 119, 3) := by decide +kernel
theorem dX7_obeys_105 : decode cX7_obeys 105 = .ok (.iconst 1, 1) := by decide +kernel
theorem dX7_obeys_106 : decode cX7_obeys 106 = .ok (.ireturn, 1) := by decide +kernel
theorem dX7_obeys_107 : decode cX7_obeys 107 = .ok (.aload_n 0, 1) := by decide +kernel
theorem dX7_obeys_108 : decode cX7_obeys 108 = .ok (.iload_n 3, 1) := by decide +kernel
theorem dX7_obeys_109 : decode cX7_obeys 109 = .ok (.iload 4, 2) := by decide +kernel
theorem dX7_obeys_111 : decode cX7_obeys 111 = .ok (.invokevirtual 122, 3) := by decide +kernel
theorem dX7_obeys_114 : decode cX7_obeys 114 = .ok (.ireturn, 1) := by decide +kernel
theorem dX7_obeys_115 : decode cX7_obeys 115 = .ok (.aload_n 0, 1) := by decide +kernel
theorem dX7_obeys_116 : decode cX7_obeys 116 = .ok (.iload_n 3, 1) := by decide +kernel
theorem dX7_obeys_117 : decode cX7_obeys 117 = .ok (.aload_n 1, 1) := by decide +kernel
theorem dX7_obeys_118 : decode cX7_obeys 118 = .ok (.iload_n 2, 1) := by decide +kernel
theorem dX7_obeys_119 : decode cX7_obeys 119 = .ok (.iconst 2, 1) := by decide +kernel
theorem dX7_obeys_120 : decode cX7_obeys 120 = .ok (.iadd, 1) := by decide +kernel
theorem dX7_obeys_121 : decode cX7_obeys 121 = .ok (.iconst 2, 1) := by decide +kernel
theorem dX7_obeys_122 : decode cX7_obeys 122 = .ok (.invokevirtual 105, 3) := by decide +kernel
theorem dX7_obeys_125 : decode cX7_obeys 125 = .ok (.invokevirtual 125, 3) := by decide +kernel
theorem dX7_obeys_128 : decode cX7_obeys 128 = .ok (.ireturn, 1) := by decide +kernel
theorem dX7_obeys_129 : decode cX7_obeys 129 = .ok (.aload_n 0, 1) := by decide +kernel
theorem dX7_obeys_130 : decode cX7_obeys 130 = .ok (.iload_n 3, 1) := by decide +kernel
theorem dX7_obeys_131 : decode cX7_obeys 131 = .ok (.iload 4, 2) := by decide +kernel
theorem dX7_obeys_133 : decode cX7_obeys 133 = .ok (.invokevirtual 128, 3) := by decide +kernel
theorem dX7_obeys_136 : decode cX7_obeys 136 = .ok (.ireturn, 1) := by decide +kernel
theorem dX7_obeysCome_0 : decode cX7_obeysCome 0 = .ok (.aload_n 0, 1) := by decide +kernel
theorem dX7_obeysCome_1 : decode cX7_obeysCome 1 = .ok (.invokevirtual 131, 3) := by decide +kernel
theorem dX7_obeysCome_4 : decode cX7_obeysCome 4 = .ok (.ifCond .eq 15, 3) := by decide +kernel
theorem dX7_obeysCome_7 : decode cX7_obeysCome 7 = .ok (.iload_n 1, 1) := by decide +kernel
theorem dX7_obeysCome_8 : decode cX7_obeysCome 8 = .ok (.bipush 7, 2) := by decide +kernel
theorem dX7_obeysCome_10 : decode cX7_obeysCome 10 = .ok (.if_icmp .gt 9, 3) := by decide +kernel
theorem dX7_obeysCome_13 : decode cX7_obeysCome 13 = .ok (.iload_n 3, 1) := by decide +kernel
theorem dX7_obeysCome_14 : decode cX7_obeysCome 14 = .ok (.bipush 20, 2) := by decide +kernel
theorem dX7_obeysCome_16 : decode cX7_obeysCome 16 = .ok (.if_icmp .le 5, 3) := by decide +kernel
theorem dX7_obeysCome_19 : decode cX7_obeysCome 19 = .ok (.iconst 0, 1) := by decide +kernel
theorem dX7_obeysCome_20 : decode cX7_obeysCome 20 = .ok (.ireturn, 1) := by decide +kernel
theorem dX7_obeysCome_21 : decode cX7_obeysCome 21 = .ok (.aload_n 0, 1) := by decide +kernel
theorem dX7_obeysCome_22 : decode cX7_obeysCome 22 = .ok (.iload_n 1, 1) := by decide +kernel
theorem dX7_obeysCome_23 : decode cX7_obeysCome 23 = .ok (.iload_n 2, 1) := by decide +kernel
theorem dX7_obeysCome_24 : decode cX7_obeysCome 24 = .ok (.invokestatic 134, 3) := by decide +kernel
theorem dX7_obeysCome_27 : decode cX7_obeysCome 27 = .ok (.iload_n 3, 1) := by decide +kernel
theorem dX7_obeysCome_28 : decode cX7_obeysCome 28 = .ok (.invokevirtual 138, 3) := by decide +kernel
theorem dX7_obeysCome_31 : decode cX7_obeysCome 31 = .ok (.iconst 1, 1) := by decide +kernel
theorem dX7_obeysCome_32 : decode cX7_obeysCome 32 = .ok (.ireturn, 1) := by decide +kernel
theorem dX7_obeysMinute_0 : decode cX7_obeysMinute 0 = .ok (.aload_n 0, 1) := by decide +kernel
theorem dX7_obeysMinute_1 : decode cX7_obeysMinute 1 = .ok (.iload_n 1, 1) := by decide +kernel
theorem dX7_obeysMinute_2 : decode cX7_obeysMinute 2 = .ok (.iload_n 2, 1) := by decide +kernel
theorem dX7_obeysMinute_3 : decode cX7_obeysMinute 3 = .ok (.invokevirtual 142, 3) := by decide +kernel
theorem dX7_obeysMinute_6 : decode cX7_obeysMinute 6 = .ok (.ifCond .eq 13, 3) := by decide +kernel
theorem dX7_obeysMinute_9 : decode cX7_obeysMinute 9 = .ok (.aload_n 0, 1) := by decide +kernel
theorem dX7_obeysMinute_10 : decode cX7_obeysMinute 10 = .ok (.getfield 32, 3) := by decide +kernel
theorem dX7_obeysMinute_13 : decode cX7_obeysMinute 13 = .ok (.sipush 999, 3) := by decide +kernel
theorem dX7_obeysMinute_16 : decode cX7_obeysMinute 16 = .ok (.if_icmp .lt 5, 3) := by decide +kernel
theorem dX7_obeysMinute_19 : decode cX7_obeysMinute 19 = .ok (.iconst 0, 1) := by decide +kernel
theorem dX7_obeysMinute_20 : decode cX7_obeysMinute 20 = .ok (.ireturn, 1) := by decide +kernel
theorem dX7_obeysMinute_21 : decode cX7_obeysMinute 21 = .ok (.aload_n 0, 1) := by decide +kernel
theorem dX7_obeysMinute_22 : decode cX7_obeysMinute 22 = .ok (.iload_n 1, 1) := by decide +kernel
theorem dX7_obeysMinute_23 : decode cX7_obeysMinute 23 = .ok (.iload_n 2, 1) := by decide +kernel
theorem dX7_obeysMinute_24 : decode cX7_obeysMinute 24 = .ok (.invokevirtual 101, 3) := by decide +kernel
theorem dX7_obeysMinute_27 : decode cX7_obeysMinute 27 = .ok (.pop, 1) := by decide +kernel
theorem dX7_obeysMinute_28 : decode cX7_obeysMinute 28 = .ok (.iconst 1, 1) := by decide +kernel
theorem dX7_obeysMinute_29 : decode cX7_obeysMinute 29 = .ok (.ireturn, 1) := by decide +kernel
theorem dX7_obeysChange_0 : decode cX7_obeysChange 0 = .ok (.aload_n 0, 1) := by decide +kernel
theorem dX7_obeysChange_1 : decode cX7_obeysChange 1 = .ok (.iload_n 1, 1) := by decide +kernel
theorem dX7_obeysChange_2 : decode cX7_obeysChange 2 = .ok (.iload_n 2, 1) := by decide +kernel
theorem dX7_obeysChange_3 : decode cX7_obeysChange 3 = .ok (.invokevirtual 145, 3) := by decide +kernel
theorem dX7_obeysChange_6 : decode cX7_obeysChange 6 = .ok (.ifCond .ne 5, 3) := by decide +kernel
theorem dX7_obeysChange_9 : decode cX7_obeysChange 9 = .ok (.iconst 0, 1) := by decide +kernel
theorem dX7_obeysChange_10 : decode cX7_obeysChange 10 = .ok (.ireturn, 1) := by decide +kernel
theorem dX7_obeysChange_11 : decode cX7_obeysChange 11 = .ok (.aload_n 0, 1) := by decide +kernel
theorem dX7_obeysChange_12 : decode cX7_obeysChange 12 = .ok (.iload_n 1, 1) := by decide +kernel
theorem dX7_obeysChange_13 : decode cX7_obeysChange 13 = .ok (.iload_n 2, 1) := by decide +kernel
theorem dX7_obeysChange_14 : decode cX7_obeysChange 14 = .ok (.invokevirtual 148, 3) := by decide +kernel
theorem dX7_obeysChange_17 : decode cX7_obeysChange 17 = .ok (.iconst 1, 1) := by decide +kernel
theorem dX7_obeysChange_18 : decode cX7_obeysChange 18 = .ok (.ireturn, 1) := by decide +kernel
theorem dX7_obeysTrust_0 : decode cX7_obeysTrust 0 = .ok (.aload_n 0, 1) := by decide +kernel
theorem dX7_obeysTrust_1 : decode cX7_obeysTrust 1 = .ok (.iload_n 1, 1) := by decide +kernel
theorem dX7_obeysTrust_2 : decode cX7_obeysTrust 2 = .ok (.invokevirtual 42, 3) := by decide +kernel
theorem dX7_obeysTrust_5 : decode cX7_obeysTrust 5 = .ok (.ifCond .eq 9, 3) := by decide +kernel
theorem dX7_obeysTrust_8 : decode cX7_obeysTrust 8 = .ok (.iload_n 2, 1) := by decide +kernel
theorem dX7_obeysTrust_9 : decode cX7_obeysTrust 9 = .ok (.bipush 20, 2) := by decide +kernel
theorem dX7_obeysTrust_11 : decode cX7_obeysTrust 11 = .ok (.if_icmp .le 5, 3) := by decide +kernel
theorem dX7_obeysTrust_14 : decode cX7_obeysTrust 14 = .ok (.iconst 0, 1) := by decide +kernel
theorem dX7_obeysTrust_15 : decode cX7_obeysTrust 15 = .ok (.ireturn, 1) := by decide +kernel
theorem dX7_obeysTrust_16 : decode cX7_obeysTrust 16 = .ok (.aload_n 0, 1) := by decide +kernel
theorem dX7_obeysTrust_17 : decode cX7_obeysTrust 17 = .ok (.getfield 11, 3) := by decide +kernel
theorem dX7_obeysTrust_20 : decode cX7_obeysTrust 20 = .ok (.iload_n 1, 1) := by decide +kernel
theorem dX7_obeysTrust_21 : decode cX7_obeysTrust 21 = .ok (.aaload, 1) := by decide +kernel
theorem dX7_obeysTrust_22 : decode cX7_obeysTrust 22 = .ok (.iload_n 2, 1) := by decide +kernel
theorem dX7_obeysTrust_23 : decode cX7_obeysTrust 23 = .ok (.putfield 54, 3) := by decide +kernel
theorem dX7_obeysTrust_26 : decode cX7_obeysTrust 26 = .ok (.iconst 1, 1) := by decide +kernel
theorem dX7_obeysTrust_27 : decode cX7_obeysTrust 27 = .ok (.ireturn, 1) := by decide +kernel
theorem dX7_obeysStep_0 : decode cX7_obeysStep 0 = .ok (.aload_n 0, 1) := by decide +kernel
theorem dX7_obeysStep_1 : decode cX7_obeysStep 1 = .ok (.iload_n 1, 1) := by decide +kernel
theorem dX7_obeysStep_2 : decode cX7_obeysStep 2 = .ok (.invokevirtual 42, 3) := by decide +kernel
theorem dX7_obeysStep_5 : decode cX7_obeysStep 5 = .ok (.ifCond .eq 9, 3) := by decide +kernel
theorem dX7_obeysStep_8 : decode cX7_obeysStep 8 = .ok (.iload_n 2, 1) := by decide +kernel
theorem dX7_obeysStep_9 : decode cX7_obeysStep 9 = .ok (.bipush 7, 2) := by decide +kernel
theorem dX7_obeysStep_11 : decode cX7_obeysStep 11 = .ok (.if_icmp .le 5, 3) := by decide +kernel
theorem dX7_obeysStep_14 : decode cX7_obeysStep 14 = .ok (.iconst 0, 1) := by decide +kernel
theorem dX7_obeysStep_15 : decode cX7_obeysStep 15 = .ok (.ireturn, 1) := by decide +kernel
theorem dX7_obeysStep_16 : decode cX7_obeysStep 16 = .ok (.aload_n 0, 1) := by decide +kernel
theorem dX7_obeysStep_17 : decode cX7_obeysStep 17 = .ok (.getfield 11, 3) := by decide +kernel
theorem dX7_obeysStep_20 : decode cX7_obeysStep 20 = .ok (.iload_n 1, 1) := by decide +kernel
theorem dX7_obeysStep_21 : decode cX7_obeysStep 21 = .ok (.aaload, 1) := by decide +kernel
theorem dX7_obeysStep_22 : decode cX7_obeysStep 22 = .ok (.iload_n 2, 1) := by decide +kernel
theorem dX7_obeysStep_23 : decode cX7_obeysStep 23 = .ok (.putfield 57, 3) := by decide +kernel
theorem dX7_obeysStep_26 : decode cX7_obeysStep 26 = .ok (.iconst 1, 1) := by decide +kernel
theorem dX7_obeysStep_27 : decode cX7_obeysStep 27 = .ok (.ireturn, 1) := by decide +kernel
theorem dX7_anyCanStep_0 : decode cX7_anyCanStep 0 = .ok (.iconst 0, 1) := by decide +kernel
theorem dX7_anyCanStep_1 : decode cX7_anyCanStep 1 = .ok (.istore_n 1, 1) := by decide +kernel
theorem dX7_anyCanStep_2 : decode cX7_anyCanStep 2 = .ok (.iload_n 1, 1) := by decide +kernel
theorem dX7_anyCanStep_3 : decode cX7_anyCanStep 3 = .ok (.aload_n 0, 1) := by decide +kernel
theorem dX7_anyCanStep_4 : decode cX7_anyCanStep 4 = .ok (.getfield 24, 3) := by decide +kernel
theorem dX7_anyCanStep_7 : decode cX7_anyCanStep 7 = .ok (.if_icmp .ge 35, 3) := by decide +kernel
theorem dX7_anyCanStep_10 : decode cX7_anyCanStep 10 = .ok (.aload_n 0, 1) := by decide +kernel
theorem dX7_anyCanStep_11 : decode cX7_anyCanStep 11 = .ok (.getfield 11, 3) := by decide +kernel
theorem dX7_anyCanStep_14 : decode cX7_anyCanStep 14 = .ok (.iload_n 1, 1) := by decide +kernel
theorem dX7_anyCanStep_15 : decode cX7_anyCanStep 15 = .ok (.aaload, 1) := by decide +kernel
theorem dX7_anyCanStep_16 : decode cX7_anyCanStep 16 = .ok (.invokevirtual 98, 3) := by decide +kernel
theorem dX7_anyCanStep_19 : decode cX7_anyCanStep 19 = .ok (.ifCond .ne 15, 3) := by decide +kernel
theorem dX7_anyCanStep_22 : decode cX7_anyCanStep 22 = .ok (.aload_n 0, 1) := by decide +kernel
theorem dX7_anyCanStep_23 : decode cX7_anyCanStep 23 = .ok (.getfield 11, 3) := by decide +kernel
theorem dX7_anyCanStep_26 : decode cX7_anyCanStep 26 = .ok (.iload_n 1, 1) := by decide +kernel
theorem dX7_anyCanStep_27 : decode cX7_anyCanStep 27 = .ok (.aaload, 1) := by decide +kernel
theorem dX7_anyCanStep_28 : decode cX7_anyCanStep 28 = .ok (.invokevirtual 151, 3) := by decide +kernel
theorem dX7_anyCanStep_31 : decode cX7_anyCanStep 31 = .ok (.ifCond .eq 5, 3) := by decide +kernel
theorem dX7_anyCanStep_34 : decode cX7_anyCanStep 34 = .ok (.iconst 1, 1) := by decide +kernel
theorem dX7_anyCanStep_35 : decode cX7_anyCanStep 35 = .ok (.ireturn, 1) := by decide +kernel
theorem dX7_anyCanStep_36 : decode cX7_anyCanStep 36 = .ok (.iinc 1 1, 3) := by decide +kernel
theorem dX7_anyCanStep_39 : decode cX7_anyCanStep 39 = .ok (.goto (-37), 3) := by decide +kernel
theorem dX7_anyCanStep_42 : decode cX7_anyCanStep 42 = .ok (.iconst 0, 1) := by decide +kernel
theorem dX7_anyCanStep_43 : decode cX7_anyCanStep 43 = .ok (.ireturn, 1) := by decide +kernel
theorem dX7_readyBits_0 : decode cX7_readyBits 0 = .ok (.iconst 0, 1) := by decide +kernel
theorem dX7_readyBits_1 : decode cX7_readyBits 1 = .ok (.istore_n 1, 1) := by decide +kernel
theorem dX7_readyBits_2 : decode cX7_readyBits 2 = .ok (.iconst 0, 1) := by decide +kernel
theorem dX7_readyBits_3 : decode cX7_readyBits 3 = .ok (.istore_n 2, 1) := by decide +kernel
theorem dX7_readyBits_4 : decode cX7_readyBits 4 = .ok (.iload_n 2, 1) := by decide +kernel
theorem dX7_readyBits_5 : decode cX7_readyBits 5 = .ok (.aload_n 0, 1) := by decide +kernel
theorem dX7_readyBits_6 : decode cX7_readyBits 6 = .ok (.getfield 24, 3) := by decide +kernel
theorem dX7_readyBits_9 : decode cX7_readyBits 9 = .ok (.if_icmp .ge 31, 3) := by decide +kernel
theorem dX7_readyBits_12 : decode cX7_readyBits 12 = .ok (.iload_n 1, 1) := by decide +kernel
theorem dX7_readyBits_13 : decode cX7_readyBits 13 = .ok (.aload_n 0, 1) := by decide +kernel
theorem dX7_readyBits_14 : decode cX7_readyBits 14 = .ok (.getfield 11, 3) := by decide +kernel
theorem dX7_readyBits_17 : decode cX7_readyBits 17 = .ok (.iload_n 2, 1) := by decide +kernel
theorem dX7_readyBits_18 : decode cX7_readyBits 18 = .ok (.aaload, 1) := by decide +kernel
theorem dX7_readyBits_19 : decode cX7_readyBits 19 = .ok (.invokevirtual 98, 3) := by decide +kernel
theorem dX7_readyBits_22 : decode cX7_readyBits 22 = .ok (.ifCond .eq 9, 3) := by decide +kernel
theorem dX7_readyBits_25 : decode cX7_readyBits 25 = .ok (.iconst 1, 1) := by decide +kernel
theorem dX7_readyBits_26 : decode cX7_readyBits 26 = .ok (.iload_n 2, 1) := by decide +kernel
theorem dX7_readyBits_27 : decode cX7_readyBits 27 = .ok (.ishl, 1) := by decide +kernel
theorem dX7_readyBits_28 : decode cX7_readyBits 28 = .ok (.goto 4, 3) := by decide +kernel
theorem dX7_readyBits_31 : decode cX7_readyBits 31 = .ok (.iconst 0, 1) := by decide +kernel
theorem dX7_readyBits_32 : decode cX7_readyBits 32 = .ok (.ior, 1) := by decide +kernel
theorem dX7_readyBits_33 : decode cX7_readyBits 33 = .ok (.istore_n 1, 1) := by decide +kernel
theorem dX7_readyBits_34 : decode cX7_readyBits 34 = .ok (.iinc 2 1, 3) := by decide +kernel
theorem dX7_readyBits_37 : decode cX7_readyBits 37 = .ok (.goto (-33), 3) := by decide +kernel
theorem dX7_readyBits_40 : decode cX7_readyBits 40 = .ok (.iload_n 1, 1) := by decide +kernel
theorem dX7_readyBits_41 : decode cX7_readyBits 41 = .ok (.ireturn, 1) := by decide +kernel
theorem dX7_swimBits_0 : decode cX7_swimBits 0 = .ok (.iconst 0, 1) := by decide +kernel
theorem dX7_swimBits_1 : decode cX7_swimBits 1 = .ok (.istore_n 1, 1) := by decide +kernel
theorem dX7_swimBits_2 : decode cX7_swimBits 2 = .ok (.iconst 0, 1) := by decide +kernel
theorem dX7_swimBits_3 : decode cX7_swimBits 3 = .ok (.istore_n 2, 1) := by decide +kernel
theorem dX7_swimBits_4 : decode cX7_swimBits 4 = .ok (.iload_n 2, 1) := by decide +kernel
theorem dX7_swimBits_5 : decode cX7_swimBits 5 = .ok (.aload_n 0, 1) := by decide +kernel
theorem dX7_swimBits_6 : decode cX7_swimBits 6 = .ok (.getfield 24, 3) := by decide +kernel
theorem dX7_swimBits_9 : decode cX7_swimBits 9 = .ok (.if_icmp .ge 31, 3) := by decide +kernel
theorem dX7_swimBits_12 : decode cX7_swimBits 12 = .ok (.iload_n 1, 1) := by decide +kernel
theorem dX7_swimBits_13 : decode cX7_swimBits 13 = .ok (.aload_n 0, 1) := by decide +kernel
theorem dX7_swimBits_14 : decode cX7_swimBits 14 = .ok (.getfield 11, 3) := by decide +kernel
theorem dX7_swimBits_17 : decode cX7_swimBits 17 = .ok (.iload_n 2, 1) := by decide +kernel
theorem dX7_swimBits_18 : decode cX7_swimBits 18 = .ok (.aaload, 1) := by decide +kernel
theorem dX7_swimBits_19 : decode cX7_swimBits 19 = .ok (.invokevirtual 46, 3) := by decide +kernel
theorem dX7_swimBits_22 : decode cX7_swimBits 22 = .ok (.ifCond .eq 9, 3) := by decide +kernel
theorem dX7_swimBits_25 : decode cX7_swimBits 25 = .ok (.iconst 1, 1) := by decide +kernel
theorem dX7_swimBits_26 : decode cX7_swimBits 26 = .ok (.iload_n 2, 1) := by decide +kernel
theorem dX7_swimBits_27 : decode cX7_swimBits 27 = .ok (.ishl, 1) := by decide +kernel
theorem dX7_swimBits_28 : decode cX7_swimBits 28 = .ok (.goto 4, 3) := by decide +kernel
theorem dX7_swimBits_31 : decode cX7_swimBits 31 = .ok (.iconst 0, 1) := by decide +kernel
theorem dX7_swimBits_32 : decode cX7_swimBits 32 = .ok (.ior, 1) := by decide +kernel
theorem dX7_swimBits_33 : decode cX7_swimBits 33 = .ok (.istore_n 1, 1) := by decide +kernel
theorem dX7_swimBits_34 : decode cX7_swimBits 34 = .ok (.iinc 2 1, 3) := by decide +kernel
theorem dX7_swimBits_37 : decode cX7_swimBits 37 = .ok (.goto (-33), 3) := by decide +kernel
theorem dX7_swimBits_40 : decode cX7_swimBits 40 = .ok (.iload_n 1, 1) := by decide +kernel
theorem dX7_swimBits_41 : decode cX7_swimBits 41 = .ok (.ireturn, 1) := by decide +kernel
theorem dX7_holdsOf_0 : decode cX7_holdsOf 0 = .ok (.iconst 0, 1) := by decide +kernel
theorem dX7_holdsOf_1 : decode cX7_holdsOf 1 = .ok (.istore_n 2, 1) := by decide +kernel
theorem dX7_holdsOf_2 : decode cX7_holdsOf 2 = .ok (.iconst 0, 1) := by decide +kernel
theorem dX7_holdsOf_3 : decode cX7_holdsOf 3 = .ok (.istore_n 3, 1) := by decide +kernel
theorem dX7_holdsOf_4 : decode cX7_holdsOf 4 = .ok (.iload_n 3, 1) := by decide +kernel
theorem dX7_holdsOf_5 : decode cX7_holdsOf 5 = .ok (.aload_n 0, 1) := by decide +kernel
theorem dX7_holdsOf_6 : decode cX7_holdsOf 6 = .ok (.getfield 24, 3) := by decide +kernel
theorem dX7_holdsOf_9 : decode cX7_holdsOf 9 = .ok (.if_icmp .ge 36, 3) := by decide +kernel
theorem dX7_holdsOf_12 : decode cX7_holdsOf 12 = .ok (.iload_n 2, 1) := by decide +kernel
theorem dX7_holdsOf_13 : decode cX7_holdsOf 13 = .ok (.iload_n 1, 1) := by decide +kernel
theorem dX7_holdsOf_14 : decode cX7_holdsOf 14 = .ok (.iconst 1, 1) := by decide +kernel
theorem dX7_holdsOf_15 : decode cX7_holdsOf 15 = .ok (.iload_n 3, 1) := by decide +kernel
theorem dX7_holdsOf_16 : decode cX7_holdsOf 16 = .ok (.ishl, 1) := by decide +kernel
theorem dX7_holdsOf_17 : decode cX7_holdsOf 17 = .ok (.iand, 1) := by decide +kernel
theorem dX7_holdsOf_18 : decode cX7_holdsOf 18 = .ok (.ifCond .eq 18, 3) := by decide +kernel
theorem dX7_holdsOf_21 : decode cX7_holdsOf 21 = .ok (.aload_n 0, 1) := by decide +kernel
theorem dX7_holdsOf_22 : decode cX7_holdsOf 22 = .ok (.getfield 11, 3) := by decide +kernel
theorem dX7_holdsOf_25 : decode cX7_holdsOf 25 = .ok (.iload_n 3, 1) := by decide +kernel
theorem dX7_holdsOf_26 : decode cX7_holdsOf 26 = .ok (.aaload, 1) := by decide +kernel
theorem dX7_holdsOf_27 : decode cX7_holdsOf 27 = .ok (.getfield 50, 3) := by decide +kernel
theorem dX7_holdsOf_30 : decode cX7_holdsOf 30 = .ok (.getfield 154, 3) := by decide +kernel
theorem dX7_holdsOf_33 : decode cX7_holdsOf 33 = .ok (.goto 4, 3) := by decide +kernel
theorem dX7_holdsOf_36 : decode cX7_holdsOf 36 = .ok (.iconst 0, 1) := by decide +kernel
theorem dX7_holdsOf_37 : decode cX7_holdsOf 37 = .ok (.iadd, 1) := by decide +kernel
theorem dX7_holdsOf_38 : decode cX7_holdsOf 38 = .ok (.istore_n 2, 1) := by decide +kernel
theorem dX7_holdsOf_39 : decode cX7_holdsOf 39 = .ok (.iinc 3 1, 3) := by decide +kernel
theorem dX7_holdsOf_42 : decode cX7_holdsOf 42 = .ok (.goto (-38), 3) := by decide +kernel
theorem dX7_holdsOf_45 : decode cX7_holdsOf 45 = .ok (.iload_n 2, 1) := by decide +kernel
theorem dX7_holdsOf_46 : decode cX7_holdsOf 46 = .ok (.ireturn, 1) := by decide +kernel
theorem dX7_allTrust_0 : decode cX7_allTrust 0 = .ok (.iconst 0, 1) := by decide +kernel
theorem dX7_allTrust_1 : decode cX7_allTrust 1 = .ok (.istore_n 1, 1) := by decide +kernel
theorem dX7_allTrust_2 : decode cX7_allTrust 2 = .ok (.iconst 0, 1) := by decide +kernel
theorem dX7_allTrust_3 : decode cX7_allTrust 3 = .ok (.istore_n 2, 1) := by decide +kernel
theorem dX7_allTrust_4 : decode cX7_allTrust 4 = .ok (.iload_n 2, 1) := by decide +kernel
theorem dX7_allTrust_5 : decode cX7_allTrust 5 = .ok (.aload_n 0, 1) := by decide +kernel
theorem dX7_allTrust_6 : decode cX7_allTrust 6 = .ok (.getfield 24, 3) := by decide +kernel
theorem dX7_allTrust_9 : decode cX7_allTrust 9 = .ok (.if_icmp .ge 21, 3) := by decide +kernel
theorem dX7_allTrust_12 : decode cX7_allTrust 12 = .ok (.iload_n 1, 1) := by decide +kernel
theorem dX7_allTrust_13 : decode cX7_allTrust 13 = .ok (.aload_n 0, 1) := by decide +kernel
theorem dX7_allTrust_14 : decode cX7_allTrust 14 = .ok (.getfield 11, 3) := by decide +kernel
theorem dX7_allTrust_17 : decode cX7_allTrust 17 = .ok (.iload_n 2, 1) := by decide +kernel
theorem dX7_allTrust_18 : decode cX7_allTrust 18 = .ok (.aaload, 1) := by decide +kernel
theorem dX7_allTrust_19 : decode cX7_allTrust 19 = .ok (.getfield 54, 3) := by decide +kernel
theorem dX7_allTrust_22 : decode cX7_allTrust 22 = .ok (.iadd, 1) := by decide +kernel
theorem dX7_allTrust_23 : decode cX7_allTrust 23 = .ok (.istore_n 1, 1) := by decide +kernel
theorem dX7_allTrust_24 : decode cX7_allTrust 24 = .ok (.iinc 2 1, 3) := by decide +kernel
theorem dX7_allTrust_27 : decode cX7_allTrust 27 = .ok (.goto (-23), 3) := by decide +kernel
theorem dX7_allTrust_30 : decode cX7_allTrust 30 = .ok (.iload_n 1, 1) := by decide +kernel
theorem dX7_allTrust_31 : decode cX7_allTrust 31 = .ok (.ireturn, 1) := by decide +kernel
theorem dX7_allSteps_0 : decode cX7_allSteps 0 = .ok (.iconst 0, 1) := by decide +kernel
theorem dX7_allSteps_1 : decode cX7_allSteps 1 = .ok (.istore_n 1, 1) := by decide +kernel
theorem dX7_allSteps_2 : decode cX7_allSteps 2 = .ok (.iconst 0, 1) := by decide +kernel
theorem dX7_allSteps_3 : decode cX7_allSteps 3 = .ok (.istore_n 2, 1) := by decide +kernel
theorem dX7_allSteps_4 : decode cX7_allSteps 4 = .ok (.iload_n 2, 1) := by decide +kernel
theorem dX7_allSteps_5 : decode cX7_allSteps 5 = .ok (.aload_n 0, 1) := by decide +kernel
theorem dX7_allSteps_6 : decode cX7_allSteps 6 = .ok (.getfield 24, 3) := by decide +kernel
theorem dX7_allSteps_9 : decode cX7_allSteps 9 = .ok (.if_icmp .ge 21, 3) := by decide +kernel
theorem dX7_allSteps_12 : decode cX7_allSteps 12 = .ok (.iload_n 1, 1) := by decide +kernel
theorem dX7_allSteps_13 : decode cX7_allSteps 13 = .ok (.aload_n 0, 1) := by decide +kernel
theorem dX7_allSteps_14 : decode cX7_allSteps 14 = .ok (.getfield 11, 3) := by decide +kernel
theorem dX7_allSteps_17 : decode cX7_allSteps 17 = .ok (.iload_n 2, 1) := by decide +kernel
theorem dX7_allSteps_18 : decode cX7_allSteps 18 = .ok (.aaload, 1) := by decide +kernel
theorem dX7_allSteps_19 : decode cX7_allSteps 19 = .ok (.getfield 57, 3) := by decide +kernel
theorem dX7_allSteps_22 : decode cX7_allSteps 22 = .ok (.iadd, 1) := by decide +kernel
theorem dX7_allSteps_23 : decode cX7_allSteps 23 = .ok (.istore_n 1, 1) := by decide +kernel
theorem dX7_allSteps_24 : decode cX7_allSteps 24 = .ok (.iinc 2 1, 3) := by decide +kernel
theorem dX7_allSteps_27 : decode cX7_allSteps 27 = .ok (.goto (-23), 3) := by decide +kernel
theorem dX7_allSteps_30 : decode cX7_allSteps 30 = .ok (.iload_n 1, 1) := by decide +kernel
theorem dX7_allSteps_31 : decode cX7_allSteps 31 = .ok (.ireturn, 1) := by decide +kernel
theorem dX7_allCold_0 : decode cX7_allCold 0 = .ok (.iconst 0, 1) := by decide +kernel
theorem dX7_allCold_1 : decode cX7_allCold 1 = .ok (.istore_n 1, 1) := by decide +kernel
theorem dX7_allCold_2 : decode cX7_allCold 2 = .ok (.iconst 0, 1) := by decide +kernel
theorem dX7_allCold_3 : decode cX7_allCold 3 = .ok (.istore_n 2, 1) := by decide +kernel
theorem dX7_allCold_4 : decode cX7_allCold 4 = .ok (.iload_n 2, 1) := by decide +kernel
theorem dX7_allCold_5 : decode cX7_allCold 5 = .ok (.aload_n 0, 1) := by decide +kernel
theorem dX7_allCold_6 : decode cX7_allCold 6 = .ok (.getfield 24, 3) := by decide +kernel
theorem dX7_allCold_9 : decode cX7_allCold 9 = .ok (.if_icmp .ge 21, 3) := by decide +kernel
theorem dX7_allCold_12 : decode cX7_allCold 12 = .ok (.iload_n 1, 1) := by decide +kernel
theorem dX7_allCold_13 : decode cX7_allCold 13 = .ok (.aload_n 0, 1) := by decide +kernel
theorem dX7_allCold_14 : decode cX7_allCold 14 = .ok (.getfield 11, 3) := by decide +kernel
theorem dX7_allCold_17 : decode cX7_allCold 17 = .ok (.iload_n 2, 1) := by decide +kernel
theorem dX7_allCold_18 : decode cX7_allCold 18 = .ok (.aaload, 1) := by decide +kernel
theorem dX7_allCold_19 : decode cX7_allCold 19 = .ok (.getfield 60, 3) := by decide +kernel
theorem dX7_allCold_22 : decode cX7_allCold 22 = .ok (.iadd, 1) := by decide +kernel
theorem dX7_allCold_23 : decode cX7_allCold 23 = .ok (.istore_n 1, 1) := by decide +kernel
theorem dX7_allCold_24 : decode cX7_allCold 24 = .ok (.iinc 2 1, 3) := by decide +kernel
theorem dX7_allCold_27 : decode cX7_allCold 27 = .ok (.goto (-23), 3) := by decide +kernel
theorem dX7_allCold_30 : decode cX7_allCold 30 = .ok (.iload_n 1, 1) := by decide +kernel
theorem dX7_allCold_31 : decode cX7_allCold 31 = .ok (.ireturn, 1) := by decide +kernel
theorem dX8_init_0 : decode cX8_init 0 = .ok (.aload_n 0, 1) := by decide +kernel
theorem dX8_init_1 : decode cX8_init 1 = .ok (.invokespecial 3, 3) := by decide +kernel
theorem dX8_init_4 : decode cX8_init 4 = .ok (.aload_n 0, 1) := by decide +kernel
theorem dX8_init_5 : decode cX8_init 5 = .ok (.iload_n 1, 1) := by decide +kernel
theorem dX8_init_6 : decode cX8_init 6 = .ok (.putfield 9, 3) := by decide +kernel
theorem dX8_init_9 : decode cX8_init 9 = .ok (.aload_n 0, 1) := by decide +kernel
theorem dX8_init_10 : decode cX8_init 10 = .ok (.iconst 0, 1) := by decide +kernel
theorem dX8_init_11 : decode cX8_init 11 = .ok (.iload_n 2, 1) := by decide +kernel
theorem dX8_init_12 : decode cX8_init 12 = .ok (.invokestatic 15, 3) := by decide +kernel
theorem dX8_init_15 : decode cX8_init 15 = .ok (.newarray .int, 2) := by decide +kernel
theorem dX8_init_17 : decode cX8_init 17 = .ok (.putfield 21, 3) := by decide +kernel
theorem dX8_init_20 : decode cX8_init 20 = .ok (.return_, 1) := by decide +kernel
theorem dX8_size_0 : decode cX8_size 0 = .ok (.aload_n 0, 1) := by decide +kernel
theorem dX8_size_1 : decode cX8_size 1 = .ok (.getfield 21, 3) := by decide +kernel
theorem dX8_size_4 : decode cX8_size 4 = .ok (.arraylength, 1) := by decide +kernel
theorem dX8_size_5 : decode cX8_size 5 = .ok (.ireturn, 1) := by decide +kernel
theorem dX8_has_0 : decode cX8_has 0 = .ok (.iload_n 1, 1) := by decide +kernel
theorem dX8_has_1 : decode cX8_has 1 = .ok (.iconst 0, 1) := by decide +kernel
theorem dX8_has_2 : decode cX8_has 2 = .ok (.aload_n 0, 1) := by decide +kernel
theorem dX8_has_3 : decode cX8_has 3 = .ok (.getfield 21, 3) := by decide +kernel
theorem dX8_has_6 : decode cX8_has 6 = .ok (.arraylength, 1) := by decide +kernel
theorem dX8_has_7 : decode cX8_has 7 = .ok (.iconst 1, 1) := by decide +kernel
theorem dX8_has_8 : decode cX8_has 8 = .ok (.isub, 1) := by decide +kernel
theorem dX8_has_9 : decode cX8_has 9 = .ok (.invokestatic 25, 3) := by decide +kernel
theorem dX8_has_12 : decode cX8_has 12 = .ok (.ireturn, 1) := by decide +kernel
theorem dX8_hasPart_0 : decode cX8_hasPart 0 = .ok (.iload_n 1, 1) := by decide +kernel
theorem dX8_hasPart_1 : decode cX8_hasPart 1 = .ok (.ifCond .lt 31, 3) := by decide +kernel
theorem dX8_hasPart_4 : decode cX8_hasPart 4 = .ok (.iload_n 2, 1) := by decide +kernel
theorem dX8_hasPart_5 : decode cX8_hasPart 5 = .ok (.ifCond .lt 27, 3) := by decide +kernel
theorem dX8_hasPart_8 : decode cX8_hasPart 8 = .ok (.iload_n 1, 1) := by decide +kernel
theorem dX8_hasPart_9 : decode cX8_hasPart 9 = .ok (.aload_n 0, 1) := by decide +kernel
theorem dX8_hasPart_10 : decode cX8_hasPart 10 = .ok (.getfield 21, 3) := by decide +kernel
theorem dX8_hasPart_13 : decode cX8_hasPart 13 = .ok (.arraylength, 1) := by decide +kernel
theorem dX8_hasPart_14 : decode cX8_hasPart 14 = .ok (.if_icmp .gt 18, 3) := by decide +kernel
theorem dX8_hasPart_17 : decode cX8_hasPart 17 = .ok (.iload_n 2, 1) := by decide +kernel
theorem dX8_hasPart_18 : decode cX8_hasPart 18 = .ok (.aload_n 0, 1) := by decide +kernel
theorem dX8_hasPart_19 : decode cX8_hasPart 19 = .ok (.getfield 21, 3) := by decide +kernel
theorem dX8_hasPart_22 : decode cX8_hasPart 22 = .ok (.arraylength, 1) := by decide +kernel
theorem dX8_hasPart_23 : decode cX8_hasPart 23 = .ok (.iload_n 1, 1) := by decide +kernel
theorem dX8_hasPart_24 : decode cX8_hasPart 24 = .ok (.isub, 1) := by decide +kernel
theorem dX8_hasPart_25 : decode cX8_hasPart 25 = .ok (.if_icmp .gt 7, 3) := by decide +kernel
theorem dX8_hasPart_28 : decode cX8_hasPart 28 = .ok (.iconst 1, 1) := by decide +kernel
theorem dX8_hasPart_29 : decode cX8_hasPart 29 = .ok (.goto 4, 3) := by decide +kernel
theorem dX8_hasPart_32 : decode cX8_hasPart 32 = .ok (.iconst 0, 1) := by decide +kernel
theorem dX8_hasPart_33 : decode cX8_hasPart 33 = .ok (.ireturn, 1) := by decide +kernel
theorem dX8_at_0 : decode cX8_at 0 = .ok (.aload_n 0, 1) := by decide +kernel
theorem dX8_at_1 : decode cX8_at 1 = .ok (.iload_n 1, 1) := by decide +kernel
theorem dX8_at_2 : decode cX8_at 2 = .ok (.invokevirtual 29, 3) := by decide +kernel
theorem dX8_at_5 : decode cX8_at 5 = .ok (.ifCond .eq 12, 3) := by decide +kernel
theorem dX8_at_8 : decode cX8_at 8 = .ok (.aload_n 0, 1) := by decide +kernel
theorem dX8_at_9 : decode cX8_at 9 = .ok (.getfield 21, 3) := by decide +kernel
theorem dX8_at_12 : decode cX8_at 12 = .ok (.iload_n 1, 1) := by decide +kernel
theorem dX8_at_13 : decode cX8_at 13 = .ok (.iaload, 1) := by decide +kernel
theorem dX8_at_14 : decode cX8_at 14 = .ok (.goto 4, 3) := by decide +kernel
theorem dX8_at_17 : decode cX8_at 17 = .ok (.iconst 0, 1) := by decide +kernel
theorem dX8_at_18 : decode cX8_at 18 = .ok (.ireturn, 1) := by decide +kernel
theorem dX8_set_0 : decode cX8_set 0 = .ok (.aload_n 0, 1) := by decide +kernel
theorem dX8_set_1 : decode cX8_set 1 = .ok (.iload_n 1, 1) := by decide +kernel
theorem dX8_set_2 : decode cX8_set 2 = .ok (.invokevirtual 29, 3) := by decide +kernel
theorem dX8_set_5 : decode cX8_set 5 = .ok (.ifCond .eq 35, 3) := by decide +kernel
theorem dX8_set_8 : decode cX8_set 8 = .ok (.aload_n 0, 1) := by decide +kernel
theorem dX8_set_9 : decode cX8_set 9 = .ok (.getfield 21, 3) := by decide +kernel
theorem dX8_set_12 : decode cX8_set 12 = .ok (.iload_n 1, 1) := by decide +kernel
theorem dX8_set_13 : decode cX8_set 13 = .ok (.aload_n 0, 1) := by decide +kernel
theorem dX8_set_14 : decode cX8_set 14 = .ok (.getfield 9, 3) := by decide +kernel
theorem dX8_set_17 : decode cX8_set 17 = .ok (.ifCond .ne 8, 3) := by decide +kernel
theorem dX8_set_20 : decode cX8_set 20 = .ok (.iload_n 2, 1) := by decide +kernel
theorem dX8_set_21 : decode cX8_set 21 = .ok (.i2b, 1) := by decide +kernel
theorem dX8_set_22 : decode cX8_set 22 = .ok (.goto 17, 3) := by decide +kernel
theorem dX8_set_25 : decode cX8_set 25 = .ok (.aload_n 0, 1) := by decide +kernel
theorem dX8_set_26 : decode cX8_set 26 = .ok (.getfield 9, 3) := by decide +kernel
theorem dX8_set_29 : decode cX8_set 29 = .ok (.iconst 1, 1) := by decide +kernel
theorem dX8_set_30 : decode cX8_set 30 = .ok (.if_icmp .ne 8, 3) := by decide +kernel
theorem dX8_set_33 : decode cX8_set 33 = .ok (.iload_n 2, 1) := by decide +kernel
theorem dX8_set_34 : decode cX8_set 34 = .ok (.i2s, 1) := by decide +kernel
theorem dX8_set_35 : decode cX8_set 35 = .ok (.goto 4, 3) := by decide +kernel
theorem dX8_set_38 : decode cX8_set 38 = .ok (.iload_n 2, 1) := by decide +kernel
theorem dX8_set_39 : decode cX8_set 39 = .ok (.iastore, 1) := by decide +kernel
theorem dX8_set_40 : decode cX8_set 40 = .ok (.return_, 1) := by decide +kernel
theorem dX8_least_0 : decode cX8_least 0 = .ok (.aload_n 0, 1) := by decide +kernel
theorem dX8_least_1 : decode cX8_least 1 = .ok (.getfield 9, 3) := by decide +kernel
theorem dX8_least_4 : decode cX8_least 4 = .ok (.ifCond .ne 8, 3) := by decide +kernel
theorem dX8_least_7 : decode cX8_least 7 = .ok (.bipush (-128), 2) := by decide +kernel
theorem dX8_least_9 : decode cX8_least 9 = .ok (.goto 19, 3) := by decide +kernel
theorem dX8_least_12 : decode cX8_least 12 = .ok (.aload_n 0, 1) := by decide +kernel
theorem dX8_least_13 : decode cX8_least 13 = .ok (.getfield 9, 3) := by decide +kernel
theorem dX8_least_16 : decode cX8_least 16 = .ok (.iconst 1, 1) := by decide +kernel
theorem dX8_least_17 : decode cX8_least 17 = .ok (.if_icmp .ne 9, 3) := by decide +kernel
theorem dX8_least_20 : decode cX8_least 20 = .ok (.sipush (-32768), 3) := by decide +kernel
theorem dX8_least_23 : decode cX8_least 23 = .ok (.goto 5, 3) := by decide +kernel
theorem dX8_least_26 : decode cX8_least 26 = .ok (.ldc 33, 2) := by decide +kernel
theorem dX8_least_28 : decode cX8_least 28 = .ok (.ireturn, 1) := by decide +kernel
theorem dX8_digitsBehind_0 : decode cX8_digitsBehind 0 = .ok (.iload_n 0, 1) := by decide +kernel
theorem dX8_digitsBehind_1 : decode cX8_digitsBehind 1 = .ok (.lookupswitch 67 #[(98, 65), (99, 59), (109, 63), (115, 63), (116, 61), (120, 63)], 59) := by decide +kernel
theorem dX8_digitsBehind_60 : decode cX8_digitsBehind 60 = .ok (.iconst 4, 1) := by decide +kernel
theorem dX8_digitsBehind_61 : decode cX8_digitsBehind 61 = .ok (.ireturn, 1) := by decide +kernel
theorem dX8_digitsBehind_62 : decode cX8_digitsBehind 62 = .ok (.iconst 3, 1) := by decide +kernel
theorem dX8_digitsBehind_63 : decode cX8_digitsBehind 63 = .ok (.ireturn, 1) := by decide +kernel
theorem dX8_digitsBehind_64 : decode cX8_digitsBehind 64 = .ok (.iconst 2, 1) := by decide +kernel
theorem dX8_digitsBehind_65 : decode cX8_digitsBehind 65 = .ok (.ireturn, 1) := by decide +kernel
theorem dX8_digitsBehind_66 : decode cX8_digitsBehind 66 = .ok (.iconst 1, 1) := by decide +kernel
theorem dX8_digitsBehind_67 : decode cX8_digitsBehind 67 = .ok (.ireturn, 1) := by decide +kernel
theorem dX8_digitsBehind_68 : decode cX8_digitsBehind 68 = .ok (.iconst (-1), 1) := by decide +kernel
theorem dX8_digitsBehind_69 : decode cX8_digitsBehind 69 = .ok (.ireturn, 1) := by decide +kernel
theorem dX8_misshapenAt_0 : decode cX8_misshapenAt 0 = .ok (.iconst (-1), 1) := by decide +kernel
theorem dX8_misshapenAt_1 : decode cX8_misshapenAt 1 = .ok (.istore_n 1, 1) := by decide +kernel
theorem dX8_misshapenAt_2 : decode cX8_misshapenAt 2 = .ok (.iconst 0, 1) := by decide +kernel
theorem dX8_misshapenAt_3 : decode cX8_misshapenAt 3 = .ok (.istore_n 2, 1) := by decide +kernel
theorem dX8_misshapenAt_4 : decode cX8_misshapenAt 4 = .ok (.iload_n 2, 1) := by decide +kernel
theorem dX8_misshapenAt_5 : decode cX8_misshapenAt 5 = .ok (.aload_n 0, 1) := by decide +kernel
theorem dX8_misshapenAt_6 : decode cX8_misshapenAt 6 = .ok (.getfield 21, 3) := by decide +kernel
theorem dX8_misshapenAt_9 : decode cX8_misshapenAt 9 = .ok (.arraylength, 1) := by decide +kernel
theorem dX8_misshapenAt_10 : decode cX8_misshapenAt 10 = .ok (.if_icmp .ge 66, 3) := by decide +kernel
theorem dX8_misshapenAt_13 : decode cX8_misshapenAt 13 = .ok (.aload_n 0, 1) := by decide +kernel
theorem dX8_misshapenAt_14 : decode cX8_misshapenAt 14 = .ok (.getfield 21, 3) := by decide +kernel
theorem dX8_misshapenAt_17 : decode cX8_misshapenAt 17 = .ok (.iload_n 2, 1) := by decide +kernel
theorem dX8_misshapenAt_18 : decode cX8_misshapenAt 18 = .ok (.iaload, 1) := by decide +kernel
theorem dX8_misshapenAt_19 : decode cX8_misshapenAt 19 = .ok (.istore_n 3, 1) := by decide +kernel
theorem dX8_misshapenAt_20 : decode cX8_misshapenAt 20 = .ok (.iload_n 1, 1) := by decide +kernel
theorem dX8_misshapenAt_21 : decode cX8_misshapenAt 21 = .ok (.iconst (-1), 1) := by decide +kernel
theorem dX8_misshapenAt_22 : decode cX8_misshapenAt 22 = .ok (.if_icmp .ne 15, 3) := by decide +kernel
theorem dX8_misshapenAt_25 : decode cX8_misshapenAt 25 = .ok (.iload_n 3, 1) := by decide +kernel
theorem dX8_misshapenAt_26 : decode cX8_misshapenAt 26 = .ok (.invokestatic 34, 3) := by decide +kernel
theorem dX8_misshapenAt_29 : decode cX8_misshapenAt 29 = .ok (.istore_n 1, 1) := by decide +kernel
theorem dX8_misshapenAt_30 : decode cX8_misshapenAt 30 = .ok (.iload_n 1, 1) := by decide +kernel
theorem dX8_misshapenAt_31 : decode cX8_misshapenAt 31 = .ok (.iconst (-1), 1) := by decide +kernel
theorem dX8_misshapenAt_32 : decode cX8_misshapenAt 32 = .ok (.if_icmp .ne 38, 3) := by decide +kernel
theorem dX8_misshapenAt_35 : decode cX8_misshapenAt 35 = .ok (.iload_n 2, 1) := by decide +kernel
theorem dX8_misshapenAt_36 : decode cX8_misshapenAt 36 = .ok (.ireturn, 1) := by decide +kernel
theorem dX8_misshapenAt_37 : decode cX8_misshapenAt 37 = .ok (.iload_n 1, 1) := by decide +kernel
theorem dX8_misshapenAt_38 : decode cX8_misshapenAt 38 = .ok (.ifCond .le 22, 3) := by decide +kernel
theorem dX8_misshapenAt_41 : decode cX8_misshapenAt 41 = .ok (.iload_n 3, 1) := by decide +kernel
theorem dX8_misshapenAt_42 : decode cX8_misshapenAt 42 = .ok (.bipush 48, 2) := by decide +kernel
theorem dX8_misshapenAt_44 : decode cX8_misshapenAt 44 = .ok (.bipush 57, 2) := by decide +kernel
theorem dX8_misshapenAt_46 : decode cX8_misshapenAt 46 = .ok (.invokestatic 25, 3) := by decide +kernel
theorem dX8_misshapenAt_49 : decode cX8_misshapenAt 49 = .ok (.ifCond .ne 5, 3) := by decide +kernel
theorem dX8_misshapenAt_52 : decode cX8_misshapenAt 52 = .ok (.iload_n 2, 1) := by decide +kernel
theorem dX8_misshapenAt_53 : decode cX8_misshapenAt 53 = .ok (.ireturn, 1) := by decide +kernel
theorem dX8_misshapenAt_54 : decode cX8_misshapenAt 54 = .ok (.iinc 1 (-1), 3) := by decide +kernel
theorem dX8_misshapenAt_57 : decode cX8_misshapenAt 57 = .ok (.goto 13, 3) := by decide +kernel
theorem dX8_misshapenAt_60 : decode cX8_misshapenAt 60 = .ok (.iload_n 3, 1) := by decide +kernel
theorem dX8_misshapenAt_61 : decode cX8_misshapenAt 61 = .ok (.bipush 59, 2) := by decide +kernel
theorem dX8_misshapenAt_63 : decode cX8_misshapenAt 63 = .ok (.if_icmp .eq 5, 3) := by decide +kernel
theorem dX8_misshapenAt_66 : decode cX8_misshapenAt 66 = .ok (.iload_n 2, 1) := by decide +kernel
theorem dX8_misshapenAt_67 : decode cX8_misshapenAt 67 = .ok (.ireturn, 1) := by decide +kernel
theorem dX8_misshapenAt_68 : decode cX8_misshapenAt 68 = .ok (.iconst (-1), 1) := by decide +kernel
theorem dX8_misshapenAt_69 : decode cX8_misshapenAt 69 = .ok (.istore_n 1, 1) := by decide +kernel
theorem dX8_misshapenAt_70 : decode cX8_misshapenAt 70 = .ok (.iinc 2 1, 3) := by decide +kernel
theorem dX8_misshapenAt_73 : decode cX8_misshapenAt 73 = .ok (.goto (-69), 3) := by decide +kernel
theorem dX8_misshapenAt_76 : decode cX8_misshapenAt 76 = .ok (.iload_n 1, 1) := by decide +kernel
theorem dX8_misshapenAt_77 : decode cX8_misshapenAt 77 = .ok (.iconst (-1), 1) := by decide +kernel
theorem dX8_misshapenAt_78 : decode cX8_misshapenAt 78 = .ok (.if_icmp .ne 15, 3) := by decide +kernel
theorem dX8_misshapenAt_81 : decode cX8_misshapenAt 81 = .ok (.aload_n 0, 1) := by decide +kernel
theorem dX8_misshapenAt_82 : decode cX8_misshapenAt 82 = .ok (.getfield 21, 3) := by decide +kernel
theorem dX8_misshapenAt_85 : decode cX8_misshapenAt 85 = .ok (.arraylength, 1) := by decide +kernel
theorem dX8_misshapenAt_86 : decode cX8_misshapenAt 86 = .ok (.ifCond .le 7, 3) := by decide +kernel
theorem dX8_misshapenAt_89 : decode cX8_misshapenAt 89 = .ok (.iconst (-1), 1) := by decide +kernel
theorem dX8_misshapenAt_90 : decode cX8_misshapenAt 90 = .ok (.goto 8, 3) := by decide +kernel
theorem dX8_misshapenAt_93 : decode cX8_misshapenAt 93 = .ok (.aload_n 0, 1) := by decide +kernel
theorem dX8_misshapenAt_94 : decode cX8_misshapenAt 94 = .ok (.getfield 21, 3) := by decide +kernel
theorem dX8_misshapenAt_97 : decode cX8_misshapenAt 97 = .ok (.arraylength, 1) := by decide +kernel
theorem dX8_misshapenAt_98 : decode cX8_misshapenAt 98 = .ok (.ireturn, 1) := by decide +kernel
theorem dX8_number_0 : decode cX8_number 0 = .ok (.iconst 0, 1) := by decide +kernel
theorem dX8_number_1 : decode cX8_number 1 = .ok (.istore_n 3, 1) := by decide +kernel
theorem dX8_number_2 : decode cX8_number 2 = .ok (.iconst 0, 1) := by decide +kernel
theorem dX8_number_3 : decode cX8_number 3 = .ok (.istore 4, 2) := by decide +kernel
theorem dX8_number_5 : decode cX8_number 5 = .ok (.iload 4, 2) := by decide +kernel
theorem dX8_number_7 : decode cX8_number 7 = .ok (.iload_n 2, 1) := by decide +kernel
theorem dX8_number_8 : decode cX8_number 8 = .ok (.if_icmp .ge 26, 3) := by decide +kernel
theorem dX8_number_11 : decode cX8_number 11 = .ok (.iload_n 3, 1) := by decide +kernel
theorem dX8_number_12 : decode cX8_number 12 = .ok (.bipush 10, 2) := by decide +kernel
theorem dX8_number_14 : decode cX8_number 14 = .ok (.imul, 1) := by decide +kernel
theorem dX8_number_15 : decode cX8_number 15 = .ok (.aload_n 0, 1) := by decide +kernel
theorem dX8_number_16 : decode cX8_number 16 = .ok (.iload_n 1, 1) := by decide +kernel
theorem dX8_number_17 : decode cX8_number 17 = .ok (.iload 4, 2) := by decide +kernel
theorem dX8_number_19 : decode cX8_number 19 = .ok (.iadd, 1) := by decide +kernel
theorem dX8_number_20 : decode cX8_number 20 = .ok (.invokevirtual 38, 3) := by decide +kernel
theorem dX8_number_23 : decode cX8_number 23 = .ok (.iadd, 1) := by decide +kernel
theorem dX8_number_24 : decode cX8_number 24 = .ok (.bipush 48, 2) := by decide +kernel
theorem dX8_number_26 : decode cX8_number 26 = .ok (.isub, 1) := by decide +kernel
theorem dX8_number_27 : decode cX8_number 27 = .ok (.istore_n 3, 1) := by decide +kernel
theorem dX8_number_28 : decode cX8_number 28 = .ok (.iinc 4 1, 3) := by decide +kernel
theorem dX8_number_31 : decode cX8_number 31 = .ok (.goto (-26), 3) := by decide +kernel
theorem dX8_number_34 : decode cX8_number 34 = .ok (.iload_n 3, 1) := by decide +kernel
theorem dX8_number_35 : decode cX8_number 35 = .ok (.ireturn, 1) := by decide +kernel
theorem dX9_init_0 : decode cX9_init 0 = .ok (.aload_n 0, 1) := by decide +kernel
theorem dX9_init_1 : decode cX9_init 1 = .ok (.iload_n 1, 1) := by decide +kernel
theorem dX9_init_2 : decode cX9_init 2 = .ok (.invokespecial 3, 3) := by decide +kernel
theorem dX9_init_5 : decode cX9_init 5 = .ok (.aload_n 0, 1) := by decide +kernel
theorem dX9_init_6 : decode cX9_init 6 = .ok (.iconst 2, 1) := by decide +kernel
theorem dX9_init_7 : decode cX9_init 7 = .ok (.putfield 9, 3) := by decide +kernel
theorem dX9_init_10 : decode cX9_init 10 = .ok (.aload_n 0, 1) := by decide +kernel
theorem dX9_init_11 : decode cX9_init 11 = .ok (.dup, 1) := by decide +kernel
theorem dX9_init_12 : decode cX9_init 12 = .ok (.getfield 15, 3) := by decide +kernel
theorem dX9_init_15 : decode cX9_init 15 = .ok (.iconst 1, 1) := by decide +kernel
theorem dX9_init_16 : decode cX9_init 16 = .ok (.iadd, 1) := by decide +kernel
theorem dX9_init_17 : decode cX9_init 17 = .ok (.putfield 15, 3) := by decide +kernel
theorem dX9_init_20 : decode cX9_init 20 = .ok (.aload_n 0, 1) := by decide +kernel
theorem dX9_init_21 : decode cX9_init 21 = .ok (.dup, 1) := by decide +kernel
theorem dX9_init_22 : decode cX9_init 22 = .ok (.getfield 18, 3) := by decide +kernel
theorem dX9_init_25 : decode cX9_init 25 = .ok (.iload_n 1, 1) := by decide +kernel
theorem dX9_init_26 : decode cX9_init 26 = .ok (.iconst 2, 1) := by decide +kernel
theorem dX9_init_27 : decode cX9_init 27 = .ok (.idiv, 1) := by decide +kernel
theorem dX9_init_28 : decode cX9_init 28 = .ok (.iadd, 1) := by decide +kernel
theorem dX9_init_29 : decode cX9_init 29 = .ok (.putfield 18, 3) := by decide +kernel
theorem dX9_init_32 : decode cX9_init 32 = .ok (.aload_n 0, 1) := by decide +kernel
theorem dX9_init_33 : decode cX9_init 33 = .ok (.dup, 1) := by decide +kernel
theorem dX9_init_34 : decode cX9_init 34 = .ok (.getfield 21, 3) := by decide +kernel
theorem dX9_init_37 : decode cX9_init 37 = .ok (.iconst 1, 1) := by decide +kernel
theorem dX9_init_38 : decode cX9_init 38 = .ok (.isub, 1) := by decide +kernel
theorem dX9_init_39 : decode cX9_init 39 = .ok (.putfield 21, 3) := by decide +kernel
theorem dX9_init_42 : decode cX9_init 42 = .ok (.aload_n 0, 1) := by decide +kernel
theorem dX9_init_43 : decode cX9_init 43 = .ok (.iconst 0, 1) := by decide +kernel
theorem dX9_init_44 : decode cX9_init 44 = .ok (.putfield 24, 3) := by decide +kernel
theorem dX9_init_47 : decode cX9_init 47 = .ok (.aload_n 0, 1) := by decide +kernel
theorem dX9_init_48 : decode cX9_init 48 = .ok (.dup, 1) := by decide +kernel
theorem dX9_init_49 : decode cX9_init 49 = .ok (.getfield 27, 3) := by decide +kernel
theorem dX9_init_52 : decode cX9_init 52 = .ok (.iconst 2, 1) := by decide +kernel
theorem dX9_init_53 : decode cX9_init 53 = .ok (.isub, 1) := by decide +kernel
theorem dX9_init_54 : decode cX9_init 54 = .ok (.putfield 27, 3) := by decide +kernel
theorem dX9_init_57 : decode cX9_init 57 = .ok (.iconst 0, 1) := by decide +kernel
theorem dX9_init_58 : decode cX9_init 58 = .ok (.istore_n 2, 1) := by decide +kernel
theorem dX9_init_59 : decode cX9_init 59 = .ok (.iload_n 2, 1) := by decide +kernel
theorem dX9_init_60 : decode cX9_init 60 = .ok (.bipush 7, 2) := by decide +kernel
theorem dX9_init_62 : decode cX9_init 62 = .ok (.if_icmp .ge 19, 3) := by decide +kernel
theorem dX9_init_65 : decode cX9_init 65 = .ok (.aload_n 0, 1) := by decide +kernel
theorem dX9_init_66 : decode cX9_init 66 = .ok (.getfield 30, 3) := by decide +kernel
theorem dX9_init_69 : decode cX9_init 69 = .ok (.iload_n 2, 1) := by decide +kernel
theorem dX9_init_70 : decode cX9_init 70 = .ok (.dup2, 1) := by decide +kernel
theorem dX9_init_71 : decode cX9_init 71 = .ok (.iaload, 1) := by decide +kernel
theorem dX9_init_72 : decode cX9_init 72 = .ok (.iconst 2, 1) := by decide +kernel
theorem dX9_init_73 : decode cX9_init 73 = .ok (.imul, 1) := by decide +kernel
theorem dX9_init_74 : decode cX9_init 74 = .ok (.iastore, 1) := by decide +kernel
theorem dX9_init_75 : decode cX9_init 75 = .ok (.iinc 2 1, 3) := by decide +kernel
theorem dX9_init_78 : decode cX9_init 78 = .ok (.goto (-19), 3) := by decide +kernel
theorem dX9_init_81 : decode cX9_init 81 = .ok (.return_, 1) := by decide +kernel
theorem dX9_fail_0 : decode cX9_fail 0 = .ok (.return_, 1) := by decide +kernel
theorem dX10_init_0 : decode cX10_init 0 = .ok (.aload_n 0, 1) := by decide +kernel
theorem dX10_init_1 : decode cX10_init 1 = .ok (.iload_n 1, 1) := by decide +kernel
theorem dX10_init_2 : decode cX10_init 2 = .ok (.invokespecial 3, 3) := by decide +kernel
theorem dX10_init_5 : decode cX10_init 5 = .ok (.aload_n 0, 1) := by decide +kernel
theorem dX10_init_6 : decode cX10_init 6 = .ok (.iconst 3, 1) := by decide +kernel
theorem dX10_init_7 : decode cX10_init 7 = .ok (.putfield 9, 3) := by decide +kernel
theorem dX10_init_10 : decode cX10_init 10 = .ok (.aload_n 0, 1) := by decide +kernel
theorem dX10_init_11 : decode cX10_init 11 = .ok (.iconst 3, 1) := by decide +kernel
theorem dX10_init_12 : decode cX10_init 12 = .ok (.putfield 15, 3) := by decide +kernel
theorem dX10_init_15 : decode cX10_init 15 = .ok (.aload_n 0, 1) := by decide +kernel
theorem dX10_init_16 : decode cX10_init 16 = .ok (.dup, 1) := by decide +kernel
theorem dX10_init_17 : decode cX10_init 17 = .ok (.getfield 18, 3) := by decide +kernel
theorem dX10_init_20 : decode cX10_init 20 = .ok (.iconst 2, 1) := by decide +kernel
theorem dX10_init_21 : decode cX10_init 21 = .ok (.imul, 1) := by decide +kernel
theorem dX10_init_22 : decode cX10_init 22 = .ok (.putfield 18, 3) := by decide +kernel
theorem dX10_init_25 : decode cX10_init 25 = .ok (.iconst 0, 1) := by decide +kernel
theorem dX10_init_26 : decode cX10_init 26 = .ok (.istore_n 2, 1) := by decide +kernel
theorem dX10_init_27 : decode cX10_init 27 = .ok (.iload_n 2, 1) := by decide +kernel
theorem dX10_init_28 : decode cX10_init 28 = .ok (.bipush 7, 2) := by decide +kernel
theorem dX10_init_30 : decode cX10_init 30 = .ok (.if_icmp .ge 21, 3) := by decide +kernel
theorem dX10_init_33 : decode cX10_init 33 = .ok (.aload_n 0, 1) := by decide +kernel
theorem dX10_init_34 : decode cX10_init 34 = .ok (.getfield 21, 3) := by decide +kernel
theorem dX10_init_37 : decode cX10_init 37 = .ok (.iload_n 2, 1) := by decide +kernel
theorem dX10_init_38 : decode cX10_init 38 = .ok (.dup2, 1) := by decide +kernel
theorem dX10_init_39 : decode cX10_init 39 = .ok (.iaload, 1) := by decide +kernel
theorem dX10_init_40 : decode cX10_init 40 = .ok (.iload_n 1, 1) := by decide +kernel
theorem dX10_init_41 : decode cX10_init 41 = .ok (.iconst 4, 1) := by decide +kernel
theorem dX10_init_42 : decode cX10_init 42 = .ok (.idiv, 1) := by decide +kernel
theorem dX10_init_43 : decode cX10_init 43 = .ok (.iadd, 1) := by decide +kernel
theorem dX10_init_44 : decode cX10_init 44 = .ok (.iastore, 1) := by decide +kernel
theorem dX10_init_45 : decode cX10_init 45 = .ok (.iinc 2 1, 3) := by decide +kernel
theorem dX10_init_48 : decode cX10_init 48 = .ok (.goto (-21), 3) := by decide +kernel
theorem dX10_init_51 : decode cX10_init 51 = .ok (.return_, 1) := by decide +kernel
theorem dX10_fail_0 : decode cX10_fail 0 = .ok (.return_, 1) := by decide +kernel
theorem dX11_init_0 : decode cX11_init 0 = .ok (.aload_n 0, 1) := by decide +kernel
theorem dX11_init_1 : decode cX11_init 1 = .ok (.invokespecial 3, 3) := by decide +kernel
theorem dX11_init_4 : decode cX11_init 4 = .ok (.aload_n 0, 1) := by decide +kernel
theorem dX11_init_5 : decode cX11_init 5 = .ok (.iconst 3, 1) := by decide +kernel
