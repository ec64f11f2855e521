theorem dX12_readStatement_0 : decode cX12_readStatement 0 = .ok (.aload_n 0, 1) := by decide +kernel
theorem dX12_readStatement_1 : decode cX12_readStatement 1 = .ok (.getfield 159, 3) := by decide +kernel
theorem dX12_readStatement_4 : decode cX12_readStatement 4 = .ok (.istore_n 1, 1) := by decide +kernel
theorem dX12_readStatement_5 : decode cX12_readStatement 5 = .ok (.aload_n 0, 1) := by decide +kernel
theorem dX12_readStatement_6 : decode cX12_readStatement 6 = .ok (.invokevirtual 148, 3) := by decide +kernel
theorem dX12_readStatement_9 : decode cX12_readStatement 9 = .ok (.istore_n 2, 1) := by decide +kernel
theorem dX12_readStatement_10 : decode cX12_readStatement 10 = .ok (.aload_n 0, 1) := by decide +kernel
theorem dX12_readStatement_11 : decode cX12_readStatement 11 = .ok (.getfield 44, 3) := by decide +kernel
theorem dX12_readStatement_14 : decode cX12_readStatement 14 = .ok (.iload_n 1, 1) := by decide +kernel
theorem dX12_readStatement_15 : decode cX12_readStatement 15 = .ok (.aload_n 0, 1) := by decide +kernel
theorem dX12_readStatement_16 : decode cX12_readStatement 16 = .ok (.getfield 138, 3) := by decide +kernel
theorem dX12_readStatement_19 : decode cX12_readStatement 19 = .ok (.iastore, 1) := by decide +kernel
theorem dX12_readStatement_20 : decode cX12_readStatement 20 = .ok (.aload_n 0, 1) := by decide +kernel
theorem dX12_readStatement_21 : decode cX12_readStatement 21 = .ok (.getfield 47, 3) := by decide +kernel
theorem dX12_readStatement_24 : decode cX12_readStatement 24 = .ok (.iload_n 1, 1) := by decide +kernel
theorem dX12_readStatement_25 : decode cX12_readStatement 25 = .ok (.iload_n 2, 1) := by decide +kernel
theorem dX12_readStatement_26 : decode cX12_readStatement 26 = .ok (.iastore, 1) := by decide +kernel
theorem dX12_readStatement_27 : decode cX12_readStatement 27 = .ok (.aload_n 0, 1) := by decide +kernel
theorem dX12_readStatement_28 : decode cX12_readStatement 28 = .ok (.aload_n 0, 1) := by decide +kernel
theorem dX12_readStatement_29 : decode cX12_readStatement 29 = .ok (.getfield 144, 3) := by decide +kernel
theorem dX12_readStatement_32 : decode cX12_readStatement 32 = .ok (.ifCond .ne 10, 3) := by decide +kernel
theorem dX12_readStatement_35 : decode cX12_readStatement 35 = .ok (.iload_n 2, 1) := by decide +kernel
theorem dX12_readStatement_36 : decode cX12_readStatement 36 = .ok (.invokestatic 162, 3) := by decide +kernel
theorem dX12_readStatement_39 : decode cX12_readStatement 39 = .ok (.ifCond .ne 7, 3) := by decide +kernel
theorem dX12_readStatement_42 : decode cX12_readStatement 42 = .ok (.iconst 1, 1) := by decide +kernel
theorem dX12_readStatement_43 : decode cX12_readStatement 43 = .ok (.goto 4, 3) := by decide +kernel
theorem dX12_readStatement_46 : decode cX12_readStatement 46 = .ok (.iconst 0, 1) := by decide +kernel
theorem dX12_readStatement_47 : decode cX12_readStatement 47 = .ok (.putfield 144, 3) := by decide +kernel
theorem dX12_readStatement_50 : decode cX12_readStatement 50 = .ok (.aload_n 0, 1) := by decide +kernel
theorem dX12_readStatement_51 : decode cX12_readStatement 51 = .ok (.dup, 1) := by decide +kernel
theorem dX12_readStatement_52 : decode cX12_readStatement 52 = .ok (.getfield 138, 3) := by decide +kernel
theorem dX12_readStatement_55 : decode cX12_readStatement 55 = .ok (.aload_n 0, 1) := by decide +kernel
theorem dX12_readStatement_56 : decode cX12_readStatement 56 = .ok (.getfield 144, 3) := by decide +kernel
theorem dX12_readStatement_59 : decode cX12_readStatement 59 = .ok (.ifCond .eq 7, 3) := by decide +kernel
theorem dX12_readStatement_62 : decode cX12_readStatement 62 = .ok (.iconst 0, 1) := by decide +kernel
theorem dX12_readStatement_63 : decode cX12_readStatement 63 = .ok (.goto 4, 3) := by decide +kernel
theorem dX12_readStatement_66 : decode cX12_readStatement 66 = .ok (.iconst 1, 1) := by decide +kernel
theorem dX12_readStatement_67 : decode cX12_readStatement 67 = .ok (.iadd, 1) := by decide +kernel
theorem dX12_readStatement_68 : decode cX12_readStatement 68 = .ok (.putfield 138, 3) := by decide +kernel
theorem dX12_readStatement_71 : decode cX12_readStatement 71 = .ok (.aload_n 0, 1) := by decide +kernel
theorem dX12_readStatement_72 : decode cX12_readStatement 72 = .ok (.getfield 144, 3) := by decide +kernel
theorem dX12_readStatement_75 : decode cX12_readStatement 75 = .ok (.ifCond .ne 11, 3) := by decide +kernel
theorem dX12_readStatement_78 : decode cX12_readStatement 78 = .ok (.aload_n 0, 1) := by decide +kernel
theorem dX12_readStatement_79 : decode cX12_readStatement 79 = .ok (.iload_n 2, 1) := by decide +kernel
theorem dX12_readStatement_80 : decode cX12_readStatement 80 = .ok (.iconst 3, 1) := by decide +kernel
theorem dX12_readStatement_81 : decode cX12_readStatement 81 = .ok (.iload_n 1, 1) := by decide +kernel
theorem dX12_readStatement_82 : decode cX12_readStatement 82 = .ok (.imul, 1) := by decide +kernel
theorem dX12_readStatement_83 : decode cX12_readStatement 83 = .ok (.invokevirtual 165, 3) := by decide +kernel
theorem dX12_readStatement_86 : decode cX12_readStatement 86 = .ok (.aload_n 0, 1) := by decide +kernel
theorem dX12_readStatement_87 : decode cX12_readStatement 87 = .ok (.aload_n 0, 1) := by decide +kernel
theorem dX12_readStatement_88 : decode cX12_readStatement 88 = .ok (.getfield 144, 3) := by decide +kernel
theorem dX12_readStatement_91 : decode cX12_readStatement 91 = .ok (.ifCond .ne 12, 3) := by decide +kernel
theorem dX12_readStatement_94 : decode cX12_readStatement 94 = .ok (.aload_n 0, 1) := by decide +kernel
theorem dX12_readStatement_95 : decode cX12_readStatement 95 = .ok (.invokevirtual 148, 3) := by decide +kernel
theorem dX12_readStatement_98 : decode cX12_readStatement 98 = .ok (.bipush 59, 2) := by decide +kernel
theorem dX12_readStatement_100 : decode cX12_readStatement 100 = .ok (.if_icmp .eq 7, 3) := by decide +kernel
theorem dX12_readStatement_103 : decode cX12_readStatement 103 = .ok (.iconst 1, 1) := by decide +kernel
theorem dX12_readStatement_104 : decode cX12_readStatement 104 = .ok (.goto 4, 3) := by decide +kernel
theorem dX12_readStatement_107 : decode cX12_readStatement 107 = .ok (.iconst 0, 1) := by decide +kernel
theorem dX12_readStatement_108 : decode cX12_readStatement 108 = .ok (.putfield 144, 3) := by decide +kernel
theorem dX12_readStatement_111 : decode cX12_readStatement 111 = .ok (.aload_n 0, 1) := by decide +kernel
theorem dX12_readStatement_112 : decode cX12_readStatement 112 = .ok (.dup, 1) := by decide +kernel
theorem dX12_readStatement_113 : decode cX12_readStatement 113 = .ok (.getfield 138, 3) := by decide +kernel
theorem dX12_readStatement_116 : decode cX12_readStatement 116 = .ok (.aload_n 0, 1) := by decide +kernel
theorem dX12_readStatement_117 : decode cX12_readStatement 117 = .ok (.getfield 144, 3) := by decide +kernel
theorem dX12_readStatement_120 : decode cX12_readStatement 120 = .ok (.ifCond .eq 7, 3) := by decide +kernel
theorem dX12_readStatement_123 : decode cX12_readStatement 123 = .ok (.iconst 0, 1) := by decide +kernel
theorem dX12_readStatement_124 : decode cX12_readStatement 124 = .ok (.goto 4, 3) := by decide +kernel
theorem dX12_readStatement_127 : decode cX12_readStatement 127 = .ok (.iconst 1, 1) := by decide +kernel
theorem dX12_readStatement_128 : decode cX12_readStatement 128 = .ok (.iadd, 1) := by decide +kernel
theorem dX12_readStatement_129 : decode cX12_readStatement 129 = .ok (.putfield 138, 3) := by decide +kernel
theorem dX12_readStatement_132 : decode cX12_readStatement 132 = .ok (.aload_n 0, 1) := by decide +kernel
theorem dX12_readStatement_133 : decode cX12_readStatement 133 = .ok (.dup, 1) := by decide +kernel
theorem dX12_readStatement_134 : decode cX12_readStatement 134 = .ok (.getfield 159, 3) := by decide +kernel
theorem dX12_readStatement_137 : decode cX12_readStatement 137 = .ok (.iconst 1, 1) := by decide +kernel
theorem dX12_readStatement_138 : decode cX12_readStatement 138 = .ok (.iadd, 1) := by decide +kernel
theorem dX12_readStatement_139 : decode cX12_readStatement 139 = .ok (.putfield 159, 3) := by decide +kernel
theorem dX12_readStatement_142 : decode cX12_readStatement 142 = .ok (.return_, 1) := by decide +kernel
theorem dX12_childComes_0 : decode cX12_childComes 0 = .ok (.iload_n 1, 1) := by decide +kernel
theorem dX12_childComes_1 : decode cX12_childComes 1 = .ok (.bipush 8, 2) := by decide +kernel
theorem dX12_childComes_3 : decode cX12_childComes 3 = .ok (.if_icmp .ge 22, 3) := by decide +kernel
theorem dX12_childComes_6 : decode cX12_childComes 6 = .ok (.iload_n 3, 1) := by decide +kernel
theorem dX12_childComes_7 : decode cX12_childComes 7 = .ok (.bipush 20, 2) := by decide +kernel
theorem dX12_childComes_9 : decode cX12_childComes 9 = .ok (.if_icmp .gt 16, 3) := by decide +kernel
theorem dX12_childComes_12 : decode cX12_childComes 12 = .ok (.aload_n 0, 1) := by decide +kernel
theorem dX12_childComes_13 : decode cX12_childComes 13 = .ok (.getfield 81, 3) := by decide +kernel
theorem dX12_childComes_16 : decode cX12_childComes 16 = .ok (.bipush 6, 2) := by decide +kernel
theorem dX12_childComes_18 : decode cX12_childComes 18 = .ok (.if_icmp .ge 7, 3) := by decide +kernel
theorem dX12_childComes_21 : decode cX12_childComes 21 = .ok (.iconst 1, 1) := by decide +kernel
theorem dX12_childComes_22 : decode cX12_childComes 22 = .ok (.goto 4, 3) := by decide +kernel
theorem dX12_childComes_25 : decode cX12_childComes 25 = .ok (.iconst 0, 1) := by decide +kernel
theorem dX12_childComes_26 : decode cX12_childComes 26 = .ok (.istore 4, 2) := by decide +kernel
theorem dX12_childComes_28 : decode cX12_childComes 28 = .ok (.iload 4, 2) := by decide +kernel
theorem dX12_childComes_30 : decode cX12_childComes 30 = .ok (.ifCond .eq 63, 3) := by decide +kernel
theorem dX12_childComes_33 : decode cX12_childComes 33 = .ok (.aload_n 0, 1) := by decide +kernel
theorem dX12_childComes_34 : decode cX12_childComes 34 = .ok (.getfield 7, 3) := by decide +kernel
theorem dX12_childComes_37 : decode cX12_childComes 37 = .ok (.aload_n 0, 1) := by decide +kernel
theorem dX12_childComes_38 : decode cX12_childComes 38 = .ok (.getfield 81, 3) := by decide +kernel
theorem dX12_childComes_41 : decode cX12_childComes 41 = .ok (.iload_n 1, 1) := by decide +kernel
theorem dX12_childComes_42 : decode cX12_childComes 42 = .ok (.iastore, 1) := by decide +kernel
theorem dX12_childComes_43 : decode cX12_childComes 43 = .ok (.aload_n 0, 1) := by decide +kernel
theorem dX12_childComes_44 : decode cX12_childComes 44 = .ok (.getfield 13, 3) := by decide +kernel
theorem dX12_childComes_47 : decode cX12_childComes 47 = .ok (.aload_n 0, 1) := by decide +kernel
theorem dX12_childComes_48 : decode cX12_childComes 48 = .ok (.getfield 81, 3) := by decide +kernel
theorem dX12_childComes_51 : decode cX12_childComes 51 = .ok (.iload_n 2, 1) := by decide +kernel
theorem dX12_childComes_52 : decode cX12_childComes 52 = .ok (.iastore, 1) := by decide +kernel
theorem dX12_childComes_53 : decode cX12_childComes 53 = .ok (.aload_n 0, 1) := by decide +kernel
theorem dX12_childComes_54 : decode cX12_childComes 54 = .ok (.getfield 16, 3) := by decide +kernel
theorem dX12_childComes_57 : decode cX12_childComes 57 = .ok (.aload_n 0, 1) := by decide +kernel
theorem dX12_childComes_58 : decode cX12_childComes 58 = .ok (.getfield 81, 3) := by decide +kernel
theorem dX12_childComes_61 : decode cX12_childComes 61 = .ok (.iload_n 3, 1) := by decide +kernel
theorem dX12_childComes_62 : decode cX12_childComes 62 = .ok (.iastore, 1) := by decide +kernel
theorem dX12_childComes_63 : decode cX12_childComes 63 = .ok (.aload_n 0, 1) := by decide +kernel
theorem dX12_childComes_64 : decode cX12_childComes 64 = .ok (.getfield 19, 3) := by decide +kernel
theorem dX12_childComes_67 : decode cX12_childComes 67 = .ok (.aload_n 0, 1) := by decide +kernel
theorem dX12_childComes_68 : decode cX12_childComes 68 = .ok (.getfield 81, 3) := by decide +kernel
theorem dX12_childComes_71 : decode cX12_childComes 71 = .ok (.iconst 0, 1) := by decide +kernel
theorem dX12_childComes_72 : decode cX12_childComes 72 = .ok (.iastore, 1) := by decide +kernel
theorem dX12_childComes_73 : decode cX12_childComes 73 = .ok (.aload_n 0, 1) := by decide +kernel
theorem dX12_childComes_74 : decode cX12_childComes 74 = .ok (.getfield 22, 3) := by decide +kernel
theorem dX12_childComes_77 : decode cX12_childComes 77 = .ok (.aload_n 0, 1) := by decide +kernel
theorem dX12_childComes_78 : decode cX12_childComes 78 = .ok (.getfield 81, 3) := by decide +kernel
theorem dX12_childComes_81 : decode cX12_childComes 81 = .ok (.iconst 0, 1) := by decide +kernel
theorem dX12_childComes_82 : decode cX12_childComes 82 = .ok (.iastore, 1) := by decide +kernel
theorem dX12_childComes_83 : decode cX12_childComes 83 = .ok (.aload_n 0, 1) := by decide +kernel
theorem dX12_childComes_84 : decode cX12_childComes 84 = .ok (.dup, 1) := by decide +kernel
theorem dX12_childComes_85 : decode cX12_childComes 85 = .ok (.getfield 81, 3) := by decide +kernel
theorem dX12_childComes_88 : decode cX12_childComes 88 = .ok (.iconst 1, 1) := by decide +kernel
theorem dX12_childComes_89 : decode cX12_childComes 89 = .ok (.iadd, 1) := by decide +kernel
theorem dX12_childComes_90 : decode cX12_childComes 90 = .ok (.putfield 81, 3) := by decide +kernel
theorem dX12_childComes_93 : decode cX12_childComes 93 = .ok (.iload 4, 2) := by decide +kernel
theorem dX12_childComes_95 : decode cX12_childComes 95 = .ok (.ireturn, 1) := by decide +kernel
theorem dX12_minuteComes_0 : decode cX12_minuteComes 0 = .ok (.aload_n 0, 1) := by decide +kernel
theorem dX12_minuteComes_1 : decode cX12_minuteComes 1 = .ok (.iload_n 1, 1) := by decide +kernel
theorem dX12_minuteComes_2 : decode cX12_minuteComes 2 = .ok (.invokevirtual 99, 3) := by decide +kernel
theorem dX12_minuteComes_5 : decode cX12_minuteComes 5 = .ok (.ifCond .eq 33, 3) := by decide +kernel
theorem dX12_minuteComes_8 : decode cX12_minuteComes 8 = .ok (.iload_n 2, 1) := by decide +kernel
theorem dX12_minuteComes_9 : decode cX12_minuteComes 9 = .ok (.iconst 4, 1) := by decide +kernel
theorem dX12_minuteComes_10 : decode cX12_minuteComes 10 = .ok (.if_icmp .ge 28, 3) := by decide +kernel
theorem dX12_minuteComes_13 : decode cX12_minuteComes 13 = .ok (.aload_n 0, 1) := by decide +kernel
theorem dX12_minuteComes_14 : decode cX12_minuteComes 14 = .ok (.getfield 19, 3) := by decide +kernel
theorem dX12_minuteComes_17 : decode cX12_minuteComes 17 = .ok (.iload_n 1, 1) := by decide +kernel
theorem dX12_minuteComes_18 : decode cX12_minuteComes 18 = .ok (.iaload, 1) := by decide +kernel
theorem dX12_minuteComes_19 : decode cX12_minuteComes 19 = .ok (.bipush 7, 2) := by decide +kernel
theorem dX12_minuteComes_21 : decode cX12_minuteComes 21 = .ok (.if_icmp .ge 17, 3) := by decide +kernel
theorem dX12_minuteComes_24 : decode cX12_minuteComes 24 = .ok (.aload_n 0, 1) := by decide +kernel
theorem dX12_minuteComes_25 : decode cX12_minuteComes 25 = .ok (.getfield 135, 3) := by decide +kernel
theorem dX12_minuteComes_28 : decode cX12_minuteComes 28 = .ok (.sipush 999, 3) := by decide +kernel
theorem dX12_minuteComes_31 : decode cX12_minuteComes 31 = .ok (.if_icmp .ge 7, 3) := by decide +kernel
theorem dX12_minuteComes_34 : decode cX12_minuteComes 34 = .ok (.iconst 1, 1) := by decide +kernel
theorem dX12_minuteComes_35 : decode cX12_minuteComes 35 = .ok (.goto 4, 3) := by decide +kernel
theorem dX12_minuteComes_38 : decode cX12_minuteComes 38 = .ok (.iconst 0, 1) := by decide +kernel
theorem dX12_minuteComes_39 : decode cX12_minuteComes 39 = .ok (.istore_n 3, 1) := by decide +kernel
theorem dX12_minuteComes_40 : decode cX12_minuteComes 40 = .ok (.iload_n 3, 1) := by decide +kernel
theorem dX12_minuteComes_41 : decode cX12_minuteComes 41 = .ok (.ifCond .eq 9, 3) := by decide +kernel
theorem dX12_minuteComes_44 : decode cX12_minuteComes 44 = .ok (.aload_n 0, 1) := by decide +kernel
theorem dX12_minuteComes_45 : decode cX12_minuteComes 45 = .ok (.iload_n 1, 1) := by decide +kernel
theorem dX12_minuteComes_46 : decode cX12_minuteComes 46 = .ok (.iload_n 2, 1) := by decide +kernel
theorem dX12_minuteComes_47 : decode cX12_minuteComes 47 = .ok (.invokevirtual 168, 3) := by decide +kernel
theorem dX12_minuteComes_50 : decode cX12_minuteComes 50 = .ok (.iload_n 3, 1) := by decide +kernel
theorem dX12_minuteComes_51 : decode cX12_minuteComes 51 = .ok (.ireturn, 1) := by decide +kernel
theorem dX12_swapNumbers_0 : decode cX12_swapNumbers 0 = .ok (.aload_n 1, 1) := by decide +kernel
theorem dX12_swapNumbers_1 : decode cX12_swapNumbers 1 = .ok (.iload_n 2, 1) := by decide +kernel
theorem dX12_swapNumbers_2 : decode cX12_swapNumbers 2 = .ok (.iaload, 1) := by decide +kernel
theorem dX12_swapNumbers_3 : decode cX12_swapNumbers 3 = .ok (.istore 4, 2) := by decide +kernel
theorem dX12_swapNumbers_5 : decode cX12_swapNumbers 5 = .ok (.aload_n 1, 1) := by decide +kernel
theorem dX12_swapNumbers_6 : decode cX12_swapNumbers 6 = .ok (.iload_n 2, 1) := by decide +kernel
theorem dX12_swapNumbers_7 : decode cX12_swapNumbers 7 = .ok (.aload_n 1, 1) := by decide +kernel
theorem dX12_swapNumbers_8 : decode cX12_swapNumbers 8 = .ok (.iload_n 3, 1) := by decide +kernel
theorem dX12_swapNumbers_9 : decode cX12_swapNumbers 9 = .ok (.iaload, 1) := by decide +kernel
theorem dX12_swapNumbers_10 : decode cX12_swapNumbers 10 = .ok (.iastore, 1) := by decide +kernel
theorem dX12_swapNumbers_11 : decode cX12_swapNumbers 11 = .ok (.aload_n 1, 1) := by decide +kernel
theorem dX12_swapNumbers_12 : decode cX12_swapNumbers 12 = .ok (.iload_n 3, 1) := by decide +kernel
theorem dX12_swapNumbers_13 : decode cX12_swapNumbers 13 = .ok (.iload 4, 2) := by decide +kernel
theorem dX12_swapNumbers_15 : decode cX12_swapNumbers 15 = .ok (.iastore, 1) := by decide +kernel
theorem dX12_swapNumbers_16 : decode cX12_swapNumbers 16 = .ok (.return_, 1) := by decide +kernel
theorem dX12_swapAll_0 : decode cX12_swapAll 0 = .ok (.aload_n 0, 1) := by decide +kernel
theorem dX12_swapAll_1 : decode cX12_swapAll 1 = .ok (.aload_n 0, 1) := by decide +kernel
theorem dX12_swapAll_2 : decode cX12_swapAll 2 = .ok (.getfield 7, 3) := by decide +kernel
theorem dX12_swapAll_5 : decode cX12_swapAll 5 = .ok (.iload_n 1, 1) := by decide +kernel
theorem dX12_swapAll_6 : decode cX12_swapAll 6 = .ok (.iload_n 2, 1) := by decide +kernel
theorem dX12_swapAll_7 : decode cX12_swapAll 7 = .ok (.invokevirtual 171, 3) := by decide +kernel
theorem dX12_swapAll_10 : decode cX12_swapAll 10 = .ok (.aload_n 0, 1) := by decide +kernel
theorem dX12_swapAll_11 : decode cX12_swapAll 11 = .ok (.aload_n 0, 1) := by decide +kernel
theorem dX12_swapAll_12 : decode cX12_swapAll 12 = .ok (.getfield 13, 3) := by decide +kernel
theorem dX12_swapAll_15 : decode cX12_swapAll 15 = .ok (.iload_n 1, 1) := by decide +kernel
theorem dX12_swapAll_16 : decode cX12_swapAll 16 = .ok (.iload_n 2, 1) := by decide +kernel
theorem dX12_swapAll_17 : decode cX12_swapAll 17 = .ok (.invokevirtual 171, 3) := by decide +kernel
theorem dX12_swapAll_20 : decode cX12_swapAll 20 = .ok (.aload_n 0, 1) := by decide +kernel
theorem dX12_swapAll_21 : decode cX12_swapAll 21 = .ok (.aload_n 0, 1) := by decide +kernel
theorem dX12_swapAll_22 : decode cX12_swapAll 22 = .ok (.getfield 16, 3) := by decide +kernel
theorem dX12_swapAll_25 : decode cX12_swapAll 25 = .ok (.iload_n 1, 1) := by decide +kernel
theorem dX12_swapAll_26 : decode cX12_swapAll 26 = .ok (.iload_n 2, 1) := by decide +kernel
theorem dX12_swapAll_27 : decode cX12_swapAll 27 = .ok (.invokevirtual 171, 3) := by decide +kernel
theorem dX12_swapAll_30 : decode cX12_swapAll 30 = .ok (.aload_n 0, 1) := by decide +kernel
theorem dX12_swapAll_31 : decode cX12_swapAll 31 = .ok (.aload_n 0, 1) := by decide +kernel
theorem dX12_swapAll_32 : decode cX12_swapAll 32 = .ok (.getfield 19, 3) := by decide +kernel
theorem dX12_swapAll_35 : decode cX12_swapAll 35 = .ok (.iload_n 1, 1) := by decide +kernel
theorem dX12_swapAll_36 : decode cX12_swapAll 36 = .ok (.iload_n 2, 1) := by decide +kernel
theorem dX12_swapAll_37 : decode cX12_swapAll 37 = .ok (.invokevirtual 171, 3) := by decide +kernel
theorem dX12_swapAll_40 : decode cX12_swapAll 40 = .ok (.aload_n 0, 1) := by decide +kernel
theorem dX12_swapAll_41 : decode cX12_swapAll 41 = .ok (.aload_n 0, 1) := by decide +kernel
theorem dX12_swapAll_42 : decode cX12_swapAll 42 = .ok (.getfield 22, 3) := by decide +kernel
theorem dX12_swapAll_45 : decode cX12_swapAll 45 = .ok (.iload_n 1, 1) := by decide +kernel
theorem dX12_swapAll_46 : decode cX12_swapAll 46 = .ok (.iload_n 2, 1) := by decide +kernel
theorem dX12_swapAll_47 : decode cX12_swapAll 47 = .ok (.invokevirtual 171, 3) := by decide +kernel
theorem dX12_swapAll_50 : decode cX12_swapAll 50 = .ok (.return_, 1) := by decide +kernel
theorem dX12_comesTold_0 : decode cX12_comesTold 0 = .ok (.aload_n 0, 1) := by decide +kernel
theorem dX12_comesTold_1 : decode cX12_comesTold 1 = .ok (.getfield 50, 3) := by decide +kernel
theorem dX12_comesTold_4 : decode cX12_comesTold 4 = .ok (.iconst 3, 1) := by decide +kernel
theorem dX12_comesTold_5 : decode cX12_comesTold 5 = .ok (.iload_n 1, 1) := by decide +kernel
theorem dX12_comesTold_6 : decode cX12_comesTold 6 = .ok (.imul, 1) := by decide +kernel
theorem dX12_comesTold_7 : decode cX12_comesTold 7 = .ok (.iaload, 1) := by decide +kernel
theorem dX12_comesTold_8 : decode cX12_comesTold 8 = .ok (.istore_n 2, 1) := by decide +kernel
theorem dX12_comesTold_9 : decode cX12_comesTold 9 = .ok (.aload_n 0, 1) := by decide +kernel
theorem dX12_comesTold_10 : decode cX12_comesTold 10 = .ok (.getfield 50, 3) := by decide +kernel
theorem dX12_comesTold_13 : decode cX12_comesTold 13 = .ok (.iconst 3, 1) := by decide +kernel
theorem dX12_comesTold_14 : decode cX12_comesTold 14 = .ok (.iload_n 1, 1) := by decide +kernel
theorem dX12_comesTold_15 : decode cX12_comesTold 15 = .ok (.imul, 1) := by decide +kernel
theorem dX12_comesTold_16 : decode cX12_comesTold 16 = .ok (.iconst 1, 1) := by decide +kernel
theorem dX12_comesTold_17 : decode cX12_comesTold 17 = .ok (.iadd, 1) := by decide +kernel
theorem dX12_comesTold_18 : decode cX12_comesTold 18 = .ok (.iaload, 1) := by decide +kernel
theorem dX12_comesTold_19 : decode cX12_comesTold 19 = .ok (.istore_n 3, 1) := by decide +kernel
theorem dX12_comesTold_20 : decode cX12_comesTold 20 = .ok (.iconst 1, 1) := by decide +kernel
theorem dX12_comesTold_21 : decode cX12_comesTold 21 = .ok (.istore 4, 2) := by decide +kernel
theorem dX12_comesTold_23 : decode cX12_comesTold 23 = .ok (.aload_n 0, 1) := by decide +kernel
theorem dX12_comesTold_24 : decode cX12_comesTold 24 = .ok (.getfield 47, 3) := by decide +kernel
theorem dX12_comesTold_27 : decode cX12_comesTold 27 = .ok (.iload_n 1, 1) := by decide +kernel
theorem dX12_comesTold_28 : decode cX12_comesTold 28 = .ok (.iaload, 1) := by decide +kernel
theorem dX12_comesTold_29 : decode cX12_comesTold 29 = .ok (.lookupswitch 160 #[(98, 75), (99, 51), (109, 68), (116, 124), (120, 82)], 51) := by decide +kernel
theorem dX12_comesTold_80 : decode cX12_comesTold 80 = .ok (.aload_n 0, 1) := by decide +kernel
theorem dX12_comesTold_81 : decode cX12_comesTold 81 = .ok (.iload_n 2, 1) := by decide +kernel
theorem dX12_comesTold_82 : decode cX12_comesTold 82 = .ok (.iload_n 3, 1) := by decide +kernel
theorem dX12_comesTold_83 : decode cX12_comesTold 83 = .ok (.aload_n 0, 1) := by decide +kernel
theorem dX12_comesTold_84 : decode cX12_comesTold 84 = .ok (.getfield 50, 3) := by decide +kernel
theorem dX12_comesTold_87 : decode cX12_comesTold 87 = .ok (.iconst 3, 1) := by decide +kernel
theorem dX12_comesTold_88 : decode cX12_comesTold 88 = .ok (.iload_n 1, 1) := by decide +kernel
theorem dX12_comesTold_89 : decode cX12_comesTold 89 = .ok (.imul, 1) := by decide +kernel
theorem dX12_comesTold_90 : decode cX12_comesTold 90 = .ok (.iconst 2, 1) := by decide +kernel
theorem dX12_comesTold_91 : decode cX12_comesTold 91 = .ok (.iadd, 1) := by decide +kernel
theorem dX12_comesTold_92 : decode cX12_comesTold 92 = .ok (.iaload, 1) := by decide +kernel
theorem dX12_comesTold_93 : decode cX12_comesTold 93 = .ok (.invokevirtual 175, 3) := by decide +kernel
theorem dX12_comesTold_96 : decode cX12_comesTold 96 = .ok (.ireturn, 1) := by decide +kernel
theorem dX12_comesTold_97 : decode cX12_comesTold 97 = .ok (.aload_n 0, 1) := by decide +kernel
theorem dX12_comesTold_98 : decode cX12_comesTold 98 = .ok (.iload_n 2, 1) := by decide +kernel
theorem dX12_comesTold_99 : decode cX12_comesTold 99 = .ok (.iload_n 3, 1) := by decide +kernel
theorem dX12_comesTold_100 : decode cX12_comesTold 100 = .ok (.invokevirtual 179, 3) := by decide +kernel
theorem dX12_comesTold_103 : decode cX12_comesTold 103 = .ok (.ireturn, 1) := by decide +kernel
theorem dX12_comesTold_104 : decode cX12_comesTold 104 = .ok (.aload_n 0, 1) := by decide +kernel
theorem dX12_comesTold_105 : decode cX12_comesTold 105 = .ok (.iload_n 2, 1) := by decide +kernel
theorem dX12_comesTold_106 : decode cX12_comesTold 106 = .ok (.invokevirtual 183, 3) := by decide +kernel
theorem dX12_comesTold_109 : decode cX12_comesTold 109 = .ok (.iconst 1, 1) := by decide +kernel
theorem dX12_comesTold_110 : decode cX12_comesTold 110 = .ok (.ireturn, 1) := by decide +kernel
theorem dX12_comesTold_111 : decode cX12_comesTold 111 = .ok (.aload_n 0, 1) := by decide +kernel
theorem dX12_comesTold_112 : decode cX12_comesTold 112 = .ok (.iload_n 2, 1) := by decide +kernel
theorem dX12_comesTold_113 : decode cX12_comesTold 113 = .ok (.invokevirtual 99, 3) := by decide +kernel
theorem dX12_comesTold_116 : decode cX12_comesTold 116 = .ok (.ifCond .eq 20, 3) := by decide +kernel
theorem dX12_comesTold_119 : decode cX12_comesTold 119 = .ok (.aload_n 0, 1) := by decide +kernel
theorem dX12_comesTold_120 : decode cX12_comesTold 120 = .ok (.iload_n 3, 1) := by decide +kernel
theorem dX12_comesTold_121 : decode cX12_comesTold 121 = .ok (.invokevirtual 99, 3) := by decide +kernel
theorem dX12_comesTold_124 : decode cX12_comesTold 124 = .ok (.ifCond .eq 12, 3) := by decide +kernel
theorem dX12_comesTold_127 : decode cX12_comesTold 127 = .ok (.iload_n 2, 1) := by decide +kernel
theorem dX12_comesTold_128 : decode cX12_comesTold 128 = .ok (.iload_n 3, 1) := by decide +kernel
theorem dX12_comesTold_129 : decode cX12_comesTold 129 = .ok (.if_icmp .eq 7, 3) := by decide +kernel
theorem dX12_comesTold_132 : decode cX12_comesTold 132 = .ok (.iconst 1, 1) := by decide +kernel
theorem dX12_comesTold_133 : decode cX12_comesTold 133 = .ok (.goto 4, 3) := by decide +kernel
theorem dX12_comesTold_136 : decode cX12_comesTold 136 = .ok (.iconst 0, 1) := by decide +kernel
theorem dX12_comesTold_137 : decode cX12_comesTold 137 = .ok (.istore 4, 2) := by decide +kernel
theorem dX12_comesTold_139 : decode cX12_comesTold 139 = .ok (.iload 4, 2) := by decide +kernel
theorem dX12_comesTold_141 : decode cX12_comesTold 141 = .ok (.ifCond .eq 9, 3) := by decide +kernel
theorem dX12_comesTold_144 : decode cX12_comesTold 144 = .ok (.aload_n 0, 1) := by decide +kernel
theorem dX12_comesTold_145 : decode cX12_comesTold 145 = .ok (.iload_n 2, 1) := by decide +kernel
theorem dX12_comesTold_146 : decode cX12_comesTold 146 = .ok (.iload_n 3, 1) := by decide +kernel
theorem dX12_comesTold_147 : decode cX12_comesTold 147 = .ok (.invokevirtual 186, 3) := by decide +kernel
theorem dX12_comesTold_150 : decode cX12_comesTold 150 = .ok (.iload 4, 2) := by decide +kernel
theorem dX12_comesTold_152 : decode cX12_comesTold 152 = .ok (.ireturn, 1) := by decide +kernel
theorem dX12_comesTold_153 : decode cX12_comesTold 153 = .ok (.aload_n 0, 1) := by decide +kernel
theorem dX12_comesTold_154 : decode cX12_comesTold 154 = .ok (.iload_n 2, 1) := by decide +kernel
theorem dX12_comesTold_155 : decode cX12_comesTold 155 = .ok (.invokevirtual 99, 3) := by decide +kernel
theorem dX12_comesTold_158 : decode cX12_comesTold 158 = .ok (.ifCond .eq 13, 3) := by decide +kernel
theorem dX12_comesTold_161 : decode cX12_comesTold 161 = .ok (.iload_n 3, 1) := by decide +kernel
theorem dX12_comesTold_162 : decode cX12_comesTold 162 = .ok (.bipush 20, 2) := by decide +kernel
theorem dX12_comesTold_164 : decode cX12_comesTold 164 = .ok (.if_icmp .gt 7, 3) := by decide +kernel
theorem dX12_comesTold_167 : decode cX12_comesTold 167 = .ok (.iconst 1, 1) := by decide +kernel
theorem dX12_comesTold_168 : decode cX12_comesTold 168 = .ok (.goto 4, 3) := by decide +kernel
theorem dX12_comesTold_171 : decode cX12_comesTold 171 = .ok (.iconst 0, 1) := by decide +kernel
theorem dX12_comesTold_172 : decode cX12_comesTold 172 = .ok (.istore 4, 2) := by decide +kernel
theorem dX12_comesTold_174 : decode cX12_comesTold 174 = .ok (.iload 4, 2) := by decide +kernel
theorem dX12_comesTold_176 : decode cX12_comesTold 176 = .ok (.ifCond .eq 10, 3) := by decide +kernel
theorem dX12_comesTold_179 : decode cX12_comesTold 179 = .ok (.aload_n 0, 1) := by decide +kernel
theorem dX12_comesTold_180 : decode cX12_comesTold 180 = .ok (.getfield 16, 3) := by decide +kernel
theorem dX12_comesTold_183 : decode cX12_comesTold 183 = .ok (.iload_n 2, 1) := by decide +kernel
theorem dX12_comesTold_184 : decode cX12_comesTold 184 = .ok (.iload_n 3, 1) := by decide +kernel
theorem dX12_comesTold_185 : decode cX12_comesTold 185 = .ok (.iastore, 1) := by decide +kernel
theorem dX12_comesTold_186 : decode cX12_comesTold 186 = .ok (.iload 4, 2) := by decide +kernel
theorem dX12_comesTold_188 : decode cX12_comesTold 188 = .ok (.ireturn, 1) := by decide +kernel
theorem dX12_comesTold_189 : decode cX12_comesTold 189 = .ok (.aload_n 0, 1) := by decide +kernel
theorem dX12_comesTold_190 : decode cX12_comesTold 190 = .ok (.iload_n 2, 1) := by decide +kernel
theorem dX12_comesTold_191 : decode cX12_comesTold 191 = .ok (.invokevirtual 99, 3) := by decide +kernel
theorem dX12_comesTold_194 : decode cX12_comesTold 194 = .ok (.ifCond .eq 13, 3) := by decide +kernel
theorem dX12_comesTold_197 : decode cX12_comesTold 197 = .ok (.iload_n 3, 1) := by decide +kernel
theorem dX12_comesTold_198 : decode cX12_comesTold 198 = .ok (.bipush 7, 2) := by decide +kernel
theorem dX12_comesTold_200 : decode cX12_comesTold 200 = .ok (.if_icmp .gt 7, 3) := by decide +kernel
theorem dX12_comesTold_203 : decode cX12_comesTold 203 = .ok (.iconst 1, 1) := by decide +kernel
theorem dX12_comesTold_204 : decode cX12_comesTold 204 = .ok (.goto 4, 3) := by decide +kernel
theorem dX12_comesTold_207 : decode cX12_comesTold 207 = .ok (.iconst 0, 1) := by decide +kernel
theorem dX12_comesTold_208 : decode cX12_comesTold 208 = .ok (.istore 4, 2) := by decide +kernel
theorem dX12_comesTold_210 : decode cX12_comesTold 210 = .ok (.iload 4, 2) := by decide +kernel
theorem dX12_comesTold_212 : decode cX12_comesTold 212 = .ok (.ifCond .eq 10, 3) := by decide +kernel
theorem dX12_comesTold_215 : decode cX12_comesTold 215 = .ok (.aload_n 0, 1) := by decide +kernel
theorem dX12_comesTold_216 : decode cX12_comesTold 216 = .ok (.getfield 19, 3) := by decide +kernel
theorem dX12_comesTold_219 : decode cX12_comesTold 219 = .ok (.iload_n 2, 1) := by decide +kernel
theorem dX12_comesTold_220 : decode cX12_comesTold 220 = .ok (.iload_n 3, 1) := by decide +kernel
theorem dX12_comesTold_221 : decode cX12_comesTold 221 = .ok (.iastore, 1) := by decide +kernel
theorem dX12_comesTold_222 : decode cX12_comesTold 222 = .ok (.iload 4, 2) := by decide +kernel
theorem dX12_comesTold_224 : decode cX12_comesTold 224 = .ok (.ireturn, 1) := by decide +kernel
theorem dX12_bath_0 : decode cX12_bath 0 = .ok (.aload_n 0, 1) := by decide +kernel
theorem dX12_bath_1 : decode cX12_bath 1 = .ok (.iconst 0, 1) := by decide +kernel
theorem dX12_bath_2 : decode cX12_bath 2 = .ok (.putfield 77, 3) := by decide +kernel
theorem dX12_bath_5 : decode cX12_bath 5 = .ok (.aload_n 0, 1) := by decide +kernel
theorem dX12_bath_6 : decode cX12_bath 6 = .ok (.iload_n 1, 1) := by decide +kernel
theorem dX12_bath_7 : decode cX12_bath 7 = .ok (.invokevirtual 189, 3) := by decide +kernel
theorem dX12_bath_10 : decode cX12_bath 10 = .ok (.istore_n 2, 1) := by decide +kernel
theorem dX12_bath_11 : decode cX12_bath 11 = .ok (.iload_n 2, 1) := by decide +kernel
theorem dX12_bath_12 : decode cX12_bath 12 = .ok (.ifCond .ne 17, 3) := by decide +kernel
theorem dX12_bath_15 : decode cX12_bath 15 = .ok (.aload_n 0, 1) := by decide +kernel
theorem dX12_bath_16 : decode cX12_bath 16 = .ok (.getfield 34, 3) := by decide +kernel
theorem dX12_bath_19 : decode cX12_bath 19 = .ok (.iload_n 1, 1) := by decide +kernel
theorem dX12_bath_20 : decode cX12_bath 20 = .ok (.iaload, 1) := by decide +kernel
theorem dX12_bath_21 : decode cX12_bath 21 = .ok (.ifCond .eq 8, 3) := by decide +kernel
theorem dX12_bath_24 : decode cX12_bath 24 = .ok (.bipush (-12), 2) := by decide +kernel
theorem dX12_bath_26 : decode cX12_bath 26 = .ok (.goto 4, 3) := by decide +kernel
theorem dX12_bath_29 : decode cX12_bath 29 = .ok (.iload_n 2, 1) := by decide +kernel
theorem dX12_bath_30 : decode cX12_bath 30 = .ok (.istore_n 2, 1) := by decide +kernel
theorem dX12_bath_31 : decode cX12_bath 31 = .ok (.iload_n 2, 1) := by decide +kernel
theorem dX12_bath_32 : decode cX12_bath 32 = .ok (.ifCond .ge 5, 3) := by decide +kernel
theorem dX12_bath_35 : decode cX12_bath 35 = .ok (.iload_n 2, 1) := by decide +kernel
theorem dX12_bath_36 : decode cX12_bath 36 = .ok (.ireturn, 1) := by decide +kernel
theorem dX12_bath_37 : decode cX12_bath 37 = .ok (.aload_n 0, 1) := by decide +kernel
theorem dX12_bath_38 : decode cX12_bath 38 = .ok (.iload_n 1, 1) := by decide +kernel
theorem dX12_bath_39 : decode cX12_bath 39 = .ok (.putfield 141, 3) := by decide +kernel
theorem dX12_bath_42 : decode cX12_bath 42 = .ok (.aload_n 0, 1) := by decide +kernel
theorem dX12_bath_43 : decode cX12_bath 43 = .ok (.iconst 0, 1) := by decide +kernel
theorem dX12_bath_44 : decode cX12_bath 44 = .ok (.putfield 138, 3) := by decide +kernel
theorem dX12_bath_47 : decode cX12_bath 47 = .ok (.aload_n 0, 1) := by decide +kernel
theorem dX12_bath_48 : decode cX12_bath 48 = .ok (.iconst 0, 1) := by decide +kernel
theorem dX12_bath_49 : decode cX12_bath 49 = .ok (.putfield 144, 3) := by decide +kernel
theorem dX12_bath_52 : decode cX12_bath 52 = .ok (.aload_n 0, 1) := by decide +kernel
theorem dX12_bath_53 : decode cX12_bath 53 = .ok (.iconst 0, 1) := by decide +kernel
theorem dX12_bath_54 : decode cX12_bath 54 = .ok (.putfield 159, 3) := by decide +kernel
theorem dX12_bath_57 : decode cX12_bath 57 = .ok (.aload_n 0, 1) := by decide +kernel
theorem dX12_bath_58 : decode cX12_bath 58 = .ok (.getfield 144, 3) := by decide +kernel
theorem dX12_bath_61 : decode cX12_bath 61 = .ok (.ifCond .ne 30, 3) := by decide +kernel
theorem dX12_bath_64 : decode cX12_bath 64 = .ok (.aload_n 0, 1) := by decide +kernel
theorem dX12_bath_65 : decode cX12_bath 65 = .ok (.getfield 159, 3) := by decide +kernel
theorem dX12_bath_68 : decode cX12_bath 68 = .ok (.ifCond .eq 16, 3) := by decide +kernel
theorem dX12_bath_71 : decode cX12_bath 71 = .ok (.aload_n 0, 1) := by decide +kernel
theorem dX12_bath_72 : decode cX12_bath 72 = .ok (.getfield 138, 3) := by decide +kernel
theorem dX12_bath_75 : decode cX12_bath 75 = .ok (.aload_n 0, 1) := by decide +kernel
theorem dX12_bath_76 : decode cX12_bath 76 = .ok (.getfield 37, 3) := by decide +kernel
theorem dX12_bath_79 : decode cX12_bath 79 = .ok (.iload_n 1, 1) := by decide +kernel
theorem dX12_bath_80 : decode cX12_bath 80 = .ok (.iaload, 1) := by decide +kernel
theorem dX12_bath_81 : decode cX12_bath 81 = .ok (.if_icmp .ge 10, 3) := by decide +kernel
theorem dX12_bath_84 : decode cX12_bath 84 = .ok (.aload_n 0, 1) := by decide +kernel
theorem dX12_bath_85 : decode cX12_bath 85 = .ok (.invokevirtual 192, 3) := by decide +kernel
theorem dX12_bath_88 : decode cX12_bath 88 = .ok (.goto (-31), 3) := by decide +kernel
theorem dX12_bath_91 : decode cX12_bath 91 = .ok (.aload_n 0, 1) := by decide +kernel
theorem dX12_bath_92 : decode cX12_bath 92 = .ok (.getfield 144, 3) := by decide +kernel
theorem dX12_bath_95 : decode cX12_bath 95 = .ok (.ifCond .eq 12, 3) := by decide +kernel
theorem dX12_bath_98 : decode cX12_bath 98 = .ok (.sipush (-1000), 3) := by decide +kernel
theorem dX12_bath_101 : decode cX12_bath 101 = .ok (.aload_n 0, 1) := by decide +kernel
theorem dX12_bath_102 : decode cX12_bath 102 = .ok (.getfield 138, 3) := by decide +kernel
theorem dX12_bath_105 : decode cX12_bath 105 = .ok (.isub, 1) := by decide +kernel
theorem dX12_bath_106 : decode cX12_bath 106 = .ok (.ireturn, 1) := by decide +kernel
theorem dX12_bath_107 : decode cX12_bath 107 = .ok (.aload_n 0, 1) := by decide +kernel
theorem dX12_bath_108 : decode cX12_bath 108 = .ok (.invokevirtual 195, 3) := by decide +kernel
theorem dX12_bath_111 : decode cX12_bath 111 = .ok (.iconst 0, 1) := by decide +kernel
theorem dX12_bath_112 : decode cX12_bath 112 = .ok (.istore_n 3, 1) := by decide +kernel
theorem dX12_bath_113 : decode cX12_bath 113 = .ok (.iload_n 3, 1) := by decide +kernel
theorem dX12_bath_114 : decode cX12_bath 114 = .ok (.aload_n 0, 1) := by decide +kernel
theorem dX12_bath_115 : decode cX12_bath 115 = .ok (.getfield 159, 3) := by decide +kernel
theorem dX12_bath_118 : decode cX12_bath 118 = .ok (.if_icmp .ge 32, 3) := by decide +kernel
theorem dX12_bath_121 : decode cX12_bath 121 = .ok (.aload_n 0, 1) := by decide +kernel
theorem dX12_bath_122 : decode cX12_bath 122 = .ok (.iload_n 3, 1) := by decide +kernel
theorem dX12_bath_123 : decode cX12_bath 123 = .ok (.invokevirtual 198, 3) := by decide +kernel
theorem dX12_bath_126 : decode cX12_bath 126 = .ok (.ifCond .ne 18, 3) := by decide +kernel
theorem dX12_bath_129 : decode cX12_bath 129 = .ok (.aload_n 0, 1) := by decide +kernel
theorem dX12_bath_130 : decode cX12_bath 130 = .ok (.invokevirtual 201, 3) := by decide +kernel
theorem dX12_bath_133 : decode cX12_bath 133 = .ok (.sipush (-2000), 3) := by decide +kernel
theorem dX12_bath_136 : decode cX12_bath 136 = .ok (.aload_n 0, 1) := by decide +kernel
theorem dX12_bath_137 : decode cX12_bath 137 = .ok (.getfield 44, 3) := by decide +kernel
theorem dX12_bath_140 : decode cX12_bath 140 = .ok (.iload_n 3, 1) := by decide +kernel
theorem dX12_bath_141 : decode cX12_bath 141 = .ok (.iaload, 1) := by decide +kernel
theorem dX12_bath_142 : decode cX12_bath 142 = .ok (.isub, 1) := by decide +kernel
theorem dX12_bath_143 : decode cX12_bath 143 = .ok (.ireturn, 1) := by decide +kernel
theorem dX12_bath_144 : decode cX12_bath 144 = .ok (.iinc 3 1, 3) := by decide +kernel
theorem dX12_bath_147 : decode cX12_bath 147 = .ok (.goto (-34), 3) := by decide +kernel
theorem dX12_bath_150 : decode cX12_bath 150 = .ok (.aload_n 0, 1) := by decide +kernel
theorem dX12_bath_151 : decode cX12_bath 151 = .ok (.getfield 159, 3) := by decide +kernel
theorem dX12_bath_154 : decode cX12_bath 154 = .ok (.ireturn, 1) := by decide +kernel
theorem dX12_carry_0 : decode cX12_carry 0 = .ok (.aload_n 0, 1) := by decide +kernel
theorem dX12_carry_1 : decode cX12_carry 1 = .ok (.getfield 204, 3) := by decide +kernel
theorem dX12_carry_4 : decode cX12_carry 4 = .ok (.ifCond .eq 13, 3) := by decide +kernel
theorem dX12_carry_7 : decode cX12_carry 7 = .ok (.aload_n 0, 1) := by decide +kernel
theorem dX12_carry_8 : decode cX12_carry 8 = .ok (.getfield 207, 3) := by decide +kernel
theorem dX12_carry_11 : decode cX12_carry 11 = .ok (.aload_n 0, 1) := by decide +kernel
theorem dX12_carry_12 : decode cX12_carry 12 = .ok (.getfield 210, 3) := by decide +kernel
theorem dX12_carry_15 : decode cX12_carry 15 = .ok (.iload_n 1, 1) := by decide +kernel
theorem dX12_carry_16 : decode cX12_carry 16 = .ok (.iastore, 1) := by decide +kernel
theorem dX12_carry_17 : decode cX12_carry 17 = .ok (.aload_n 0, 1) := by decide +kernel
theorem dX12_carry_18 : decode cX12_carry 18 = .ok (.dup, 1) := by decide +kernel
theorem dX12_carry_19 : decode cX12_carry 19 = .ok (.getfield 210, 3) := by decide +kernel
theorem dX12_carry_22 : decode cX12_carry 22 = .ok (.iconst 1, 1) := by decide +kernel
theorem dX12_carry_23 : decode cX12_carry 23 = .ok (.iadd, 1) := by decide +kernel
theorem dX12_carry_24 : decode cX12_carry 24 = .ok (.putfield 210, 3) := by decide +kernel
theorem dX12_carry_27 : decode cX12_carry 27 = .ok (.aload_n 0, 1) := by decide +kernel
theorem dX12_carry_28 : decode cX12_carry 28 = .ok (.getfield 207, 3) := by decide +kernel
theorem dX12_carry_31 : decode cX12_carry 31 = .ok (.aload_n 0, 1) := by decide +kernel
theorem dX12_carry_32 : decode cX12_carry 32 = .ok (.getfield 210, 3) := by decide +kernel
theorem dX12_carry_35 : decode cX12_carry 35 = .ok (.iconst 1, 1) := by decide +kernel
theorem dX12_carry_36 : decode cX12_carry 36 = .ok (.isub, 1) := by decide +kernel
theorem dX12_carry_37 : decode cX12_carry 37 = .ok (.iaload, 1) := by decide +kernel
theorem dX12_carry_38 : decode cX12_carry 38 = .ok (.ireturn, 1) := by decide +kernel
theorem dX12_carryAll_0 : decode cX12_carryAll 0 = .ok (.aload_n 0, 1) := by decide +kernel
theorem dX12_carryAll_1 : decode cX12_carryAll 1 = .ok (.aload_n 1, 1) := by decide +kernel
theorem dX12_carryAll_2 : decode cX12_carryAll 2 = .ok (.putfield 207, 3) := by decide +kernel
theorem dX12_carryAll_5 : decode cX12_carryAll 5 = .ok (.aload_n 0, 1) := by decide +kernel
theorem dX12_carryAll_6 : decode cX12_carryAll 6 = .ok (.iload_n 2, 1) := by decide +kernel
theorem dX12_carryAll_7 : decode cX12_carryAll 7 = .ok (.putfield 204, 3) := by decide +kernel
theorem dX12_carryAll_10 : decode cX12_carryAll 10 = .ok (.aload_n 0, 1) := by decide +kernel
theorem dX12_carryAll_11 : decode cX12_carryAll 11 = .ok (.iconst 0, 1) := by decide +kernel
theorem dX12_carryAll_12 : decode cX12_carryAll 12 = .ok (.putfield 210, 3) := by decide +kernel
theorem dX12_carryAll_15 : decode cX12_carryAll 15 = .ok (.aload_n 0, 1) := by decide +kernel
theorem dX12_carryAll_16 : decode cX12_carryAll 16 = .ok (.aload_n 0, 1) := by decide +kernel
theorem dX12_carryAll_17 : decode cX12_carryAll 17 = .ok (.aload_n 0, 1) := by decide +kernel
theorem dX12_carryAll_18 : decode cX12_carryAll 18 = .ok (.getfield 81, 3) := by decide +kernel
theorem dX12_carryAll_21 : decode cX12_carryAll 21 = .ok (.invokevirtual 213, 3) := by decide +kernel
theorem dX12_carryAll_24 : decode cX12_carryAll 24 = .ok (.putfield 81, 3) := by decide +kernel
theorem dX12_carryAll_27 : decode cX12_carryAll 27 = .ok (.aload_n 0, 1) := by decide +kernel
theorem dX12_carryAll_28 : decode cX12_carryAll 28 = .ok (.aload_n 0, 1) := by decide +kernel
theorem dX12_carryAll_29 : decode cX12_carryAll 29 = .ok (.aload_n 0, 1) := by decide +kernel
theorem dX12_carryAll_30 : decode cX12_carryAll 30 = .ok (.getfield 135, 3) := by decide +kernel
theorem dX12_carryAll_33 : decode cX12_carryAll 33 = .ok (.invokevirtual 213, 3) := by decide +kernel
theorem dX12_carryAll_36 : decode cX12_carryAll 36 = .ok (.putfield 135, 3) := by decide +kernel
theorem dX12_carryAll_39 : decode cX12_carryAll 39 = .ok (.iconst 0, 1) := by decide +kernel
theorem dX12_carryAll_40 : decode cX12_carryAll 40 = .ok (.istore_n 3, 1) := by decide +kernel
theorem dX12_carryAll_41 : decode cX12_carryAll 41 = .ok (.iload_n 3, 1) := by decide +kernel
theorem dX12_carryAll_42 : decode cX12_carryAll 42 = .ok (.bipush 6, 2) := by decide +kernel
theorem dX12_carryAll_44 : decode cX12_carryAll 44 = .ok (.if_icmp .ge 89, 3) := by decide +kernel
theorem dX12_carryAll_47 : decode cX12_carryAll 47 = .ok (.aload_n 0, 1) := by decide +kernel
theorem dX12_carryAll_48 : decode cX12_carryAll 48 = .ok (.getfield 7, 3) := by decide +kernel
theorem dX12_carryAll_51 : decode cX12_carryAll 51 = .ok (.iload_n 3, 1) := by decide +kernel
theorem dX12_carryAll_52 : decode cX12_carryAll 52 = .ok (.aload_n 0, 1) := by decide +kernel
theorem dX12_carryAll_53 : decode cX12_carryAll 53 = .ok (.aload_n 0, 1) := by decide +kernel
theorem dX12_carryAll_54 : decode cX12_carryAll 54 = .ok (.getfield 7, 3) := by decide +kernel
theorem dX12_carryAll_57 : decode cX12_carryAll 57 = .ok (.iload_n 3, 1) := by decide +kernel
theorem dX12_carryAll_58 : decode cX12_carryAll 58 = .ok (.iaload, 1) := by decide +kernel
theorem dX12_carryAll_59 : decode cX12_carryAll 59 = .ok (.invokevirtual 213, 3) := by decide +kernel
theorem dX12_carryAll_62 : decode cX12_carryAll 62 = .ok (.iastore, 1) := by decide +kernel
theorem dX12_carryAll_63 : decode cX12_carryAll 63 = .ok (.aload_n 0, 1) := by decide +kernel
theorem dX12_carryAll_64 : decode cX12_carryAll 64 = .ok (.getfield 13, 3) := by decide +kernel
theorem dX12_carryAll_67 : decode cX12_carryAll 67 = .ok (.iload_n 3, 1) := by decide +kernel
theorem dX12_carryAll_68 : decode cX12_carryAll 68 = .ok (.aload_n 0, 1) := by decide +kernel
theorem dX12_carryAll_69 : decode cX12_carryAll 69 = .ok (.aload_n 0, 1) := by decide +kernel
theorem dX12_carryAll_70 : decode cX12_carryAll 70 = .ok (.getfield 13, 3) := by decide +kernel
theorem dX12_carryAll_73 : decode cX12_carryAll 73 = .ok (.iload_n 3, 1) := by decide +kernel
theorem dX12_carryAll_74 : decode cX12_carryAll 74 = .ok (.iaload, 1) := by decide +kernel
theorem dX12_carryAll_75 : decode cX12_carryAll 75 = .ok (.invokevirtual 213, 3) := by decide +kernel
theorem dX12_carryAll_78 : decode cX12_carryAll 78 = .ok (.iastore, 1) := by decide +kernel
theorem dX12_carryAll_79 : decode cX12_carryAll 79 = .ok (.aload_n 0, 1) := by decide +kernel
theorem dX12_carryAll_80 : decode cX12_carryAll 80 = .ok (.getfield 16, 3) := by decide +kernel
theorem dX12_carryAll_83 : decode cX12_carryAll 83 = .ok (.iload_n 3, 1) := by decide +kernel
theorem dX12_carryAll_84 : decode cX12_carryAll 84 = .ok (.aload_n 0, 1) := by decide +kernel
theorem dX12_carryAll_85 : decode cX12_carryAll 85 = .ok (.aload_n 0, 1) := by decide +kernel
theorem dX12_carryAll_86 : decode cX12_carryAll 86 = .ok (.getfield 16, 3) := by decide +kernel
theorem dX12_carryAll_89 : decode cX12_carryAll 89 = .ok (.iload_n 3, 1) := by decide +kernel
theorem dX12_carryAll_90 : decode cX12_carryAll 90 = .ok (.iaload, 1) := by decide +kernel
theorem dX12_carryAll_91 : decode cX12_carryAll 91 = .ok (.invokevirtual 213, 3) := by decide +kernel
theorem dX12_carryAll_94 : decode cX12_carryAll 94 = .ok (.iastore, 1) := by decide +kernel
theorem dX12_carryAll_95 : decode cX12_carryAll 95 = .ok (.aload_n 0, 1) := by decide +kernel
theorem dX12_carryAll_96 : decode cX12_carryAll 96 = .ok (.getfield 19, 3) := by decide +kernel
theorem dX12_carryAll_99 : decode cX12_carryAll 99 = .ok (.iload_n 3, 1) := by decide +kernel
theorem dX12_carryAll_100 : decode cX12_carryAll 100 = .ok (.aload_n 0, 1) := by decide +kernel
theorem dX12_carryAll_101 : decode cX12_carryAll 101 = .ok (.aload_n 0, 1) := by decide +kernel
theorem dX12_carryAll_102 : decode cX12_carryAll 102 = .ok (.getfield 19, 3) := by decide +kernel
theorem dX12_carryAll_105 : decode cX12_carryAll 105 = .ok (.iload_n 3, 1) := by decide +kernel
theorem dX12_carryAll_106 : decode cX12_carryAll 106 = .ok (.iaload, 1) := by decide +kernel
theorem dX12_carryAll_107 : decode cX12_carryAll 107 = .ok (.invokevirtual 213, 3) := by decide +kernel
theorem dX12_carryAll_110 : decode cX12_carryAll 110 = .ok (.iastore, 1) := by decide +kernel
theorem dX12_carryAll_111 : decode cX12_carryAll 111 = .ok (.aload_n 0, 1) := by decide +kernel
theorem dX12_carryAll_112 : decode cX12_carryAll 112 = .ok (.getfield 22, 3) := by decide +kernel
theorem dX12_carryAll_115 : decode cX12_carryAll 115 = .ok (.iload_n 3, 1) := by decide +kernel
theorem dX12_carryAll_116 : decode cX12_carryAll 116 = .ok (.aload_n 0, 1) := by decide +kernel
theorem dX12_carryAll_117 : decode cX12_carryAll 117 = .ok (.aload_n 0, 1) := by decide +kernel
theorem dX12_carryAll_118 : decode cX12_carryAll 118 = .ok (.getfield 22, 3) := by decide +kernel
theorem dX12_carryAll_121 : decode cX12_carryAll 121 = .ok (.iload_n 3, 1) := by decide +kernel
theorem dX12_carryAll_122 : decode cX12_carryAll 122 = .ok (.iaload, 1) := by decide +kernel
theorem dX12_carryAll_123 : decode cX12_carryAll 123 = .ok (.invokevirtual 213, 3) := by decide +kernel
theorem dX12_carryAll_126 : decode cX12_carryAll 126 = .ok (.iastore, 1) := by decide +kernel
theorem dX12_carryAll_127 : decode cX12_carryAll 127 = .ok (.iinc 3 1, 3) := by decide +kernel
theorem dX12_carryAll_130 : decode cX12_carryAll 130 = .ok (.goto (-89), 3) := by decide +kernel
theorem dX12_carryAll_133 : decode cX12_carryAll 133 = .ok (.return_, 1) := by decide +kernel
theorem dX12_open_0 : decode cX12_open 0 = .ok (.aload_n 0, 1) := by decide +kernel
theorem dX12_open_1 : decode cX12_open 1 = .ok (.aload_n 0, 1) := by decide +kernel
theorem dX12_open_2 : decode cX12_open 2 = .ok (.getfield 53, 3) := by decide +kernel
theorem dX12_open_5 : decode cX12_open 5 = .ok (.iconst 1, 1) := by decide +kernel
theorem dX12_open_6 : decode cX12_open 6 = .ok (.invokevirtual 216, 3) := by decide +kernel
theorem dX12_open_9 : decode cX12_open 9 = .ok (.return_, 1) := by decide +kernel
theorem dX12_close_0 : decode cX12_close 0 = .ok (.aload_n 0, 1) := by decide +kernel
theorem dX12_close_1 : decode cX12_close 1 = .ok (.aload_n 0, 1) := by decide +kernel
theorem dX12_close_2 : decode cX12_close 2 = .ok (.getfield 53, 3) := by decide +kernel
theorem dX12_close_5 : decode cX12_close 5 = .ok (.iconst 0, 1) := by decide +kernel
theorem dX12_close_6 : decode cX12_close 6 = .ok (.invokevirtual 216, 3) := by decide +kernel
theorem dX12_close_9 : decode cX12_close 9 = .ok (.return_, 1) := by decide +kernel
theorem dX12_image_0 : decode cX12_image 0 = .ok (.aload_n 0, 1) := by decide +kernel
theorem dX12_image_1 : decode cX12_image 1 = .ok (.iconst 0, 1) := by decide +kernel
theorem dX12_image_2 : decode cX12_image 2 = .ok (.putfield 77, 3) := by decide +kernel
theorem dX12_image_5 : decode cX12_image 5 = .ok (.aload_n 0, 1) := by decide +kernel
theorem dX12_image_6 : decode cX12_image 6 = .ok (.iconst 1, 1) := by decide +kernel
theorem dX12_image_7 : decode cX12_image 7 = .ok (.putfield 220, 3) := by decide +kernel
theorem dX12_image_10 : decode cX12_image 10 = .ok (.aload_n 0, 1) := by decide +kernel
theorem dX12_image_11 : decode cX12_image 11 = .ok (.aload_n 0, 1) := by decide +kernel
theorem dX12_image_12 : decode cX12_image 12 = .ok (.getfield 56, 3) := by decide +kernel
theorem dX12_image_15 : decode cX12_image 15 = .ok (.iconst 1, 1) := by decide +kernel
theorem dX12_image_16 : decode cX12_image 16 = .ok (.invokevirtual 216, 3) := by decide +kernel
theorem dX12_image_19 : decode cX12_image 19 = .ok (.aload_n 0, 1) := by decide +kernel
theorem dX12_image_20 : decode cX12_image 20 = .ok (.getfield 135, 3) := by decide +kernel
theorem dX12_image_23 : decode cX12_image 23 = .ok (.ireturn, 1) := by decide +kernel
theorem dX12_restore_0 : decode cX12_restore 0 = .ok (.aload_n 0, 1) := by decide +kernel
theorem dX12_restore_1 : decode cX12_restore 1 = .ok (.iconst 0, 1) := by decide +kernel
theorem dX12_restore_2 : decode cX12_restore 2 = .ok (.putfield 77, 3) := by decide +kernel
theorem dX12_restore_5 : decode cX12_restore 5 = .ok (.aload_n 0, 1) := by decide +kernel
theorem dX12_restore_6 : decode cX12_restore 6 = .ok (.getfield 220, 3) := by decide +kernel
theorem dX12_restore_9 : decode cX12_restore 9 = .ok (.ifCond .ne 6, 3) := by decide +kernel
theorem dX12_restore_12 : decode cX12_restore 12 = .ok (.bipush (-3), 2) := by decide +kernel
theorem dX12_restore_14 : decode cX12_restore 14 = .ok (.ireturn, 1) := by decide +kernel
theorem dX12_restore_15 : decode cX12_restore 15 = .ok (.aload_n 0, 1) := by decide +kernel
theorem dX12_restore_16 : decode cX12_restore 16 = .ok (.aload_n 0, 1) := by decide +kernel
theorem dX12_restore_17 : decode cX12_restore 17 = .ok (.getfield 56, 3) := by decide +kernel
theorem dX12_restore_20 : decode cX12_restore 20 = .ok (.iconst 0, 1) := by decide +kernel
theorem dX12_restore_21 : decode cX12_restore 21 = .ok (.invokevirtual 216, 3) := by decide +kernel
theorem dX12_restore_24 : decode cX12_restore 24 = .ok (.aload_n 0, 1) := by decide +kernel
theorem dX12_restore_25 : decode cX12_restore 25 = .ok (.getfield 135, 3) := by decide +kernel
theorem dX12_restore_28 : decode cX12_restore 28 = .ok (.ireturn, 1) := by decide +kernel
theorem dX12_child_0 : decode cX12_child 0 = .ok (.aload_n 0, 1) := by decide +kernel
theorem dX12_child_1 : decode cX12_child 1 = .ok (.iconst 0, 1) := by decide +kernel
theorem dX12_child_2 : decode cX12_child 2 = .ok (.putfield 77, 3) := by decide +kernel
theorem dX12_child_5 : decode cX12_child 5 = .ok (.aload_n 0, 1) := by decide +kernel
theorem dX12_child_6 : decode cX12_child 6 = .ok (.iload_n 1, 1) := by decide +kernel
theorem dX12_child_7 : decode cX12_child 7 = .ok (.invokevirtual 99, 3) := by decide +kernel
theorem dX12_child_10 : decode cX12_child 10 = .ok (.ifCond .ne 5, 3) := by decide +kernel
theorem dX12_child_13 : decode cX12_child 13 = .ok (.iconst (-1), 1) := by decide +kernel
theorem dX12_child_14 : decode cX12_child 14 = .ok (.ireturn, 1) := by decide +kernel
theorem dX12_child_15 : decode cX12_child 15 = .ok (.iload_n 2, 1) := by decide +kernel
theorem dX12_child_16 : decode cX12_child 16 = .ok (.tableswitch 136 0 9 #[56, 63, 70, 77, 84, 91, 97, 118, 124, 130], 56) := by decide +kernel
theorem dX12_child_72 : decode cX12_child 72 = .ok (.aload_n 0, 1) := by decide +kernel
theorem dX12_child_73 : decode cX12_child 73 = .ok (.getfield 7, 3) := by decide +kernel
theorem dX12_child_76 : decode cX12_child 76 = .ok (.iload_n 1, 1) := by decide +kernel
theorem dX12_child_77 : decode cX12_child 77 = .ok (.iaload, 1) := by decide +kernel
theorem dX12_child_78 : decode cX12_child 78 = .ok (.ireturn, 1) := by decide +kernel
theorem dX12_child_79 : decode cX12_child 79 = .ok (.aload_n 0, 1) := by decide +kernel
theorem dX12_child_80 : decode cX12_child 80 = .ok (.getfield 13, 3) := by decide +kernel
theorem dX12_child_83 : decode cX12_child 83 = .ok (.iload_n 1, 1) := by decide +kernel
theorem dX12_child_84 : decode cX12_child 84 = .ok (.iaload, 1) := by decide +kernel
theorem dX12_child_85 : decode cX12_child 85 = .ok (.ireturn, 1) := by decide +kernel
theorem dX12_child_86 : decode cX12_child 86 = .ok (.aload_n 0, 1) := by decide +kernel
theorem dX12_child_87 : decode cX12_child 87 = .ok (.getfield 16, 3) := by decide +kernel
theorem dX12_child_90 : decode cX12_child 90 = .ok (.iload_n 1, 1) := by decide +kernel
theorem dX12_child_91 : decode cX12_child 91 = .ok (.iaload, 1) := by decide +kernel
theorem dX12_child_92 : decode cX12_child 92 = .ok (.ireturn, 1) := by decide +kernel
theorem dX12_child_93 : decode cX12_child 93 = .ok (.aload_n 0, 1) := by decide +kernel
theorem dX12_child_94 : decode cX12_child 94 = .ok (.getfield 19, 3) := by decide +kernel
theorem dX12_child_97 : decode cX12_child 97 = .ok (.iload_n 1, 1) := by decide +kernel
theorem dX12_child_98 : decode cX12_child 98 = .ok (.iaload, 1) := by decide +kernel
theorem dX12_child_99 : decode cX12_child 99 = .ok (.ireturn, 1) := by decide +kernel
theorem dX12_child_100 : decode cX12_child 100 = .ok (.aload_n 0, 1) := by decide +kernel
theorem dX12_child_101 : decode cX12_child 101 = .ok (.getfield 22, 3) := by decide +kernel
theorem dX12_child_104 : decode cX12_child 104 = .ok (.iload_n 1, 1) := by decide +kernel
theorem dX12_child_105 : decode cX12_child 105 = .ok (.iaload, 1) := by decide +kernel
theorem dX12_child_106 : decode cX12_child 106 = .ok (.ireturn, 1) := by decide +kernel
theorem dX12_child_107 : decode cX12_child 107 = .ok (.aload_n 0, 1) := by decide +kernel
theorem dX12_child_108 : decode cX12_child 108 = .ok (.iload_n 1, 1) := by decide +kernel
theorem dX12_child_109 : decode cX12_child 109 = .ok (.invokevirtual 122, 3) := by decide +kernel
theorem dX12_child_112 : decode cX12_child 112 = .ok (.ireturn, 1) := by decide +kernel
theorem dX12_child_113 : decode cX12_child 113 = .ok (.aload_n 0, 1) := by decide +kernel
theorem dX12_child_114 : decode cX12_child 114 = .ok (.getfield 19, 3) := by decide +kernel
theorem dX12_child_117 : decode cX12_child 117 = .ok (.iload_n 1, 1) := by decide +kernel
theorem dX12_child_118 : decode cX12_child 118 = .ok (.iaload, 1) := by decide +kernel
theorem dX12_child_119 : decode cX12_child 119 = .ok (.bipush 7, 2) := by decide +kernel
theorem dX12_child_121 : decode cX12_child 121 = .ok (.if_icmp .ne 7, 3) := by decide +kernel
theorem dX12_child_124 : decode cX12_child 124 = .ok (.iconst 0, 1) := by decide +kernel
theorem dX12_child_125 : decode cX12_child 125 = .ok (.goto 8, 3) := by decide +kernel
theorem dX12_child_128 : decode cX12_child 128 = .ok (.aload_n 0, 1) := by decide +kernel
theorem dX12_child_129 : decode cX12_child 129 = .ok (.iload_n 1, 1) := by decide +kernel
theorem dX12_child_130 : decode cX12_child 130 = .ok (.invokevirtual 95, 3) := by decide +kernel
theorem dX12_child_133 : decode cX12_child 133 = .ok (.ireturn, 1) := by decide +kernel
theorem dX12_child_134 : decode cX12_child 134 = .ok (.aload_n 0, 1) := by decide +kernel
theorem dX12_child_135 : decode cX12_child 135 = .ok (.iload_n 1, 1) := by decide +kernel
theorem dX12_child_136 : decode cX12_child 136 = .ok (.invokevirtual 116, 3) := by decide +kernel
theorem dX12_child_139 : decode cX12_child 139 = .ok (.ireturn, 1) := by decide +kernel
theorem dX12_child_140 : decode cX12_child 140 = .ok (.aload_n 0, 1) := by decide +kernel
theorem dX12_child_141 : decode cX12_child 141 = .ok (.iload_n 1, 1) := by decide +kernel
theorem dX12_child_142 : decode cX12_child 142 = .ok (.invokevirtual 119, 3) := by decide +kernel
theorem dX12_child_145 : decode cX12_child 145 = .ok (.ireturn, 1) := by decide +kernel
theorem dX12_child_146 : decode cX12_child 146 = .ok (.aload_n 0, 1) := by decide +kernel
theorem dX12_child_147 : decode cX12_child 147 = .ok (.iload_n 1, 1) := by decide +kernel
theorem dX12_child_148 : decode cX12_child 148 = .ok (.invokevirtual 106, 3) := by decide +kernel
theorem dX12_child_151 : decode cX12_child 151 = .ok (.ireturn, 1) := by decide +kernel
theorem dX12_child_152 : decode cX12_child 152 = .ok (.iconst (-1), 1) := by decide +kernel
theorem dX12_child_153 : decode cX12_child 153 = .ok (.ireturn, 1) := by decide +kernel
theorem dX12_wrongKept_0 : decode cX12_wrongKept 0 = .ok (.iload_n 1, 1) := by decide +kernel
theorem dX12_wrongKept_1 : decode cX12_wrongKept 1 = .ok (.i2l, 1) := by decide +kernel
theorem dX12_wrongKept_2 : decode cX12_wrongKept 2 = .ok (.lconst 0, 1) := by decide +kernel
theorem dX12_wrongKept_3 : decode cX12_wrongKept 3 = .ok (.ldc2_w 223, 3) := by decide +kernel
theorem dX12_wrongKept_6 : decode cX12_wrongKept 6 = .ok (.invokestatic 84, 3) := by decide +kernel
theorem dX12_wrongKept_9 : decode cX12_wrongKept 9 = .ok (.ifCond .ne 7, 3) := by decide +kernel
theorem dX12_wrongKept_12 : decode cX12_wrongKept 12 = .ok (.iconst (-1), 1) := by decide +kernel
theorem dX12_wrongKept_13 : decode cX12_wrongKept 13 = .ok (.goto 33, 3) := by decide +kernel
theorem dX12_wrongKept_16 : decode cX12_wrongKept 16 = .ok (.aload_n 0, 1) := by decide +kernel
theorem dX12_wrongKept_17 : decode cX12_wrongKept 17 = .ok (.getfield 25, 3) := by decide +kernel
theorem dX12_wrongKept_20 : decode cX12_wrongKept 20 = .ok (.iload_n 1, 1) := by decide +kernel
theorem dX12_wrongKept_21 : decode cX12_wrongKept 21 = .ok (.iaload, 1) := by decide +kernel
theorem dX12_wrongKept_22 : decode cX12_wrongKept 22 = .ok (.ifCond .ne 8, 3) := by decide +kernel
theorem dX12_wrongKept_25 : decode cX12_wrongKept 25 = .ok (.bipush (-11), 2) := by decide +kernel
theorem dX12_wrongKept_27 : decode cX12_wrongKept 27 = .ok (.goto 19, 3) := by decide +kernel
theorem dX12_wrongKept_30 : decode cX12_wrongKept 30 = .ok (.aload_n 0, 1) := by decide +kernel
theorem dX12_wrongKept_31 : decode cX12_wrongKept 31 = .ok (.getfield 25, 3) := by decide +kernel
theorem dX12_wrongKept_34 : decode cX12_wrongKept 34 = .ok (.iload_n 1, 1) := by decide +kernel
theorem dX12_wrongKept_35 : decode cX12_wrongKept 35 = .ok (.iaload, 1) := by decide +kernel
theorem dX12_wrongKept_36 : decode cX12_wrongKept 36 = .ok (.iconst 1, 1) := by decide +kernel
theorem dX12_wrongKept_37 : decode cX12_wrongKept 37 = .ok (.if_icmp .eq 8, 3) := by decide +kernel
theorem dX12_wrongKept_40 : decode cX12_wrongKept 40 = .ok (.bipush (-12), 2) := by decide +kernel
theorem dX12_wrongKept_42 : decode cX12_wrongKept 42 = .ok (.goto 4, 3) := by decide +kernel
theorem dX12_wrongKept_45 : decode cX12_wrongKept 45 = .ok (.iconst 0, 1) := by decide +kernel
theorem dX12_wrongKept_46 : decode cX12_wrongKept 46 = .ok (.ireturn, 1) := by decide +kernel
theorem dX12_comes_0 : decode cX12_comes 0 = .ok (.aload_n 0, 1) := by decide +kernel
theorem dX12_comes_1 : decode cX12_comes 1 = .ok (.iconst 0, 1) := by decide +kernel
theorem dX12_comes_2 : decode cX12_comes 2 = .ok (.putfield 77, 3) := by decide +kernel
theorem dX12_comes_5 : decode cX12_comes 5 = .ok (.iload_n 2, 1) := by decide +kernel
theorem dX12_comes_6 : decode cX12_comes 6 = .ok (.i2l, 1) := by decide +kernel
theorem dX12_comes_7 : decode cX12_comes 7 = .ok (.lconst 0, 1) := by decide +kernel
theorem dX12_comes_8 : decode cX12_comes 8 = .ok (.ldc2_w 225, 3) := by decide +kernel
theorem dX12_comes_11 : decode cX12_comes 11 = .ok (.invokestatic 84, 3) := by decide +kernel
theorem dX12_comes_14 : decode cX12_comes 14 = .ok (.ifCond .eq 11, 3) := by decide +kernel
theorem dX12_comes_17 : decode cX12_comes 17 = .ok (.aload_n 0, 1) := by decide +kernel
theorem dX12_comes_18 : decode cX12_comes 18 = .ok (.iload_n 1, 1) := by decide +kernel
theorem dX12_comes_19 : decode cX12_comes 19 = .ok (.invokevirtual 227, 3) := by decide +kernel
theorem dX12_comes_22 : decode cX12_comes 22 = .ok (.goto 4, 3) := by decide +kernel
theorem dX12_comes_25 : decode cX12_comes 25 = .ok (.iconst (-1), 1) := by decide +kernel
theorem dX12_comes_26 : decode cX12_comes 26 = .ok (.istore_n 3, 1) := by decide +kernel
theorem dX12_comes_27 : decode cX12_comes 27 = .ok (.iload_n 3, 1) := by decide +kernel
theorem dX12_comes_28 : decode cX12_comes 28 = .ok (.ifCond .ge 5, 3) := by decide +kernel
theorem dX12_comes_31 : decode cX12_comes 31 = .ok (.iload_n 3, 1) := by decide +kernel
theorem dX12_comes_32 : decode cX12_comes 32 = .ok (.ireturn, 1) := by decide +kernel
theorem dX12_comes_33 : decode cX12_comes 33 = .ok (.aload_n 0, 1) := by decide +kernel
theorem dX12_comes_34 : decode cX12_comes 34 = .ok (.aload_n 0, 1) := by decide +kernel
theorem dX12_comes_35 : decode cX12_comes 35 = .ok (.getfield 28, 3) := by decide +kernel
theorem dX12_comes_38 : decode cX12_comes 38 = .ok (.iload_n 1, 1) := by decide +kernel
theorem dX12_comes_39 : decode cX12_comes 39 = .ok (.iaload, 1) := by decide +kernel
theorem dX12_comes_40 : decode cX12_comes 40 = .ok (.aload_n 0, 1) := by decide +kernel
theorem dX12_comes_41 : decode cX12_comes 41 = .ok (.getfield 31, 3) := by decide +kernel
theorem dX12_comes_44 : decode cX12_comes 44 = .ok (.iload_n 1, 1) := by decide +kernel
theorem dX12_comes_45 : decode cX12_comes 45 = .ok (.iaload, 1) := by decide +kernel
theorem dX12_comes_46 : decode cX12_comes 46 = .ok (.iload_n 2, 1) := by decide +kernel
theorem dX12_comes_47 : decode cX12_comes 47 = .ok (.invokevirtual 175, 3) := by decide +kernel
theorem dX12_comes_50 : decode cX12_comes 50 = .ok (.ifCond .eq 12, 3) := by decide +kernel
theorem dX12_comes_53 : decode cX12_comes 53 = .ok (.aload_n 0, 1) := by decide +kernel
theorem dX12_comes_54 : decode cX12_comes 54 = .ok (.getfield 81, 3) := by decide +kernel
theorem dX12_comes_57 : decode cX12_comes 57 = .ok (.iconst 1, 1) := by decide +kernel
theorem dX12_comes_58 : decode cX12_comes 58 = .ok (.isub, 1) := by decide +kernel
theorem dX12_comes_59 : decode cX12_comes 59 = .ok (.goto 5, 3) := by decide +kernel
theorem dX12_comes_62 : decode cX12_comes 62 = .ok (.bipush (-2), 2) := by decide +kernel
theorem dX12_comes_64 : decode cX12_comes 64 = .ok (.ireturn, 1) := by decide +kernel
theorem dX12_feels_0 : decode cX12_feels 0 = .ok (.aload_n 0, 1) := by decide +kernel
theorem dX12_feels_1 : decode cX12_feels 1 = .ok (.iconst 0, 1) := by decide +kernel
theorem dX12_feels_2 : decode cX12_feels 2 = .ok (.putfield 77, 3) := by decide +kernel
theorem dX12_feels_5 : decode cX12_feels 5 = .ok (.aload_n 0, 1) := by decide +kernel
theorem dX12_feels_6 : decode cX12_feels 6 = .ok (.iload_n 1, 1) := by decide +kernel
theorem dX12_feels_7 : decode cX12_feels 7 = .ok (.invokevirtual 99, 3) := by decide +kernel
theorem dX12_feels_10 : decode cX12_feels 10 = .ok (.ifCond .eq 35, 3) := by decide +kernel
theorem dX12_feels_13 : decode cX12_feels 13 = .ok (.iload_n 2, 1) := by decide +kernel
theorem dX12_feels_14 : decode cX12_feels 14 = .ok (.i2l, 1) := by decide +kernel
theorem dX12_feels_15 : decode cX12_feels 15 = .ok (.lconst 0, 1) := by decide +kernel
theorem dX12_feels_16 : decode cX12_feels 16 = .ok (.lconst 1, 1) := by decide +kernel
theorem dX12_feels_17 : decode cX12_feels 17 = .ok (.invokestatic 84, 3) := by decide +kernel
theorem dX12_feels_20 : decode cX12_feels 20 = .ok (.ifCond .eq 25, 3) := by decide +kernel
theorem dX12_feels_23 : decode cX12_feels 23 = .ok (.iload_n 3, 1) := by decide +kernel
theorem dX12_feels_24 : decode cX12_feels 24 = .ok (.i2l, 1) := by decide +kernel
theorem dX12_feels_25 : decode cX12_feels 25 = .ok (.lconst 0, 1) := by decide +kernel
theorem dX12_feels_26 : decode cX12_feels 26 = .ok (.iload_n 2, 1) := by decide +kernel
theorem dX12_feels_27 : decode cX12_feels 27 = .ok (.ifCond .ne 9, 3) := by decide +kernel
theorem dX12_feels_30 : decode cX12_feels 30 = .ok (.ldc2_w 225, 3) := by decide +kernel
theorem dX12_feels_33 : decode cX12_feels 33 = .ok (.goto 6, 3) := by decide +kernel
theorem dX12_feels_36 : decode cX12_feels 36 = .ok (.ldc2_w 223, 3) := by decide +kernel
theorem dX12_feels_39 : decode cX12_feels 39 = .ok (.invokestatic 84, 3) := by decide +kernel
theorem dX12_feels_42 : decode cX12_feels 42 = .ok (.ifCond .ne 5, 3) := by decide +kernel
theorem dX12_feels_45 : decode cX12_feels 45 = .ok (.iconst (-1), 1) := by decide +kernel
theorem dX12_feels_46 : decode cX12_feels 46 = .ok (.ireturn, 1) := by decide +kernel
theorem dX12_feels_47 : decode cX12_feels 47 = .ok (.iload_n 2, 1) := by decide +kernel
theorem dX12_feels_48 : decode cX12_feels 48 = .ok (.ifCond .ne 12, 3) := by decide +kernel
theorem dX12_feels_51 : decode cX12_feels 51 = .ok (.aload_n 0, 1) := by decide +kernel
theorem dX12_feels_52 : decode cX12_feels 52 = .ok (.getfield 16, 3) := by decide +kernel
theorem dX12_feels_55 : decode cX12_feels 55 = .ok (.iload_n 1, 1) := by decide +kernel
theorem dX12_feels_56 : decode cX12_feels 56 = .ok (.iaload, 1) := by decide +kernel
theorem dX12_feels_57 : decode cX12_feels 57 = .ok (.goto 9, 3) := by decide +kernel
theorem dX12_feels_60 : decode cX12_feels 60 = .ok (.aload_n 0, 1) := by decide +kernel
theorem dX12_feels_61 : decode cX12_feels 61 = .ok (.getfield 19, 3) := by decide +kernel
theorem dX12_feels_64 : decode cX12_feels 64 = .ok (.iload_n 1, 1) := by decide +kernel
theorem dX12_feels_65 : decode cX12_feels 65 = .ok (.iaload, 1) := by decide +kernel
theorem dX12_feels_66 : decode cX12_feels 66 = .ok (.istore 4, 2) := by decide +kernel
theorem dX12_feels_68 : decode cX12_feels 68 = .ok (.iload_n 2, 1) := by decide +kernel
theorem dX12_feels_69 : decode cX12_feels 69 = .ok (.ifCond .ne 13, 3) := by decide +kernel
theorem dX12_feels_72 : decode cX12_feels 72 = .ok (.aload_n 0, 1) := by decide +kernel
theorem dX12_feels_73 : decode cX12_feels 73 = .ok (.getfield 16, 3) := by decide +kernel
theorem dX12_feels_76 : decode cX12_feels 76 = .ok (.iload_n 1, 1) := by decide +kernel
theorem dX12_feels_77 : decode cX12_feels 77 = .ok (.iload_n 3, 1) := by decide +kernel
theorem dX12_feels_78 : decode cX12_feels 78 = .ok (.iastore, 1) := by decide +kernel
theorem dX12_feels_79 : decode cX12_feels 79 = .ok (.goto 10, 3) := by decide +kernel
theorem dX12_feels_82 : decode cX12_feels 82 = .ok (.aload_n 0, 1) := by decide +kernel
theorem dX12_feels_83 : decode cX12_feels 83 = .ok (.getfield 19, 3) := by decide +kernel
theorem dX12_feels_86 : decode cX12_feels 86 = .ok (.iload_n 1, 1) := by decide +kernel
theorem dX12_feels_87 : decode cX12_feels 87 = .ok (.iload_n 3, 1) := by decide +kernel
theorem dX12_feels_88 : decode cX12_feels 88 = .ok (.iastore, 1) := by decide +kernel
theorem dX12_feels_89 : decode cX12_feels 89 = .ok (.iload 4, 2) := by decide +kernel
theorem dX12_feels_91 : decode cX12_feels 91 = .ok (.ireturn, 1) := by decide +kernel
theorem dX12_minute_0 : decode cX12_minute 0 = .ok (.aload_n 0, 1) := by decide +kernel
theorem dX12_minute_1 : decode cX12_minute 1 = .ok (.iconst 0, 1) := by decide +kernel
theorem dX12_minute_2 : decode cX12_minute 2 = .ok (.putfield 77, 3) := by decide +kernel
theorem dX12_minute_5 : decode cX12_minute 5 = .ok (.aload_n 0, 1) := by decide +kernel
theorem dX12_minute_6 : decode cX12_minute 6 = .ok (.iload_n 1, 1) := by decide +kernel
theorem dX12_minute_7 : decode cX12_minute 7 = .ok (.invokevirtual 99, 3) := by decide +kernel
theorem dX12_minute_10 : decode cX12_minute 10 = .ok (.ifCond .eq 15, 3) := by decide +kernel
theorem dX12_minute_13 : decode cX12_minute 13 = .ok (.iload_n 2, 1) := by decide +kernel
theorem dX12_minute_14 : decode cX12_minute 14 = .ok (.i2l, 1) := by decide +kernel
theorem dX12_minute_15 : decode cX12_minute 15 = .ok (.lconst 0, 1) := by decide +kernel
theorem dX12_minute_16 : decode cX12_minute 16 = .ok (.ldc2_w 230, 3) := by decide +kernel
theorem dX12_minute_19 : decode cX12_minute 19 = .ok (.invokestatic 84, 3) := by decide +kernel
theorem dX12_minute_22 : decode cX12_minute 22 = .ok (.ifCond .ne 5, 3) := by decide +kernel
theorem dX12_minute_25 : decode cX12_minute 25 = .ok (.iconst (-1), 1) := by decide +kernel
theorem dX12_minute_26 : decode cX12_minute 26 = .ok (.ireturn, 1) := by decide +kernel
theorem dX12_minute_27 : decode cX12_minute 27 = .ok (.aload_n 0, 1) := by decide +kernel
theorem dX12_minute_28 : decode cX12_minute 28 = .ok (.iload_n 1, 1) := by decide +kernel
theorem dX12_minute_29 : decode cX12_minute 29 = .ok (.iload_n 2, 1) := by decide +kernel
theorem dX12_minute_30 : decode cX12_minute 30 = .ok (.invokevirtual 179, 3) := by decide +kernel
theorem dX12_minute_33 : decode cX12_minute 33 = .ok (.ifCond .eq 12, 3) := by decide +kernel
theorem dX12_minute_36 : decode cX12_minute 36 = .ok (.aload_n 0, 1) := by decide +kernel
theorem dX12_minute_37 : decode cX12_minute 37 = .ok (.getfield 16, 3) := by decide +kernel
theorem dX12_minute_40 : decode cX12_minute 40 = .ok (.iload_n 1, 1) := by decide +kernel
theorem dX12_minute_41 : decode cX12_minute 41 = .ok (.iaload, 1) := by decide +kernel
theorem dX12_minute_42 : decode cX12_minute 42 = .ok (.goto 5, 3) := by decide +kernel
theorem dX12_minute_45 : decode cX12_minute 45 = .ok (.bipush (-3), 2) := by decide +kernel
theorem dX12_minute_47 : decode cX12_minute 47 = .ok (.ireturn, 1) := by decide +kernel
theorem dX12_change_0 : decode cX12_change 0 = .ok (.aload_n 0, 1) := by decide +kernel
theorem dX12_change_1 : decode cX12_change 1 = .ok (.iconst 0, 1) := by decide +kernel
theorem dX12_change_2 : decode cX12_change 2 = .ok (.putfield 77, 3) := by decide +kernel
theorem dX12_change_5 : decode cX12_change 5 = .ok (.aload_n 0, 1) := by decide +kernel
theorem dX12_change_6 : decode cX12_change 6 = .ok (.iload_n 1, 1) := by decide +kernel
theorem dX12_change_7 : decode cX12_change 7 = .ok (.invokevirtual 99, 3) := by decide +kernel
theorem dX12_change_10 : decode cX12_change 10 = .ok (.ifCond .eq 16, 3) := by decide +kernel
theorem dX12_change_13 : decode cX12_change 13 = .ok (.aload_n 0, 1) := by decide +kernel
theorem dX12_change_14 : decode cX12_change 14 = .ok (.iload_n 2, 1) := by decide +kernel
theorem dX12_change_15 : decode cX12_change 15 = .ok (.invokevirtual 99, 3) := by decide +kernel
theorem dX12_change_18 : decode cX12_change 18 = .ok (.ifCond .eq 8, 3) := by decide +kernel
theorem dX12_change_21 : decode cX12_change 21 = .ok (.iload_n 1, 1) := by decide +kernel
theorem dX12_change_22 : decode cX12_change 22 = .ok (.iload_n 2, 1) := by decide +kernel
theorem dX12_change_23 : decode cX12_change 23 = .ok (.if_icmp .ne 5, 3) := by decide +kernel
theorem dX12_change_26 : decode cX12_change 26 = .ok (.iconst (-1), 1) := by decide +kernel
theorem dX12_change_27 : decode cX12_change 27 = .ok (.ireturn, 1) := by decide +kernel
theorem dX12_change_28 : decode cX12_change 28 = .ok (.aload_n 0, 1) := by decide +kernel
theorem dX12_change_29 : decode cX12_change 29 = .ok (.iload_n 1, 1) := by decide +kernel
theorem dX12_change_30 : decode cX12_change 30 = .ok (.iload_n 2, 1) := by decide +kernel
theorem dX12_change_31 : decode cX12_change 31 = .ok (.invokevirtual 186, 3) := by decide +kernel
theorem dX12_change_34 : decode cX12_change 34 = .ok (.iconst 1, 1) := by decide +kernel
theorem dX12_change_35 : decode cX12_change 35 = .ok (.ireturn, 1) := by decide +kernel
theorem dX12_rest_0 : decode cX12_rest 0 = .ok (.aload_n 0, 1) := by decide +kernel
theorem dX12_rest_1 : decode cX12_rest 1 = .ok (.iconst 0, 1) := by decide +kernel
theorem dX12_rest_2 : decode cX12_rest 2 = .ok (.putfield 77, 3) := by decide +kernel
theorem dX12_rest_5 : decode cX12_rest 5 = .ok (.iload_n 1, 1) := by decide +kernel
theorem dX12_rest_6 : decode cX12_rest 6 = .ok (.i2l, 1) := by decide +kernel
theorem dX12_rest_7 : decode cX12_rest 7 = .ok (.lconst 0, 1) := by decide +kernel
theorem dX12_rest_8 : decode cX12_rest 8 = .ok (.ldc2_w 232, 3) := by decide +kernel
theorem dX12_rest_11 : decode cX12_rest 11 = .ok (.invokestatic 84, 3) := by decide +kernel
theorem dX12_rest_14 : decode cX12_rest 14 = .ok (.ifCond .ne 5, 3) := by decide +kernel
theorem dX12_rest_17 : decode cX12_rest 17 = .ok (.iconst (-1), 1) := by decide +kernel
theorem dX12_rest_18 : decode cX12_rest 18 = .ok (.ireturn, 1) := by decide +kernel
theorem dX12_rest_19 : decode cX12_rest 19 = .ok (.aload_n 0, 1) := by decide +kernel
theorem dX12_rest_20 : decode cX12_rest 20 = .ok (.iload_n 1, 1) := by decide +kernel
theorem dX12_rest_21 : decode cX12_rest 21 = .ok (.invokevirtual 183, 3) := by decide +kernel
theorem dX12_rest_24 : decode cX12_rest 24 = .ok (.aload_n 0, 1) := by decide +kernel
theorem dX12_rest_25 : decode cX12_rest 25 = .ok (.invokevirtual 234, 3) := by decide +kernel
theorem dX12_rest_28 : decode cX12_rest 28 = .ok (.ireturn, 1) := by decide +kernel
theorem dX12_readyBits_0 : decode cX12_readyBits 0 = .ok (.iconst 0, 1) := by decide +kernel
theorem dX12_readyBits_1 : decode cX12_readyBits 1 = .ok (.istore_n 1, 1) := by decide +kernel
theorem dX12_readyBits_2 : decode cX12_readyBits 2 = .ok (.iconst 0, 1) := by decide +kernel
theorem dX12_readyBits_3 : decode cX12_readyBits 3 = .ok (.istore_n 2, 1) := by decide +kernel
theorem dX12_readyBits_4 : decode cX12_readyBits 4 = .ok (.iload_n 2, 1) := by decide +kernel
theorem dX12_readyBits_5 : decode cX12_readyBits 5 = .ok (.aload_n 0, 1) := by decide +kernel
theorem dX12_readyBits_6 : decode cX12_readyBits 6 = .ok (.getfield 81, 3) := by decide +kernel
theorem dX12_readyBits_9 : decode cX12_readyBits 9 = .ok (.if_icmp .ge 27, 3) := by decide +kernel
theorem dX12_readyBits_12 : decode cX12_readyBits 12 = .ok (.iload_n 1, 1) := by decide +kernel
theorem dX12_readyBits_13 : decode cX12_readyBits 13 = .ok (.aload_n 0, 1) := by decide +kernel
theorem dX12_readyBits_14 : decode cX12_readyBits 14 = .ok (.iload_n 2, 1) := by decide +kernel
theorem dX12_readyBits_15 : decode cX12_readyBits 15 = .ok (.invokevirtual 109, 3) := by decide +kernel
theorem dX12_readyBits_18 : decode cX12_readyBits 18 = .ok (.ifCond .eq 9, 3) := by decide +kernel
theorem dX12_readyBits_21 : decode cX12_readyBits 21 = .ok (.iconst 1, 1) := by decide +kernel
theorem dX12_readyBits_22 : decode cX12_readyBits 22 = .ok (.iload_n 2, 1) := by decide +kernel
theorem dX12_readyBits_23 : decode cX12_readyBits 23 = .ok (.ishl, 1) := by decide +kernel
theorem dX12_readyBits_24 : decode cX12_readyBits 24 = .ok (.goto 4, 3) := by decide +kernel
theorem dX12_readyBits_27 : decode cX12_readyBits 27 = .ok (.iconst 0, 1) := by decide +kernel
theorem dX12_readyBits_28 : decode cX12_readyBits 28 = .ok (.ior, 1) := by decide +kernel
theorem dX12_readyBits_29 : decode cX12_readyBits 29 = .ok (.istore_n 1, 1) := by decide +kernel
theorem dX12_readyBits_30 : decode cX12_readyBits 30 = .ok (.iinc 2 1, 3) := by decide +kernel
theorem dX12_readyBits_33 : decode cX12_readyBits 33 = .ok (.goto (-29), 3) := by decide +kernel
theorem dX12_readyBits_36 : decode cX12_readyBits 36 = .ok (.iload_n 1, 1) := by decide +kernel
theorem dX12_readyBits_37 : decode cX12_readyBits 37 = .ok (.ireturn, 1) := by decide +kernel
theorem dX12_ready_0 : decode cX12_ready 0 = .ok (.aload_n 0, 1) := by decide +kernel
theorem dX12_ready_1 : decode cX12_ready 1 = .ok (.iconst 0, 1) := by decide +kernel
theorem dX12_ready_2 : decode cX12_ready 2 = .ok (.putfield 77, 3) := by decide +kernel
theorem dX12_ready_5 : decode cX12_ready 5 = .ok (.aload_n 0, 1) := by decide +kernel
theorem dX12_ready_6 : decode cX12_ready 6 = .ok (.invokevirtual 237, 3) := by decide +kernel
theorem dX12_ready_9 : decode cX12_ready 9 = .ok (.ireturn, 1) := by decide +kernel
theorem dX12_behindWay_0 : decode cX12_behindWay 0 = .ok (.iload_n 2, 1) := by decide +kernel
theorem dX12_behindWay_1 : decode cX12_behindWay 1 = .ok (.bipush 21, 2) := by decide +kernel
theorem dX12_behindWay_3 : decode cX12_behindWay 3 = .ok (.idiv, 1) := by decide +kernel
theorem dX12_behindWay_4 : decode cX12_behindWay 4 = .ok (.istore 4, 2) := by decide +kernel
theorem dX12_behindWay_6 : decode cX12_behindWay 6 = .ok (.iload_n 2, 1) := by decide +kernel
theorem dX12_behindWay_7 : decode cX12_behindWay 7 = .ok (.bipush 21, 2) := by decide +kernel
theorem dX12_behindWay_9 : decode cX12_behindWay 9 = .ok (.irem, 1) := by decide +kernel
theorem dX12_behindWay_10 : decode cX12_behindWay 10 = .ok (.istore 5, 2) := by decide +kernel
theorem dX12_behindWay_12 : decode cX12_behindWay 12 = .ok (.iload_n 3, 1) := by decide +kernel
theorem dX12_behindWay_13 : decode cX12_behindWay 13 = .ok (.ifCond .ne 21, 3) := by decide +kernel
theorem dX12_behindWay_16 : decode cX12_behindWay 16 = .ok (.iload 5, 2) := by decide +kernel
theorem dX12_behindWay_18 : decode cX12_behindWay 18 = .ok (.aload_n 0, 1) := by decide +kernel
theorem dX12_behindWay_19 : decode cX12_behindWay 19 = .ok (.iload_n 1, 1) := by decide +kernel
theorem dX12_behindWay_20 : decode cX12_behindWay 20 = .ok (.invokevirtual 122, 3) := by decide +kernel
theorem dX12_behindWay_23 : decode cX12_behindWay 23 = .ok (.iadd, 1) := by decide +kernel
theorem dX12_behindWay_24 : decode cX12_behindWay 24 = .ok (.bipush 20, 2) := by decide +kernel
theorem dX12_behindWay_26 : decode cX12_behindWay 26 = .ok (.invokestatic 103, 3) := by decide +kernel
theorem dX12_behindWay_29 : decode cX12_behindWay 29 = .ok (.istore 5, 2) := by decide +kernel
theorem dX12_behindWay_31 : decode cX12_behindWay 31 = .ok (.goto 87, 3) := by decide +kernel
theorem dX12_behindWay_34 : decode cX12_behindWay 34 = .ok (.iload_n 3, 1) := by decide +kernel
theorem dX12_behindWay_35 : decode cX12_behindWay 35 = .ok (.iconst 1, 1) := by decide +kernel
theorem dX12_behindWay_36 : decode cX12_behindWay 36 = .ok (.if_icmp .ne 49, 3) := by decide +kernel
theorem dX12_behindWay_39 : decode cX12_behindWay 39 = .ok (.iload 5, 2) := by decide +kernel
theorem dX12_behindWay_41 : decode cX12_behindWay 41 = .ok (.aload_n 0, 1) := by decide +kernel
theorem dX12_behindWay_42 : decode cX12_behindWay 42 = .ok (.iload_n 1, 1) := by decide +kernel
theorem dX12_behindWay_43 : decode cX12_behindWay 43 = .ok (.invokevirtual 122, 3) := by decide +kernel
theorem dX12_behindWay_46 : decode cX12_behindWay 46 = .ok (.iconst 2, 1) := by decide +kernel
theorem dX12_behindWay_47 : decode cX12_behindWay 47 = .ok (.idiv, 1) := by decide +kernel
theorem dX12_behindWay_48 : decode cX12_behindWay 48 = .ok (.iadd, 1) := by decide +kernel
theorem dX12_behindWay_49 : decode cX12_behindWay 49 = .ok (.iconst 1, 1) := by decide +kernel
theorem dX12_behindWay_50 : decode cX12_behindWay 50 = .ok (.iadd, 1) := by decide +kernel
theorem dX12_behindWay_51 : decode cX12_behindWay 51 = .ok (.bipush 20, 2) := by decide +kernel
theorem dX12_behindWay_53 : decode cX12_behindWay 53 = .ok (.invokestatic 103, 3) := by decide +kernel
theorem dX12_behindWay_56 : decode cX12_behindWay 56 = .ok (.istore 5, 2) := by decide +kernel
theorem dX12_behindWay_58 : decode cX12_behindWay 58 = .ok (.iload 4, 2) := by decide +kernel
theorem dX12_behindWay_60 : decode cX12_behindWay 60 = .ok (.iload 5, 2) := by decide +kernel
theorem dX12_behindWay_62 : decode cX12_behindWay 62 = .ok (.aload_n 0, 1) := by decide +kernel
theorem dX12_behindWay_63 : decode cX12_behindWay 63 = .ok (.iload_n 1, 1) := by decide +kernel
theorem dX12_behindWay_64 : decode cX12_behindWay 64 = .ok (.iload 4, 2) := by decide +kernel
theorem dX12_behindWay_66 : decode cX12_behindWay 66 = .ok (.invokevirtual 92, 3) := by decide +kernel
theorem dX12_behindWay_69 : decode cX12_behindWay 69 = .ok (.iconst 3, 1) := by decide +kernel
theorem dX12_behindWay_70 : decode cX12_behindWay 70 = .ok (.iadd, 1) := by decide +kernel
theorem dX12_behindWay_71 : decode cX12_behindWay 71 = .ok (.if_icmp .lt 7, 3) := by decide +kernel
theorem dX12_behindWay_74 : decode cX12_behindWay 74 = .ok (.iconst 1, 1) := by decide +kernel
theorem dX12_behindWay_75 : decode cX12_behindWay 75 = .ok (.goto 4, 3) := by decide +kernel
theorem dX12_behindWay_78 : decode cX12_behindWay 78 = .ok (.iconst 0, 1) := by decide +kernel
theorem dX12_behindWay_79 : decode cX12_behindWay 79 = .ok (.iadd, 1) := by decide +kernel
theorem dX12_behindWay_80 : decode cX12_behindWay 80 = .ok (.istore 4, 2) := by decide +kernel
theorem dX12_behindWay_82 : decode cX12_behindWay 82 = .ok (.goto 36, 3) := by decide +kernel
theorem dX12_behindWay_85 : decode cX12_behindWay 85 = .ok (.iload 5, 2) := by decide +kernel
theorem dX12_behindWay_87 : decode cX12_behindWay 87 = .ok (.aload_n 0, 1) := by decide +kernel
theorem dX12_behindWay_88 : decode cX12_behindWay 88 = .ok (.iload_n 1, 1) := by decide +kernel
theorem dX12_behindWay_89 : decode cX12_behindWay 89 = .ok (.iload 4, 2) := by decide +kernel
theorem dX12_behindWay_91 : decode cX12_behindWay 91 = .ok (.invokevirtual 92, 3) := by decide +kernel
theorem dX12_behindWay_94 : decode cX12_behindWay 94 = .ok (.if_icmp .lt 9, 3) := by decide +kernel
theorem dX12_behindWay_97 : decode cX12_behindWay 97 = .ok (.iinc 4 1, 3) := by decide +kernel
theorem dX12_behindWay_100 : decode cX12_behindWay 100 = .ok (.goto 18, 3) := by decide +kernel
theorem dX12_behindWay_103 : decode cX12_behindWay 103 = .ok (.iload 5, 2) := by decide +kernel
theorem dX12_behindWay_105 : decode cX12_behindWay 105 = .ok (.aload_n 0, 1) := by decide +kernel
theorem dX12_behindWay_106 : decode cX12_behindWay 106 = .ok (.iload_n 1, 1) := by decide +kernel
theorem dX12_behindWay_107 : decode cX12_behindWay 107 = .ok (.invokevirtual 116, 3) := by decide +kernel
theorem dX12_behindWay_110 : decode cX12_behindWay 110 = .ok (.isub, 1) := by decide +kernel
theorem dX12_behindWay_111 : decode cX12_behindWay 111 = .ok (.bipush 20, 2) := by decide +kernel
theorem dX12_behindWay_113 : decode cX12_behindWay 113 = .ok (.invokestatic 103, 3) := by decide +kernel
theorem dX12_behindWay_116 : decode cX12_behindWay 116 = .ok (.istore 5, 2) := by decide +kernel
theorem dX12_behindWay_118 : decode cX12_behindWay 118 = .ok (.bipush 21, 2) := by decide +kernel
theorem dX12_behindWay_120 : decode cX12_behindWay 120 = .ok (.iload 4, 2) := by decide +kernel
theorem dX12_behindWay_122 : decode cX12_behindWay 122 = .ok (.imul, 1) := by decide +kernel
theorem dX12_behindWay_123 : decode cX12_behindWay 123 = .ok (.iload 5, 2) := by decide +kernel
theorem dX12_behindWay_125 : decode cX12_behindWay 125 = .ok (.iadd, 1) := by decide +kernel
theorem dX12_behindWay_126 : decode cX12_behindWay 126 = .ok (.ireturn, 1) := by decide +kernel
theorem dX12_layFewest_0 : decode cX12_layFewest 0 = .ok (.iconst 0, 1) := by decide +kernel
theorem dX12_layFewest_1 : decode cX12_layFewest 1 = .ok (.istore_n 3, 1) := by decide +kernel
theorem dX12_layFewest_2 : decode cX12_layFewest 2 = .ok (.iload_n 3, 1) := by decide +kernel
theorem dX12_layFewest_3 : decode cX12_layFewest 3 = .ok (.sipush 168, 3) := by decide +kernel
theorem dX12_layFewest_6 : decode cX12_layFewest 6 = .ok (.if_icmp .ge 28, 3) := by decide +kernel
theorem dX12_layFewest_9 : decode cX12_layFewest 9 = .ok (.aload_n 0, 1) := by decide +kernel
theorem dX12_layFewest_10 : decode cX12_layFewest 10 = .ok (.getfield 59, 3) := by decide +kernel
theorem dX12_layFewest_13 : decode cX12_layFewest 13 = .ok (.iload_n 3, 1) := by decide +kernel
theorem dX12_layFewest_14 : decode cX12_layFewest 14 = .ok (.iload_n 3, 1) := by decide +kernel
theorem dX12_layFewest_15 : decode cX12_layFewest 15 = .ok (.sipush 147, 3) := by decide +kernel
theorem dX12_layFewest_18 : decode cX12_layFewest 18 = .ok (.if_icmp .lt 7, 3) := by decide +kernel
theorem dX12_layFewest_21 : decode cX12_layFewest 21 = .ok (.iconst 0, 1) := by decide +kernel
theorem dX12_layFewest_22 : decode cX12_layFewest 22 = .ok (.goto 5, 3) := by decide +kernel
theorem dX12_layFewest_25 : decode cX12_layFewest 25 = .ok (.bipush 99, 2) := by decide +kernel
theorem dX12_layFewest_27 : decode cX12_layFewest 27 = .ok (.iastore, 1) := by decide +kernel
theorem dX12_layFewest_28 : decode cX12_layFewest 28 = .ok (.iinc 3 1, 3) := by decide +kernel
theorem dX12_layFewest_31 : decode cX12_layFewest 31 = .ok (.goto (-29), 3) := by decide +kernel
theorem dX12_layFewest_34 : decode cX12_layFewest 34 = .ok (.iconst 1, 1) := by decide +kernel
theorem dX12_layFewest_35 : decode cX12_layFewest 35 = .ok (.istore_n 3, 1) := by decide +kernel
theorem dX12_layFewest_36 : decode cX12_layFewest 36 = .ok (.iload_n 3, 1) := by decide +kernel
theorem dX12_layFewest_37 : decode cX12_layFewest 37 = .ok (.ifCond .eq 110, 3) := by decide +kernel
theorem dX12_layFewest_40 : decode cX12_layFewest 40 = .ok (.iconst 0, 1) := by decide +kernel
theorem dX12_layFewest_41 : decode cX12_layFewest 41 = .ok (.istore_n 3, 1) := by decide +kernel
theorem dX12_layFewest_42 : decode cX12_layFewest 42 = .ok (.sipush 146, 3) := by decide +kernel
theorem dX12_layFewest_45 : decode cX12_layFewest 45 = .ok (.istore 4, 2) := by decide +kernel
theorem dX12_layFewest_47 : decode cX12_layFewest 47 = .ok (.iload 4, 2) := by decide +kernel
theorem dX12_layFewest_49 : decode cX12_layFewest 49 = .ok (.ifCond .lt 95, 3) := by decide +kernel
theorem dX12_layFewest_52 : decode cX12_layFewest 52 = .ok (.iload_n 2, 1) := by decide +kernel
theorem dX12_layFewest_53 : decode cX12_layFewest 53 = .ok (.istore 5, 2) := by decide +kernel
theorem dX12_layFewest_55 : decode cX12_layFewest 55 = .ok (.iload 5, 2) := by decide +kernel
theorem dX12_layFewest_57 : decode cX12_layFewest 57 = .ok (.iconst 3, 1) := by decide +kernel
theorem dX12_layFewest_58 : decode cX12_layFewest 58 = .ok (.if_icmp .ge 80, 3) := by decide +kernel
theorem dX12_layFewest_61 : decode cX12_layFewest 61 = .ok (.aload_n 0, 1) := by decide +kernel
theorem dX12_layFewest_62 : decode cX12_layFewest 62 = .ok (.getfield 59, 3) := by decide +kernel
theorem dX12_layFewest_65 : decode cX12_layFewest 65 = .ok (.aload_n 0, 1) := by decide +kernel
theorem dX12_layFewest_66 : decode cX12_layFewest 66 = .ok (.iload_n 1, 1) := by decide +kernel
theorem dX12_layFewest_67 : decode cX12_layFewest 67 = .ok (.iload 4, 2) := by decide +kernel
theorem dX12_layFewest_69 : decode cX12_layFewest 69 = .ok (.iload 5, 2) := by decide +kernel
theorem dX12_layFewest_71 : decode cX12_layFewest 71 = .ok (.invokevirtual 240, 3) := by decide +kernel
theorem dX12_layFewest_74 : decode cX12_layFewest 74 = .ok (.iaload, 1) := by decide +kernel
theorem dX12_layFewest_75 : decode cX12_layFewest 75 = .ok (.iconst 1, 1) := by decide +kernel
theorem dX12_layFewest_76 : decode cX12_layFewest 76 = .ok (.iadd, 1) := by decide +kernel
theorem dX12_layFewest_77 : decode cX12_layFewest 77 = .ok (.istore 6, 2) := by decide +kernel
theorem dX12_layFewest_79 : decode cX12_layFewest 79 = .ok (.iload_n 3, 1) := by decide +kernel
theorem dX12_layFewest_80 : decode cX12_layFewest 80 = .ok (.ifCond .ne 15, 3) := by decide +kernel
theorem dX12_layFewest_83 : decode cX12_layFewest 83 = .ok (.iload 6, 2) := by decide +kernel
theorem dX12_layFewest_85 : decode cX12_layFewest 85 = .ok (.aload_n 0, 1) := by decide +kernel
theorem dX12_layFewest_86 : decode cX12_layFewest 86 = .ok (.getfield 59, 3) := by decide +kernel
theorem dX12_layFewest_89 : decode cX12_layFewest 89 = .ok (.iload 4, 2) := by decide +kernel
theorem dX12_layFewest_91 : decode cX12_layFewest 91 = .ok (.iaload, 1) := by decide +kernel
theorem dX12_layFewest_92 : decode cX12_layFewest 92 = .ok (.if_icmp .ge 7, 3) := by decide +kernel
theorem dX12_layFewest_95 : decode cX12_layFewest 95 = .ok (.iconst 1, 1) := by decide +kernel
theorem dX12_layFewest_96 : decode cX12_layFewest 96 = .ok (.goto 4, 3) := by decide +kernel
theorem dX12_layFewest_99 : decode cX12_layFewest 99 = .ok (.iconst 0, 1) := by decide +kernel
theorem dX12_layFewest_100 : decode cX12_layFewest 100 = .ok (.istore_n 3, 1) := by decide +kernel
theorem dX12_layFewest_101 : decode cX12_layFewest 101 = .ok (.aload_n 0, 1) := by decide +kernel
theorem dX12_layFewest_102 : decode cX12_layFewest 102 = .ok (.getfield 59, 3) := by decide +kernel
theorem dX12_layFewest_105 : decode cX12_layFewest 105 = .ok (.iload 4, 2) := by decide +kernel
theorem dX12_layFewest_107 : decode cX12_layFewest 107 = .ok (.iload 6, 2) := by decide +kernel
theorem dX12_layFewest_109 : decode cX12_layFewest 109 = .ok (.aload_n 0, 1) := by decide +kernel
theorem dX12_layFewest_110 : decode cX12_layFewest 110 = .ok (.getfield 59, 3) := by decide +kernel
theorem dX12_layFewest_113 : decode cX12_layFewest 113 = .ok (.iload 4, 2) := by decide +kernel
theorem dX12_layFewest_115 : decode cX12_layFewest 115 = .ok (.iaload, 1) := by decide +kernel
theorem dX12_layFewest_116 : decode cX12_layFewest 116 = .ok (.if_icmp .ge 8, 3) := by decide +kernel
theorem dX12_layFewest_119 : decode cX12_layFewest 119 = .ok (.iload 6, 2) := by decide +kernel
theorem dX12_layFewest_121 : decode cX12_layFewest 121 = .ok (.goto 10, 3) := by decide +kernel
theorem dX12_layFewest_124 : decode cX12_layFewest 124 = .ok (.aload_n 0, 1) := by decide +kernel
theorem dX12_layFewest_125 : decode cX12_layFewest 125 = .ok (.getfield 59, 3) := by decide +kernel
theorem dX12_layFewest_128 : decode cX12_layFewest 128 = .ok (.iload 4, 2) := by decide +kernel
theorem dX12_layFewest_130 : decode cX12_layFewest 130 = .ok (.iaload, 1) := by decide +kernel
theorem dX12_layFewest_131 : decode cX12_layFewest 131 = .ok (.iastore, 1) := by decide +kernel
theorem dX12_layFewest_132 : decode cX12_layFewest 132 = .ok (.iinc 5 1, 3) := by decide +kernel
theorem dX12_layFewest_135 : decode cX12_layFewest 135 = .ok (.goto (-80), 3) := by decide +kernel
theorem dX12_layFewest_138 : decode cX12_layFewest 138 = .ok (.iinc 4 (-1), 3) := by decide +kernel
theorem dX12_layFewest_141 : decode cX12_layFewest 141 = .ok (.goto (-94), 3) := by decide +kernel
theorem dX12_layFewest_144 : decode cX12_layFewest 144 = .ok (.goto (-108), 3) := by decide +kernel
theorem dX12_layFewest_147 : decode cX12_layFewest 147 = .ok (.return_, 1) := by decide +kernel
theorem dX12_stateOf_0 : decode cX12_stateOf 0 = .ok (.bipush 21, 2) := by decide +kernel
theorem dX12_stateOf_2 : decode cX12_stateOf 2 = .ok (.aload_n 0, 1) := by decide +kernel
theorem dX12_stateOf_3 : decode cX12_stateOf 3 = .ok (.getfield 19, 3) := by decide +kernel
theorem dX12_stateOf_6 : decode cX12_stateOf 6 = .ok (.iload_n 1, 1) := by decide +kernel
theorem dX12_stateOf_7 : decode cX12_stateOf 7 = .ok (.iaload, 1) := by decide +kernel
theorem dX12_stateOf_8 : decode cX12_stateOf 8 = .ok (.imul, 1) := by decide +kernel
theorem dX12_stateOf_9 : decode cX12_stateOf 9 = .ok (.aload_n 0, 1) := by decide +kernel
theorem dX12_stateOf_10 : decode cX12_stateOf 10 = .ok (.getfield 16, 3) := by decide +kernel
theorem dX12_stateOf_13 : decode cX12_stateOf 13 = .ok (.iload_n 1, 1) := by decide +kernel
theorem dX12_stateOf_14 : decode cX12_stateOf 14 = .ok (.iaload, 1) := by decide +kernel
theorem dX12_stateOf_15 : decode cX12_stateOf 15 = .ok (.iadd, 1) := by decide +kernel
theorem dX12_stateOf_16 : decode cX12_stateOf 16 = .ok (.ireturn, 1) := by decide +kernel
theorem dX12_aloneFrom_0 : decode cX12_aloneFrom 0 = .ok (.aload_n 0, 1) := by decide +kernel
theorem dX12_aloneFrom_1 : decode cX12_aloneFrom 1 = .ok (.getfield 59, 3) := by decide +kernel
theorem dX12_aloneFrom_4 : decode cX12_aloneFrom 4 = .ok (.bipush 21, 2) := by decide +kernel
theorem dX12_aloneFrom_6 : decode cX12_aloneFrom 6 = .ok (.aload_n 0, 1) := by decide +kernel
theorem dX12_aloneFrom_7 : decode cX12_aloneFrom 7 = .ok (.getfield 19, 3) := by decide +kernel
theorem dX12_aloneFrom_10 : decode cX12_aloneFrom 10 = .ok (.iload_n 1, 1) := by decide +kernel
theorem dX12_aloneFrom_11 : decode cX12_aloneFrom 11 = .ok (.iaload, 1) := by decide +kernel
theorem dX12_aloneFrom_12 : decode cX12_aloneFrom 12 = .ok (.imul, 1) := by decide +kernel
theorem dX12_aloneFrom_13 : decode cX12_aloneFrom 13 = .ok (.iload_n 2, 1) := by decide +kernel
theorem dX12_aloneFrom_14 : decode cX12_aloneFrom 14 = .ok (.bipush 20, 2) := by decide +kernel
theorem dX12_aloneFrom_16 : decode cX12_aloneFrom 16 = .ok (.invokestatic 103, 3) := by decide +kernel
theorem dX12_aloneFrom_19 : decode cX12_aloneFrom 19 = .ok (.iadd, 1) := by decide +kernel
theorem dX12_aloneFrom_20 : decode cX12_aloneFrom 20 = .ok (.iaload, 1) := by decide +kernel
theorem dX12_aloneFrom_21 : decode cX12_aloneFrom 21 = .ok (.istore_n 3, 1) := by decide +kernel
theorem dX12_aloneFrom_22 : decode cX12_aloneFrom 22 = .ok (.iload_n 3, 1) := by decide +kernel
theorem dX12_aloneFrom_23 : decode cX12_aloneFrom 23 = .ok (.bipush 60, 2) := by decide +kernel
theorem dX12_aloneFrom_25 : decode cX12_aloneFrom 25 = .ok (.if_icmp .le 8, 3) := by decide +kernel
theorem dX12_aloneFrom_28 : decode cX12_aloneFrom 28 = .ok (.bipush (-4), 2) := by decide +kernel
theorem dX12_aloneFrom_30 : decode cX12_aloneFrom 30 = .ok (.goto 4, 3) := by decide +kernel
theorem dX12_aloneFrom_33 : decode cX12_aloneFrom 33 = .ok (.iload_n 3, 1) := by decide +kernel
theorem dX12_aloneFrom_34 : decode cX12_aloneFrom 34 = .ok (.ireturn, 1) := by decide +kernel
theorem dX12_alone_0 : decode cX12_alone 0 = .ok (.aload_n 0, 1) := by decide +kernel
theorem dX12_alone_1 : decode cX12_alone 1 = .ok (.iconst 0, 1) := by decide +kernel
theorem dX12_alone_2 : decode cX12_alone 2 = .ok (.putfield 77, 3) := by decide +kernel
theorem dX12_alone_5 : decode cX12_alone 5 = .ok (.aload_n 0, 1) := by decide +kernel
theorem dX12_alone_6 : decode cX12_alone 6 = .ok (.iload_n 1, 1) := by decide +kernel
theorem dX12_alone_7 : decode cX12_alone 7 = .ok (.invokevirtual 99, 3) := by decide +kernel
theorem dX12_alone_10 : decode cX12_alone 10 = .ok (.ifCond .eq 13, 3) := by decide +kernel
theorem dX12_alone_13 : decode cX12_alone 13 = .ok (.iload_n 2, 1) := by decide +kernel
theorem dX12_alone_14 : decode cX12_alone 14 = .ok (.i2l, 1) := by decide +kernel
theorem dX12_alone_15 : decode cX12_alone 15 = .ok (.lconst 0, 1) := by decide +kernel
theorem dX12_alone_16 : decode cX12_alone 16 = .ok (.lconst 1, 1) := by decide +kernel
theorem dX12_alone_17 : decode cX12_alone 17 = .ok (.invokestatic 84, 3) := by decide +kernel
theorem dX12_alone_20 : decode cX12_alone 20 = .ok (.ifCond .ne 5, 3) := by decide +kernel
theorem dX12_alone_23 : decode cX12_alone 23 = .ok (.iconst (-1), 1) := by decide +kernel
theorem dX12_alone_24 : decode cX12_alone 24 = .ok (.ireturn, 1) := by decide +kernel
theorem dX12_alone_25 : decode cX12_alone 25 = .ok (.aload_n 0, 1) := by decide +kernel
theorem dX12_alone_26 : decode cX12_alone 26 = .ok (.iload_n 1, 1) := by decide +kernel
theorem dX12_alone_27 : decode cX12_alone 27 = .ok (.iconst 0, 1) := by decide +kernel
theorem dX12_alone_28 : decode cX12_alone 28 = .ok (.invokevirtual 244, 3) := by decide +kernel
theorem dX12_alone_31 : decode cX12_alone 31 = .ok (.aload_n 0, 1) := by decide +kernel
theorem dX12_alone_32 : decode cX12_alone 32 = .ok (.iload_n 1, 1) := by decide +kernel
theorem dX12_alone_33 : decode cX12_alone 33 = .ok (.aload_n 0, 1) := by decide +kernel
theorem dX12_alone_34 : decode cX12_alone 34 = .ok (.getfield 16, 3) := by decide +kernel
theorem dX12_alone_37 : decode cX12_alone 37 = .ok (.iload_n 1, 1) := by decide +kernel
theorem dX12_alone_38 : decode cX12_alone 38 = .ok (.iaload, 1) := by decide +kernel
theorem dX12_alone_39 : decode cX12_alone 39 = .ok (.invokevirtual 247, 3) := by decide +kernel
theorem dX12_alone_42 : decode cX12_alone 42 = .ok (.istore_n 3, 1) := by decide +kernel
theorem dX12_alone_43 : decode cX12_alone 43 = .ok (.iload_n 2, 1) := by decide +kernel
theorem dX12_alone_44 : decode cX12_alone 44 = .ok (.ifCond .eq 8, 3) := by decide +kernel
theorem dX12_alone_47 : decode cX12_alone 47 = .ok (.iload_n 3, 1) := by decide +kernel
theorem dX12_alone_48 : decode cX12_alone 48 = .ok (.iconst 1, 1) := by decide +kernel
theorem dX12_alone_49 : decode cX12_alone 49 = .ok (.if_icmp .ge 14, 3) := by decide +kernel
theorem dX12_alone_52 : decode cX12_alone 52 = .ok (.iload_n 2, 1) := by decide +kernel
theorem dX12_alone_53 : decode cX12_alone 53 = .ok (.ifCond .ne 7, 3) := by decide +kernel
theorem dX12_alone_56 : decode cX12_alone 56 = .ok (.iload_n 3, 1) := by decide +kernel
theorem dX12_alone_57 : decode cX12_alone 57 = .ok (.goto 5, 3) := by decide +kernel
theorem dX12_alone_60 : decode cX12_alone 60 = .ok (.bipush (-4), 2) := by decide +kernel
theorem dX12_alone_62 : decode cX12_alone 62 = .ok (.ireturn, 1) := by decide +kernel
theorem dX12_alone_63 : decode cX12_alone 63 = .ok (.iconst 0, 1) := by decide +kernel
theorem dX12_alone_64 : decode cX12_alone 64 = .ok (.istore 4, 2) := by decide +kernel
theorem dX12_alone_66 : decode cX12_alone 66 = .ok (.aload_n 0, 1) := by decide +kernel
theorem dX12_alone_67 : decode cX12_alone 67 = .ok (.getfield 59, 3) := by decide +kernel
theorem dX12_alone_70 : decode cX12_alone 70 = .ok (.aload_n 0, 1) := by decide +kernel
theorem dX12_alone_71 : decode cX12_alone 71 = .ok (.iload_n 1, 1) := by decide +kernel
theorem dX12_alone_72 : decode cX12_alone 72 = .ok (.aload_n 0, 1) := by decide +kernel
theorem dX12_alone_73 : decode cX12_alone 73 = .ok (.iload_n 1, 1) := by decide +kernel
theorem dX12_alone_74 : decode cX12_alone 74 = .ok (.invokevirtual 250, 3) := by decide +kernel
theorem dX12_alone_77 : decode cX12_alone 77 = .ok (.iload 4, 2) := by decide +kernel
theorem dX12_alone_79 : decode cX12_alone 79 = .ok (.invokevirtual 240, 3) := by decide +kernel
theorem dX12_alone_82 : decode cX12_alone 82 = .ok (.iaload, 1) := by decide +kernel
theorem dX12_alone_83 : decode cX12_alone 83 = .ok (.iconst 1, 1) := by decide +kernel
theorem dX12_alone_84 : decode cX12_alone 84 = .ok (.iadd, 1) := by decide +kernel
theorem dX12_alone_85 : decode cX12_alone 85 = .ok (.iload_n 3, 1) := by decide +kernel
theorem dX12_alone_86 : decode cX12_alone 86 = .ok (.if_icmp .le 9, 3) := by decide +kernel
theorem dX12_alone_89 : decode cX12_alone 89 = .ok (.iinc 4 1, 3) := by decide +kernel
theorem dX12_alone_92 : decode cX12_alone 92 = .ok (.goto (-26), 3) := by decide +kernel
theorem dX12_alone_95 : decode cX12_alone 95 = .ok (.iload 4, 2) := by decide +kernel
theorem dX12_alone_97 : decode cX12_alone 97 = .ok (.ireturn, 1) := by decide +kernel
theorem dX12_neverHeld_0 : decode cX12_neverHeld 0 = .ok (.aload_n 0, 1) := by decide +kernel
theorem dX12_neverHeld_1 : decode cX12_neverHeld 1 = .ok (.iconst 0, 1) := by decide +kernel
theorem dX12_neverHeld_2 : decode cX12_neverHeld 2 = .ok (.putfield 77, 3) := by decide +kernel
theorem dX12_neverHeld_5 : decode cX12_neverHeld 5 = .ok (.aload_n 0, 1) := by decide +kernel
theorem dX12_neverHeld_6 : decode cX12_neverHeld 6 = .ok (.iload_n 1, 1) := by decide +kernel
theorem dX12_neverHeld_7 : decode cX12_neverHeld 7 = .ok (.invokevirtual 99, 3) := by decide +kernel
theorem dX12_neverHeld_10 : decode cX12_neverHeld 10 = .ok (.ifCond .ne 5, 3) := by decide +kernel
theorem dX12_neverHeld_13 : decode cX12_neverHeld 13 = .ok (.iconst (-1), 1) := by decide +kernel
theorem dX12_neverHeld_14 : decode cX12_neverHeld 14 = .ok (.ireturn, 1) := by decide +kernel
theorem dX12_neverHeld_15 : decode cX12_neverHeld 15 = .ok (.aload_n 0, 1) := by decide +kernel
theorem dX12_neverHeld_16 : decode cX12_neverHeld 16 = .ok (.iload_n 1, 1) := by decide +kernel
theorem dX12_neverHeld_17 : decode cX12_neverHeld 17 = .ok (.iconst 1, 1) := by decide +kernel
theorem dX12_neverHeld_18 : decode cX12_neverHeld 18 = .ok (.invokevirtual 244, 3) := by decide +kernel
theorem dX12_neverHeld_21 : decode cX12_neverHeld 21 = .ok (.aload_n 0, 1) := by decide +kernel
theorem dX12_neverHeld_22 : decode cX12_neverHeld 22 = .ok (.iload_n 1, 1) := by decide +kernel
theorem dX12_neverHeld_23 : decode cX12_neverHeld 23 = .ok (.aload_n 0, 1) := by decide +kernel
theorem dX12_neverHeld_24 : decode cX12_neverHeld 24 = .ok (.getfield 16, 3) := by decide +kernel
theorem dX12_neverHeld_27 : decode cX12_neverHeld 27 = .ok (.iload_n 1, 1) := by decide +kernel
theorem dX12_neverHeld_28 : decode cX12_neverHeld 28 = .ok (.iaload, 1) := by decide +kernel
theorem dX12_neverHeld_29 : decode cX12_neverHeld 29 = .ok (.invokevirtual 247, 3) := by decide +kernel
theorem dX12_neverHeld_32 : decode cX12_neverHeld 32 = .ok (.ireturn, 1) := by decide +kernel
theorem dX12_keepStage_0 : decode cX12_keepStage 0 = .ok (.aload_n 0, 1) := by decide +kernel
theorem dX12_keepStage_1 : decode cX12_keepStage 1 = .ok (.aload_n 0, 1) := by decide +kernel
theorem dX12_keepStage_2 : decode cX12_keepStage 2 = .ok (.getfield 65, 3) := by decide +kernel
theorem dX12_keepStage_5 : decode cX12_keepStage 5 = .ok (.iconst 1, 1) := by decide +kernel
theorem dX12_keepStage_6 : decode cX12_keepStage 6 = .ok (.invokevirtual 216, 3) := by decide +kernel
theorem dX12_keepStage_9 : decode cX12_keepStage 9 = .ok (.iconst 0, 1) := by decide +kernel
theorem dX12_keepStage_10 : decode cX12_keepStage 10 = .ok (.istore_n 2, 1) := by decide +kernel
theorem dX12_keepStage_11 : decode cX12_keepStage 11 = .ok (.iload_n 2, 1) := by decide +kernel
theorem dX12_keepStage_12 : decode cX12_keepStage 12 = .ok (.bipush 32, 2) := by decide +kernel
theorem dX12_keepStage_14 : decode cX12_keepStage 14 = .ok (.if_icmp .ge 26, 3) := by decide +kernel
theorem dX12_keepStage_17 : decode cX12_keepStage 17 = .ok (.aload_n 0, 1) := by decide +kernel
theorem dX12_keepStage_18 : decode cX12_keepStage 18 = .ok (.getfield 62, 3) := by decide +kernel
theorem dX12_keepStage_21 : decode cX12_keepStage 21 = .ok (.bipush 32, 2) := by decide +kernel
theorem dX12_keepStage_23 : decode cX12_keepStage 23 = .ok (.iload_n 1, 1) := by decide +kernel
theorem dX12_keepStage_24 : decode cX12_keepStage 24 = .ok (.imul, 1) := by decide +kernel
theorem dX12_keepStage_25 : decode cX12_keepStage 25 = .ok (.iload_n 2, 1) := by decide +kernel
theorem dX12_keepStage_26 : decode cX12_keepStage 26 = .ok (.iadd, 1) := by decide +kernel
theorem dX12_keepStage_27 : decode cX12_keepStage 27 = .ok (.aload_n 0, 1) := by decide +kernel
theorem dX12_keepStage_28 : decode cX12_keepStage 28 = .ok (.getfield 65, 3) := by decide +kernel
theorem dX12_keepStage_31 : decode cX12_keepStage 31 = .ok (.iload_n 2, 1) := by decide +kernel
theorem dX12_keepStage_32 : decode cX12_keepStage 32 = .ok (.iaload, 1) := by decide +kernel
theorem dX12_keepStage_33 : decode cX12_keepStage 33 = .ok (.iastore, 1) := by decide +kernel
theorem dX12_keepStage_34 : decode cX12_keepStage 34 = .ok (.iinc 2 1, 3) := by decide +kernel
theorem dX12_keepStage_37 : decode cX12_keepStage 37 = .ok (.goto (-26), 3) := by decide +kernel
theorem dX12_keepStage_40 : decode cX12_keepStage 40 = .ok (.return_, 1) := by decide +kernel
theorem dX12_toStage_0 : decode cX12_toStage 0 = .ok (.iconst 0, 1) := by decide +kernel
theorem dX12_toStage_1 : decode cX12_toStage 1 = .ok (.istore_n 2, 1) := by decide +kernel
theorem dX12_toStage_2 : decode cX12_toStage 2 = .ok (.iload_n 2, 1) := by decide +kernel
theorem dX12_toStage_3 : decode cX12_toStage 3 = .ok (.bipush 32, 2) := by decide +kernel
theorem dX12_toStage_5 : decode cX12_toStage 5 = .ok (.if_icmp .ge 26, 3) := by decide +kernel
theorem dX12_toStage_8 : decode cX12_toStage 8 = .ok (.aload_n 0, 1) := by decide +kernel
theorem dX12_toStage_9 : decode cX12_toStage 9 = .ok (.getfield 65, 3) := by decide +kernel
theorem dX12_toStage_12 : decode cX12_toStage 12 = .ok (.iload_n 2, 1) := by decide +kernel
theorem dX12_toStage_13 : decode cX12_toStage 13 = .ok (.aload_n 0, 1) := by decide +kernel
theorem dX12_toStage_14 : decode cX12_toStage 14 = .ok (.getfield 62, 3) := by decide +kernel
theorem dX12_toStage_17 : decode cX12_toStage 17 = .ok (.bipush 32, 2) := by decide +kernel
theorem dX12_toStage_19 : decode cX12_toStage 19 = .ok (.iload_n 1, 1) := by decide +kernel
theorem dX12_toStage_20 : decode cX12_toStage 20 = .ok (.imul, 1) := by decide +kernel
theorem dX12_toStage_21 : decode cX12_toStage 21 = .ok (.iload_n 2, 1) := by decide +kernel
theorem dX12_toStage_22 : decode cX12_toStage 22 = .ok (.iadd, 1) := by decide +kernel
theorem dX12_toStage_23 : decode cX12_toStage 23 = .ok (.iaload, 1) := by decide +kernel
theorem dX12_toStage_24 : decode cX12_toStage 24 = .ok (.iastore, 1) := by decide +kernel
theorem dX12_toStage_25 : decode cX12_toStage 25 = .ok (.iinc 2 1, 3) := by decide +kernel
theorem dX12_toStage_28 : decode cX12_toStage 28 = .ok (.goto (-26), 3) := by decide +kernel
theorem dX12_toStage_31 : decode cX12_toStage 31 = .ok (.aload_n 0, 1) := by decide +kernel
theorem dX12_toStage_32 : decode cX12_toStage 32 = .ok (.aload_n 0, 1) := by decide +kernel
theorem dX12_toStage_33 : decode cX12_toStage 33 = .ok (.getfield 65, 3) := by decide +kernel
theorem dX12_toStage_36 : decode cX12_toStage 36 = .ok (.iconst 0, 1) := by decide +kernel
theorem dX12_toStage_37 : decode cX12_toStage 37 = .ok (.invokevirtual 216, 3) := by decide +kernel
theorem dX12_toStage_40 : decode cX12_toStage 40 = .ok (.return_, 1) := by decide +kernel
theorem dX12_nextChoice_0 : decode cX12_nextChoice 0 = .ok (.iload_n 1, 1) := by decide +kernel
theorem dX12_nextChoice_1 : decode cX12_nextChoice 1 = .ok (.istore_n 2, 1) := by decide +kernel
theorem dX12_nextChoice_2 : decode cX12_nextChoice 2 = .ok (.iload_n 2, 1) := by decide +kernel
theorem dX12_nextChoice_3 : decode cX12_nextChoice 3 = .ok (.iconst 3, 1) := by decide +kernel
theorem dX12_nextChoice_4 : decode cX12_nextChoice 4 = .ok (.aload_n 0, 1) := by decide +kernel
theorem dX12_nextChoice_5 : decode cX12_nextChoice 5 = .ok (.getfield 81, 3) := by decide +kernel
theorem dX12_nextChoice_8 : decode cX12_nextChoice 8 = .ok (.imul, 1) := by decide +kernel
theorem dX12_nextChoice_9 : decode cX12_nextChoice 9 = .ok (.if_icmp .ge 22, 3) := by decide +kernel
theorem dX12_nextChoice_12 : decode cX12_nextChoice 12 = .ok (.aload_n 0, 1) := by decide +kernel
theorem dX12_nextChoice_13 : decode cX12_nextChoice 13 = .ok (.getfield 19, 3) := by decide +kernel
theorem dX12_nextChoice_16 : decode cX12_nextChoice 16 = .ok (.iload_n 2, 1) := by decide +kernel
theorem dX12_nextChoice_17 : decode cX12_nextChoice 17 = .ok (.iconst 3, 1) := by decide +kernel
theorem dX12_nextChoice_18 : decode cX12_nextChoice 18 = .ok (.idiv, 1) := by decide +kernel
theorem dX12_nextChoice_19 : decode cX12_nextChoice 19 = .ok (.iaload, 1) := by decide +kernel
theorem dX12_nextChoice_20 : decode cX12_nextChoice 20 = .ok (.bipush 7, 2) := by decide +kernel
theorem dX12_nextChoice_22 : decode cX12_nextChoice 22 = .ok (.if_icmp .ne 9, 3) := by decide +kernel
theorem dX12_nextChoice_25 : decode cX12_nextChoice 25 = .ok (.iinc 2 1, 3) := by decide +kernel
theorem dX12_nextChoice_28 : decode cX12_nextChoice 28 = .ok (.goto (-26), 3) := by decide +kernel
theorem dX12_nextChoice_31 : decode cX12_nextChoice 31 = .ok (.iload_n 2, 1) := by decide +kernel
theorem dX12_nextChoice_32 : decode cX12_nextChoice 32 = .ok (.iconst 3, 1) := by decide +kernel
theorem dX12_nextChoice_33 : decode cX12_nextChoice 33 = .ok (.aload_n 0, 1) := by decide +kernel
theorem dX12_nextChoice_34 : decode cX12_nextChoice 34 = .ok (.getfield 81, 3) := by decide +kernel
theorem dX12_nextChoice_37 : decode cX12_nextChoice 37 = .ok (.imul, 1) := by decide +kernel
theorem dX12_nextChoice_38 : decode cX12_nextChoice 38 = .ok (.if_icmp .ge 7, 3) := by decide +kernel
theorem dX12_nextChoice_41 : decode cX12_nextChoice 41 = .ok (.iload_n 2, 1) := by decide +kernel
theorem dX12_nextChoice_42 : decode cX12_nextChoice 42 = .ok (.goto 5, 3) := by decide +kernel
theorem dX12_nextChoice_45 : decode cX12_nextChoice 45 = .ok (.bipush (-4), 2) := by decide +kernel
theorem dX12_nextChoice_47 : decode cX12_nextChoice 47 = .ok (.ireturn, 1) := by decide +kernel
theorem dX12_layMost_0 : decode cX12_layMost 0 = .ok (.aload_n 0, 1) := by decide +kernel
theorem dX12_layMost_1 : decode cX12_layMost 1 = .ok (.iconst (-1), 1) := by decide +kernel
theorem dX12_layMost_2 : decode cX12_layMost 2 = .ok (.putfield 253, 3) := by decide +kernel
theorem dX12_layMost_5 : decode cX12_layMost 5 = .ok (.aload_n 0, 1) := by decide +kernel
theorem dX12_layMost_6 : decode cX12_layMost 6 = .ok (.bipush (-4), 2) := by decide +kernel
theorem dX12_layMost_8 : decode cX12_layMost 8 = .ok (.putfield 256, 3) := by decide +kernel
theorem dX12_layMost_11 : decode cX12_layMost 11 = .ok (.iconst 0, 1) := by decide +kernel
theorem dX12_layMost_12 : decode cX12_layMost 12 = .ok (.istore_n 2, 1) := by decide +kernel
theorem dX12_layMost_13 : decode cX12_layMost 13 = .ok (.aload_n 0, 1) := by decide +kernel
theorem dX12_layMost_14 : decode cX12_layMost 14 = .ok (.iconst 0, 1) := by decide +kernel
theorem dX12_layMost_15 : decode cX12_layMost 15 = .ok (.invokevirtual 259, 3) := by decide +kernel
theorem dX12_layMost_18 : decode cX12_layMost 18 = .ok (.aload_n 0, 1) := by decide +kernel
theorem dX12_layMost_19 : decode cX12_layMost 19 = .ok (.getfield 68, 3) := by decide +kernel
theorem dX12_layMost_22 : decode cX12_layMost 22 = .ok (.iconst 0, 1) := by decide +kernel
theorem dX12_layMost_23 : decode cX12_layMost 23 = .ok (.iconst (-1), 1) := by decide +kernel
theorem dX12_layMost_24 : decode cX12_layMost 24 = .ok (.iastore, 1) := by decide +kernel
theorem dX12_layMost_25 : decode cX12_layMost 25 = .ok (.iload_n 1, 1) := by decide +kernel
theorem dX12_layMost_26 : decode cX12_layMost 26 = .ok (.ifCond .eq 11, 3) := by decide +kernel
theorem dX12_layMost_29 : decode cX12_layMost 29 = .ok (.aload_n 0, 1) := by decide +kernel
theorem dX12_layMost_30 : decode cX12_layMost 30 = .ok (.iconst 0, 1) := by decide +kernel
theorem dX12_layMost_31 : decode cX12_layMost 31 = .ok (.invokevirtual 262, 3) := by decide +kernel
theorem dX12_layMost_34 : decode cX12_layMost 34 = .ok (.ifCond .ge 12, 3) := by decide +kernel
theorem dX12_layMost_37 : decode cX12_layMost 37 = .ok (.aload_n 0, 1) := by decide +kernel
theorem dX12_layMost_38 : decode cX12_layMost 38 = .ok (.aload_n 0, 1) := by decide +kernel
theorem dX12_layMost_39 : decode cX12_layMost 39 = .ok (.invokevirtual 234, 3) := by decide +kernel
theorem dX12_layMost_42 : decode cX12_layMost 42 = .ok (.putfield 253, 3) := by decide +kernel
theorem dX12_layMost_45 : decode cX12_layMost 45 = .ok (.return_, 1) := by decide +kernel
theorem dX12_layMost_46 : decode cX12_layMost 46 = .ok (.iload_n 2, 1) := by decide +kernel
theorem dX12_layMost_47 : decode cX12_layMost 47 = .ok (.ifCond .lt 127, 3) := by decide +kernel
theorem dX12_layMost_50 : decode cX12_layMost 50 = .ok (.aload_n 0, 1) := by decide +kernel
theorem dX12_layMost_51 : decode cX12_layMost 51 = .ok (.iload_n 2, 1) := by decide +kernel
theorem dX12_layMost_52 : decode cX12_layMost 52 = .ok (.invokevirtual 265, 3) := by decide +kernel
theorem dX12_layMost_55 : decode cX12_layMost 55 = .ok (.aload_n 0, 1) := by decide +kernel
theorem dX12_layMost_56 : decode cX12_layMost 56 = .ok (.aload_n 0, 1) := by decide +kernel
theorem dX12_layMost_57 : decode cX12_layMost 57 = .ok (.getfield 68, 3) := by decide +kernel
theorem dX12_layMost_60 : decode cX12_layMost 60 = .ok (.iload_n 2, 1) := by decide +kernel
theorem dX12_layMost_61 : decode cX12_layMost 61 = .ok (.iaload, 1) := by decide +kernel
theorem dX12_layMost_62 : decode cX12_layMost 62 = .ok (.iconst 1, 1) := by decide +kernel
theorem dX12_layMost_63 : decode cX12_layMost 63 = .ok (.iadd, 1) := by decide +kernel
theorem dX12_layMost_64 : decode cX12_layMost 64 = .ok (.invokevirtual 262, 3) := by decide +kernel
theorem dX12_layMost_67 : decode cX12_layMost 67 = .ok (.istore_n 3, 1) := by decide +kernel
theorem dX12_layMost_68 : decode cX12_layMost 68 = .ok (.aload_n 0, 1) := by decide +kernel
theorem dX12_layMost_69 : decode cX12_layMost 69 = .ok (.getfield 68, 3) := by decide +kernel
theorem dX12_layMost_72 : decode cX12_layMost 72 = .ok (.iload_n 2, 1) := by decide +kernel
theorem dX12_layMost_73 : decode cX12_layMost 73 = .ok (.iload_n 3, 1) := by decide +kernel
theorem dX12_layMost_74 : decode cX12_layMost 74 = .ok (.iastore, 1) := by decide +kernel
theorem dX12_layMost_75 : decode cX12_layMost 75 = .ok (.iload_n 3, 1) := by decide +kernel
theorem dX12_layMost_76 : decode cX12_layMost 76 = .ok (.ifCond .ge 9, 3) := by decide +kernel
theorem dX12_layMost_79 : decode cX12_layMost 79 = .ok (.iinc 2 (-1), 3) := by decide +kernel
theorem dX12_layMost_82 : decode cX12_layMost 82 = .ok (.goto 89, 3) := by decide +kernel
theorem dX12_layMost_85 : decode cX12_layMost 85 = .ok (.aload_n 0, 1) := by decide +kernel
theorem dX12_layMost_86 : decode cX12_layMost 86 = .ok (.iload_n 3, 1) := by decide +kernel
theorem dX12_layMost_87 : decode cX12_layMost 87 = .ok (.iconst 3, 1) := by decide +kernel
theorem dX12_layMost_88 : decode cX12_layMost 88 = .ok (.idiv, 1) := by decide +kernel
theorem dX12_layMost_89 : decode cX12_layMost 89 = .ok (.iload_n 3, 1) := by decide +kernel
theorem dX12_layMost_90 : decode cX12_layMost 90 = .ok (.iconst 3, 1) := by decide +kernel
theorem dX12_layMost_91 : decode cX12_layMost 91 = .ok (.irem, 1) := by decide +kernel
theorem dX12_layMost_92 : decode cX12_layMost 92 = .ok (.invokevirtual 168, 3) := by decide +kernel
theorem dX12_layMost_95 : decode cX12_layMost 95 = .ok (.iload_n 2, 1) := by decide +kernel
theorem dX12_layMost_96 : decode cX12_layMost 96 = .ok (.iconst 1, 1) := by decide +kernel
theorem dX12_layMost_97 : decode cX12_layMost 97 = .ok (.iadd, 1) := by decide +kernel
theorem dX12_layMost_98 : decode cX12_layMost 98 = .ok (.iload_n 1, 1) := by decide +kernel
theorem dX12_layMost_99 : decode cX12_layMost 99 = .ok (.if_icmp .ge 29, 3) := by decide +kernel
theorem dX12_layMost_102 : decode cX12_layMost 102 = .ok (.aload_n 0, 1) := by decide +kernel
theorem dX12_layMost_103 : decode cX12_layMost 103 = .ok (.iconst 0, 1) := by decide +kernel
theorem dX12_layMost_104 : decode cX12_layMost 104 = .ok (.invokevirtual 262, 3) := by decide +kernel
theorem dX12_layMost_107 : decode cX12_layMost 107 = .ok (.ifCond .lt 21, 3) := by decide +kernel
theorem dX12_layMost_110 : decode cX12_layMost 110 = .ok (.iinc 2 1, 3) := by decide +kernel
theorem dX12_layMost_113 : decode cX12_layMost 113 = .ok (.aload_n 0, 1) := by decide +kernel
theorem dX12_layMost_114 : decode cX12_layMost 114 = .ok (.iload_n 2, 1) := by decide +kernel
theorem dX12_layMost_115 : decode cX12_layMost 115 = .ok (.invokevirtual 259, 3) := by decide +kernel
theorem dX12_layMost_118 : decode cX12_layMost 118 = .ok (.aload_n 0, 1) := by decide +kernel
theorem dX12_layMost_119 : decode cX12_layMost 119 = .ok (.getfield 68, 3) := by decide +kernel
theorem dX12_layMost_122 : decode cX12_layMost 122 = .ok (.iload_n 2, 1) := by decide +kernel
theorem dX12_layMost_123 : decode cX12_layMost 123 = .ok (.iconst (-1), 1) := by decide +kernel
theorem dX12_layMost_124 : decode cX12_layMost 124 = .ok (.iastore, 1) := by decide +kernel
theorem dX12_layMost_125 : decode cX12_layMost 125 = .ok (.goto 46, 3) := by decide +kernel
theorem dX12_layMost_128 : decode cX12_layMost 128 = .ok (.aload_n 0, 1) := by decide +kernel
theorem dX12_layMost_129 : decode cX12_layMost 129 = .ok (.invokevirtual 234, 3) := by decide +kernel
theorem dX12_layMost_132 : decode cX12_layMost 132 = .ok (.aload_n 0, 1) := by decide +kernel
theorem dX12_layMost_133 : decode cX12_layMost 133 = .ok (.getfield 253, 3) := by decide +kernel
theorem dX12_layMost_136 : decode cX12_layMost 136 = .ok (.if_icmp .le 35, 3) := by decide +kernel
theorem dX12_layMost_139 : decode cX12_layMost 139 = .ok (.aload_n 0, 1) := by decide +kernel
theorem dX12_layMost_140 : decode cX12_layMost 140 = .ok (.aload_n 0, 1) := by decide +kernel
theorem dX12_layMost_141 : decode cX12_layMost 141 = .ok (.invokevirtual 234, 3) := by decide +kernel
theorem dX12_layMost_144 : decode cX12_layMost 144 = .ok (.putfield 253, 3) := by decide +kernel
theorem dX12_layMost_147 : decode cX12_layMost 147 = .ok (.aload_n 0, 1) := by decide +kernel
theorem dX12_layMost_148 : decode cX12_layMost 148 = .ok (.bipush 10, 2) := by decide +kernel
theorem dX12_layMost_150 : decode cX12_layMost 150 = .ok (.aload_n 0, 1) := by decide +kernel
theorem dX12_layMost_151 : decode cX12_layMost 151 = .ok (.getfield 68, 3) := by decide +kernel
theorem dX12_layMost_154 : decode cX12_layMost 154 = .ok (.iconst 0, 1) := by decide +kernel
theorem dX12_layMost_155 : decode cX12_layMost 155 = .ok (.iaload, 1) := by decide +kernel
theorem dX12_layMost_156 : decode cX12_layMost 156 = .ok (.iconst 3, 1) := by decide +kernel
theorem dX12_layMost_157 : decode cX12_layMost 157 = .ok (.idiv, 1) := by decide +kernel
theorem dX12_layMost_158 : decode cX12_layMost 158 = .ok (.imul, 1) := by decide +kernel
theorem dX12_layMost_159 : decode cX12_layMost 159 = .ok (.aload_n 0, 1) := by decide +kernel
theorem dX12_layMost_160 : decode cX12_layMost 160 = .ok (.getfield 68, 3) := by decide +kernel
theorem dX12_layMost_163 : decode cX12_layMost 163 = .ok (.iconst 0, 1) := by decide +kernel
theorem dX12_layMost_164 : decode cX12_layMost 164 = .ok (.iaload, 1) := by decide +kernel
theorem dX12_layMost_165 : decode cX12_layMost 165 = .ok (.iconst 3, 1) := by decide +kernel
theorem dX12_layMost_166 : decode cX12_layMost 166 = .ok (.irem, 1) := by decide +kernel
theorem dX12_layMost_167 : decode cX12_layMost 167 = .ok (.iadd, 1) := by decide +kernel
theorem dX12_layMost_168 : decode cX12_layMost 168 = .ok (.putfield 256, 3) := by decide +kernel
theorem dX12_layMost_171 : decode cX12_layMost 171 = .ok (.goto (-125), 3) := by decide +kernel
theorem dX12_layMost_174 : decode cX12_layMost 174 = .ok (.aload_n 0, 1) := by decide +kernel
theorem dX12_layMost_175 : decode cX12_layMost 175 = .ok (.iconst 0, 1) := by decide +kernel
theorem dX12_layMost_176 : decode cX12_layMost 176 = .ok (.invokevirtual 265, 3) := by decide +kernel
theorem dX12_layMost_179 : decode cX12_layMost 179 = .ok (.return_, 1) := by decide +kernel
theorem dX12_mostSteps_0 : decode cX12_mostSteps 0 = .ok (.aload_n 0, 1) := by decide +kernel
theorem dX12_mostSteps_1 : decode cX12_mostSteps 1 = .ok (.iconst 0, 1) := by decide +kernel
theorem dX12_mostSteps_2 : decode cX12_mostSteps 2 = .ok (.putfield 77, 3) := by decide +kernel
theorem dX12_mostSteps_5 : decode cX12_mostSteps 5 = .ok (.iload_n 1, 1) := by decide +kernel
theorem dX12_mostSteps_6 : decode cX12_mostSteps 6 = .ok (.i2l, 1) := by decide +kernel
theorem dX12_mostSteps_7 : decode cX12_mostSteps 7 = .ok (.lconst 0, 1) := by decide +kernel
theorem dX12_mostSteps_8 : decode cX12_mostSteps 8 = .ok (.ldc2_w 230, 3) := by decide +kernel
theorem dX12_mostSteps_11 : decode cX12_mostSteps 11 = .ok (.invokestatic 84, 3) := by decide +kernel
theorem dX12_mostSteps_14 : decode cX12_mostSteps 14 = .ok (.ifCond .eq 13, 3) := by decide +kernel
theorem dX12_mostSteps_17 : decode cX12_mostSteps 17 = .ok (.iload_n 2, 1) := by decide +kernel
theorem dX12_mostSteps_18 : decode cX12_mostSteps 18 = .ok (.i2l, 1) := by decide +kernel
theorem dX12_mostSteps_19 : decode cX12_mostSteps 19 = .ok (.lconst 0, 1) := by decide +kernel
theorem dX12_mostSteps_20 : decode cX12_mostSteps 20 = .ok (.lconst 1, 1) := by decide +kernel
theorem dX12_mostSteps_21 : decode cX12_mostSteps 21 = .ok (.invokestatic 84, 3) := by decide +kernel
theorem dX12_mostSteps_24 : decode cX12_mostSteps 24 = .ok (.ifCond .ne 5, 3) := by decide +kernel
theorem dX12_mostSteps_27 : decode cX12_mostSteps 27 = .ok (.iconst (-1), 1) := by decide +kernel
theorem dX12_mostSteps_28 : decode cX12_mostSteps 28 = .ok (.ireturn, 1) := by decide +kernel
theorem dX12_mostSteps_29 : decode cX12_mostSteps 29 = .ok (.aload_n 0, 1) := by decide +kernel
theorem dX12_mostSteps_30 : decode cX12_mostSteps 30 = .ok (.iload_n 1, 1) := by decide +kernel
theorem dX12_mostSteps_31 : decode cX12_mostSteps 31 = .ok (.invokevirtual 268, 3) := by decide +kernel
theorem dX12_mostSteps_34 : decode cX12_mostSteps 34 = .ok (.iload_n 2, 1) := by decide +kernel
theorem dX12_mostSteps_35 : decode cX12_mostSteps 35 = .ok (.ifCond .ne 10, 3) := by decide +kernel
theorem dX12_mostSteps_38 : decode cX12_mostSteps 38 = .ok (.aload_n 0, 1) := by decide +kernel
theorem dX12_mostSteps_39 : decode cX12_mostSteps 39 = .ok (.getfield 253, 3) := by decide +kernel
theorem dX12_mostSteps_42 : decode cX12_mostSteps 42 = .ok (.goto 7, 3) := by decide +kernel
theorem dX12_mostSteps_45 : decode cX12_mostSteps 45 = .ok (.aload_n 0, 1) := by decide +kernel
theorem dX12_mostSteps_46 : decode cX12_mostSteps 46 = .ok (.getfield 256, 3) := by decide +kernel
theorem dX12_mostSteps_49 : decode cX12_mostSteps 49 = .ok (.ireturn, 1) := by decide +kernel
theorem dX12_nextTurn_0 : decode cX12_nextTurn 0 = .ok (.iconst 0, 1) := by decide +kernel
theorem dX12_nextTurn_1 : decode cX12_nextTurn 1 = .ok (.istore_n 1, 1) := by decide +kernel
theorem dX12_nextTurn_2 : decode cX12_nextTurn 2 = .ok (.iload_n 1, 1) := by decide +kernel
theorem dX12_nextTurn_3 : decode cX12_nextTurn 3 = .ok (.aload_n 0, 1) := by decide +kernel
theorem dX12_nextTurn_4 : decode cX12_nextTurn 4 = .ok (.getfield 81, 3) := by decide +kernel
theorem dX12_nextTurn_7 : decode cX12_nextTurn 7 = .ok (.if_icmp .ge 69, 3) := by decide +kernel
theorem dX12_nextTurn_10 : decode cX12_nextTurn 10 = .ok (.aload_n 0, 1) := by decide +kernel
theorem dX12_nextTurn_11 : decode cX12_nextTurn 11 = .ok (.getfield 271, 3) := by decide +kernel
theorem dX12_nextTurn_14 : decode cX12_nextTurn 14 = .ok (.iload_n 1, 1) := by decide +kernel
theorem dX12_nextTurn_15 : decode cX12_nextTurn 15 = .ok (.iadd, 1) := by decide +kernel
theorem dX12_nextTurn_16 : decode cX12_nextTurn 16 = .ok (.aload_n 0, 1) := by decide +kernel
theorem dX12_nextTurn_17 : decode cX12_nextTurn 17 = .ok (.getfield 81, 3) := by decide +kernel
theorem dX12_nextTurn_20 : decode cX12_nextTurn 20 = .ok (.irem, 1) := by decide +kernel
theorem dX12_nextTurn_21 : decode cX12_nextTurn 21 = .ok (.istore_n 2, 1) := by decide +kernel
theorem dX12_nextTurn_22 : decode cX12_nextTurn 22 = .ok (.aload_n 0, 1) := by decide +kernel
theorem dX12_nextTurn_23 : decode cX12_nextTurn 23 = .ok (.getfield 19, 3) := by decide +kernel
theorem dX12_nextTurn_26 : decode cX12_nextTurn 26 = .ok (.iload_n 2, 1) := by decide +kernel
theorem dX12_nextTurn_27 : decode cX12_nextTurn 27 = .ok (.iaload, 1) := by decide +kernel
theorem dX12_nextTurn_28 : decode cX12_nextTurn 28 = .ok (.bipush 7, 2) := by decide +kernel
theorem dX12_nextTurn_30 : decode cX12_nextTurn 30 = .ok (.if_icmp .ge 40, 3) := by decide +kernel
theorem dX12_nextTurn_33 : decode cX12_nextTurn 33 = .ok (.aload_n 0, 1) := by decide +kernel
theorem dX12_nextTurn_34 : decode cX12_nextTurn 34 = .ok (.iload_n 2, 1) := by decide +kernel
theorem dX12_nextTurn_35 : decode cX12_nextTurn 35 = .ok (.invokevirtual 109, 3) := by decide +kernel
theorem dX12_nextTurn_38 : decode cX12_nextTurn 38 = .ok (.istore_n 3, 1) := by decide +kernel
theorem dX12_nextTurn_39 : decode cX12_nextTurn 39 = .ok (.aload_n 0, 1) := by decide +kernel
theorem dX12_nextTurn_40 : decode cX12_nextTurn 40 = .ok (.iload_n 2, 1) := by decide +kernel
theorem dX12_nextTurn_41 : decode cX12_nextTurn 41 = .ok (.iload_n 3, 1) := by decide +kernel
theorem dX12_nextTurn_42 : decode cX12_nextTurn 42 = .ok (.ifCond .eq 7, 3) := by decide +kernel
theorem dX12_nextTurn_45 : decode cX12_nextTurn 45 = .ok (.iconst 2, 1) := by decide +kernel
theorem dX12_nextTurn_46 : decode cX12_nextTurn 46 = .ok (.goto 4, 3) := by decide +kernel
theorem dX12_nextTurn_49 : decode cX12_nextTurn 49 = .ok (.iconst 0, 1) := by decide +kernel
theorem dX12_nextTurn_50 : decode cX12_nextTurn 50 = .ok (.invokevirtual 168, 3) := by decide +kernel
theorem dX12_nextTurn_53 : decode cX12_nextTurn 53 = .ok (.aload_n 0, 1) := by decide +kernel
theorem dX12_nextTurn_54 : decode cX12_nextTurn 54 = .ok (.iload_n 2, 1) := by decide +kernel
theorem dX12_nextTurn_55 : decode cX12_nextTurn 55 = .ok (.iconst 1, 1) := by decide +kernel
theorem dX12_nextTurn_56 : decode cX12_nextTurn 56 = .ok (.iadd, 1) := by decide +kernel
theorem dX12_nextTurn_57 : decode cX12_nextTurn 57 = .ok (.putfield 271, 3) := by decide +kernel
theorem dX12_nextTurn_60 : decode cX12_nextTurn 60 = .ok (.iload_n 3, 1) := by decide +kernel
theorem dX12_nextTurn_61 : decode cX12_nextTurn 61 = .ok (.ifCond .eq 7, 3) := by decide +kernel
theorem dX12_nextTurn_64 : decode cX12_nextTurn 64 = .ok (.iconst 0, 1) := by decide +kernel
theorem dX12_nextTurn_65 : decode cX12_nextTurn 65 = .ok (.goto 4, 3) := by decide +kernel
theorem dX12_nextTurn_68 : decode cX12_nextTurn 68 = .ok (.iconst 1, 1) := by decide +kernel
theorem dX12_nextTurn_69 : decode cX12_nextTurn 69 = .ok (.ireturn, 1) := by decide +kernel
theorem dX12_nextTurn_70 : decode cX12_nextTurn 70 = .ok (.iinc 1 1, 3) := by decide +kernel
theorem dX12_nextTurn_73 : decode cX12_nextTurn 73 = .ok (.goto (-71), 3) := by decide +kernel
theorem dX12_nextTurn_76 : decode cX12_nextTurn 76 = .ok (.bipush (-4), 2) := by decide +kernel
theorem dX12_nextTurn_78 : decode cX12_nextTurn 78 = .ok (.ireturn, 1) := by decide +kernel
theorem dX12_byTurns_0 : decode cX12_byTurns 0 = .ok (.aload_n 0, 1) := by decide +kernel
theorem dX12_byTurns_1 : decode cX12_byTurns 1 = .ok (.iconst 0, 1) := by decide +kernel
theorem dX12_byTurns_2 : decode cX12_byTurns 2 = .ok (.putfield 77, 3) := by decide +kernel
theorem dX12_byTurns_5 : decode cX12_byTurns 5 = .ok (.iload_n 1, 1) := by decide +kernel
theorem dX12_byTurns_6 : decode cX12_byTurns 6 = .ok (.i2l, 1) := by decide +kernel
theorem dX12_byTurns_7 : decode cX12_byTurns 7 = .ok (.lconst 0, 1) := by decide +kernel
theorem dX12_byTurns_8 : decode cX12_byTurns 8 = .ok (.ldc2_w 274, 3) := by decide +kernel
theorem dX12_byTurns_11 : decode cX12_byTurns 11 = .ok (.invokestatic 84, 3) := by decide +kernel
theorem dX12_byTurns_14 : decode cX12_byTurns 14 = .ok (.ifCond .eq 13, 3) := by decide +kernel
theorem dX12_byTurns_17 : decode cX12_byTurns 17 = .ok (.iload_n 2, 1) := by decide +kernel
theorem dX12_byTurns_18 : decode cX12_byTurns 18 = .ok (.i2l, 1) := by decide +kernel
theorem dX12_byTurns_19 : decode cX12_byTurns 19 = .ok (.lconst 0, 1) := by decide +kernel
theorem dX12_byTurns_20 : decode cX12_byTurns 20 = .ok (.lconst 1, 1) := by decide +kernel
theorem dX12_byTurns_21 : decode cX12_byTurns 21 = .ok (.invokestatic 84, 3) := by decide +kernel
theorem dX12_byTurns_24 : decode cX12_byTurns 24 = .ok (.ifCond .ne 5, 3) := by decide +kernel
theorem dX12_byTurns_27 : decode cX12_byTurns 27 = .ok (.iconst (-1), 1) := by decide +kernel
theorem dX12_byTurns_28 : decode cX12_byTurns 28 = .ok (.ireturn, 1) := by decide +kernel
theorem dX12_byTurns_29 : decode cX12_byTurns 29 = .ok (.iconst 0, 1) := by decide +kernel
theorem dX12_byTurns_30 : decode cX12_byTurns 30 = .ok (.istore_n 3, 1) := by decide +kernel
theorem dX12_byTurns_31 : decode cX12_byTurns 31 = .ok (.aload_n 0, 1) := by decide +kernel
theorem dX12_byTurns_32 : decode cX12_byTurns 32 = .ok (.iconst 0, 1) := by decide +kernel
theorem dX12_byTurns_33 : decode cX12_byTurns 33 = .ok (.putfield 271, 3) := by decide +kernel
theorem dX12_byTurns_36 : decode cX12_byTurns 36 = .ok (.aload_n 0, 1) := by decide +kernel
theorem dX12_byTurns_37 : decode cX12_byTurns 37 = .ok (.invokevirtual 195, 3) := by decide +kernel
theorem dX12_byTurns_40 : decode cX12_byTurns 40 = .ok (.iconst 0, 1) := by decide +kernel
theorem dX12_byTurns_41 : decode cX12_byTurns 41 = .ok (.istore 4, 2) := by decide +kernel
theorem dX12_byTurns_43 : decode cX12_byTurns 43 = .ok (.iload 4, 2) := by decide +kernel
theorem dX12_byTurns_45 : decode cX12_byTurns 45 = .ok (.iload_n 1, 1) := by decide +kernel
theorem dX12_byTurns_46 : decode cX12_byTurns 46 = .ok (.if_icmp .ge 25, 3) := by decide +kernel
theorem dX12_byTurns_49 : decode cX12_byTurns 49 = .ok (.iload_n 3, 1) := by decide +kernel
theorem dX12_byTurns_50 : decode cX12_byTurns 50 = .ok (.aload_n 0, 1) := by decide +kernel
theorem dX12_byTurns_51 : decode cX12_byTurns 51 = .ok (.invokevirtual 276, 3) := by decide +kernel
theorem dX12_byTurns_54 : decode cX12_byTurns 54 = .ok (.iconst 1, 1) := by decide +kernel
theorem dX12_byTurns_55 : decode cX12_byTurns 55 = .ok (.if_icmp .ne 7, 3) := by decide +kernel
theorem dX12_byTurns_58 : decode cX12_byTurns 58 = .ok (.iconst 1, 1) := by decide +kernel
theorem dX12_byTurns_59 : decode cX12_byTurns 59 = .ok (.goto 4, 3) := by decide +kernel
theorem dX12_byTurns_62 : decode cX12_byTurns 62 = .ok (.iconst 0, 1) := by decide +kernel
theorem dX12_byTurns_63 : decode cX12_byTurns 63 = .ok (.iadd, 1) := by decide +kernel
theorem dX12_byTurns_64 : decode cX12_byTurns 64 = .ok (.istore_n 3, 1) := by decide +kernel
theorem dX12_byTurns_65 : decode cX12_byTurns 65 = .ok (.iinc 4 1, 3) := by decide +kernel
theorem dX12_byTurns_68 : decode cX12_byTurns 68 = .ok (.goto (-25), 3) := by decide +kernel
theorem dX12_byTurns_71 : decode cX12_byTurns 71 = .ok (.aload_n 0, 1) := by decide +kernel
theorem dX12_byTurns_72 : decode cX12_byTurns 72 = .ok (.invokevirtual 279, 3) := by decide +kernel
theorem dX12_byTurns_75 : decode cX12_byTurns 75 = .ok (.invokestatic 282, 3) := by decide +kernel
theorem dX12_byTurns_78 : decode cX12_byTurns 78 = .ok (.istore 4, 2) := by decide +kernel
theorem dX12_byTurns_80 : decode cX12_byTurns 80 = .ok (.aload_n 0, 1) := by decide +kernel
theorem dX12_byTurns_81 : decode cX12_byTurns 81 = .ok (.invokevirtual 201, 3) := by decide +kernel
theorem dX12_byTurns_84 : decode cX12_byTurns 84 = .ok (.iload_n 2, 1) := by decide +kernel
theorem dX12_byTurns_85 : decode cX12_byTurns 85 = .ok (.ifCond .ne 8, 3) := by decide +kernel
theorem dX12_byTurns_88 : decode cX12_byTurns 88 = .ok (.iload 4, 2) := by decide +kernel
theorem dX12_byTurns_90 : decode cX12_byTurns 90 = .ok (.goto 4, 3) := by decide +kernel
theorem dX12_byTurns_93 : decode cX12_byTurns 93 = .ok (.iload_n 3, 1) := by decide +kernel
theorem dX12_byTurns_94 : decode cX12_byTurns 94 = .ok (.ireturn, 1) := by decide +kernel
theorem dX12_allSwim_0 : decode cX12_allSwim 0 = .ok (.aload_n 0, 1) := by decide +kernel
theorem dX12_allSwim_1 : decode cX12_allSwim 1 = .ok (.iconst 0, 1) := by decide +kernel
theorem dX12_allSwim_2 : decode cX12_allSwim 2 = .ok (.putfield 77, 3) := by decide +kernel
theorem dX12_allSwim_5 : decode cX12_allSwim 5 = .ok (.bipush (-4), 2) := by decide +kernel
theorem dX12_allSwim_7 : decode cX12_allSwim 7 = .ok (.istore_n 1, 1) := by decide +kernel
theorem dX12_allSwim_8 : decode cX12_allSwim 8 = .ok (.aload_n 0, 1) := by decide +kernel
theorem dX12_allSwim_9 : decode cX12_allSwim 9 = .ok (.iconst 0, 1) := by decide +kernel
theorem dX12_allSwim_10 : decode cX12_allSwim 10 = .ok (.putfield 271, 3) := by decide +kernel
theorem dX12_allSwim_13 : decode cX12_allSwim 13 = .ok (.aload_n 0, 1) := by decide +kernel
theorem dX12_allSwim_14 : decode cX12_allSwim 14 = .ok (.invokevirtual 195, 3) := by decide +kernel
theorem dX12_allSwim_17 : decode cX12_allSwim 17 = .ok (.iconst 0, 1) := by decide +kernel
theorem dX12_allSwim_18 : decode cX12_allSwim 18 = .ok (.istore_n 2, 1) := by decide +kernel
theorem dX12_allSwim_19 : decode cX12_allSwim 19 = .ok (.iload_n 2, 1) := by decide +kernel
theorem dX12_allSwim_20 : decode cX12_allSwim 20 = .ok (.bipush 99, 2) := by decide +kernel
theorem dX12_allSwim_22 : decode cX12_allSwim 22 = .ok (.if_icmp .gt 40, 3) := by decide +kernel
theorem dX12_allSwim_25 : decode cX12_allSwim 25 = .ok (.iload_n 1, 1) := by decide +kernel
theorem dX12_allSwim_26 : decode cX12_allSwim 26 = .ok (.ifCond .ge 36, 3) := by decide +kernel
theorem dX12_allSwim_29 : decode cX12_allSwim 29 = .ok (.aload_n 0, 1) := by decide +kernel
theorem dX12_allSwim_30 : decode cX12_allSwim 30 = .ok (.invokevirtual 279, 3) := by decide +kernel
theorem dX12_allSwim_33 : decode cX12_allSwim 33 = .ok (.iconst 1, 1) := by decide +kernel
theorem dX12_allSwim_34 : decode cX12_allSwim 34 = .ok (.aload_n 0, 1) := by decide +kernel
theorem dX12_allSwim_35 : decode cX12_allSwim 35 = .ok (.getfield 81, 3) := by decide +kernel
theorem dX12_allSwim_38 : decode cX12_allSwim 38 = .ok (.ishl, 1) := by decide +kernel
theorem dX12_allSwim_39 : decode cX12_allSwim 39 = .ok (.iconst 1, 1) := by decide +kernel
theorem dX12_allSwim_40 : decode cX12_allSwim 40 = .ok (.isub, 1) := by decide +kernel
theorem dX12_allSwim_41 : decode cX12_allSwim 41 = .ok (.if_icmp .ne 7, 3) := by decide +kernel
theorem dX12_allSwim_44 : decode cX12_allSwim 44 = .ok (.iload_n 2, 1) := by decide +kernel
theorem dX12_allSwim_45 : decode cX12_allSwim 45 = .ok (.goto 5, 3) := by decide +kernel
theorem dX12_allSwim_48 : decode cX12_allSwim 48 = .ok (.bipush (-4), 2) := by decide +kernel
theorem dX12_allSwim_50 : decode cX12_allSwim 50 = .ok (.istore_n 1, 1) := by decide +kernel
theorem dX12_allSwim_51 : decode cX12_allSwim 51 = .ok (.aload_n 0, 1) := by decide +kernel
theorem dX12_allSwim_52 : decode cX12_allSwim 52 = .ok (.invokevirtual 276, 3) := by decide +kernel
theorem dX12_allSwim_55 : decode cX12_allSwim 55 = .ok (.pop, 1) := by decide +kernel
theorem dX12_allSwim_56 : decode cX12_allSwim 56 = .ok (.iinc 2 1, 3) := by decide +kernel
theorem dX12_allSwim_59 : decode cX12_allSwim 59 = .ok (.goto (-40), 3) := by decide +kernel
theorem dX12_allSwim_62 : decode cX12_allSwim 62 = .ok (.aload_n 0, 1) := by decide +kernel
theorem dX12_allSwim_63 : decode cX12_allSwim 63 = .ok (.invokevirtual 201, 3) := by decide +kernel
theorem dX12_allSwim_66 : decode cX12_allSwim 66 = .ok (.iload_n 1, 1) := by decide +kernel
theorem dX12_allSwim_67 : decode cX12_allSwim 67 = .ok (.ireturn, 1) := by decide +kernel
theorem dX12_ordersOf_0 : decode cX12_ordersOf 0 = .ok (.iconst 1, 1) := by decide +kernel
theorem dX12_ordersOf_1 : decode cX12_ordersOf 1 = .ok (.istore_n 1, 1) := by decide +kernel
theorem dX12_ordersOf_2 : decode cX12_ordersOf 2 = .ok (.iconst 2, 1) := by decide +kernel
theorem dX12_ordersOf_3 : decode cX12_ordersOf 3 = .ok (.istore_n 2, 1) := by decide +kernel
theorem dX12_ordersOf_4 : decode cX12_ordersOf 4 = .ok (.iload_n 2, 1) := by decide +kernel
theorem dX12_ordersOf_5 : decode cX12_ordersOf 5 = .ok (.iload_n 0, 1) := by decide +kernel
theorem dX12_ordersOf_6 : decode cX12_ordersOf 6 = .ok (.if_icmp .gt 13, 3) := by decide +kernel
theorem dX12_ordersOf_9 : decode cX12_ordersOf 9 = .ok (.iload_n 1, 1) := by decide +kernel
theorem dX12_ordersOf_10 : decode cX12_ordersOf 10 = .ok (.iload_n 2, 1) := by decide +kernel
theorem dX12_ordersOf_11 : decode cX12_ordersOf 11 = .ok (.imul, 1) := by decide +kernel
theorem dX12_ordersOf_12 : decode cX12_ordersOf 12 = .ok (.istore_n 1, 1) := by decide +kernel
theorem dX12_ordersOf_13 : decode cX12_ordersOf 13 = .ok (.iinc 2 1, 3) := by decide +kernel
theorem dX12_ordersOf_16 : decode cX12_ordersOf 16 = .ok (.goto (-12), 3) := by decide +kernel
theorem dX12_ordersOf_19 : decode cX12_ordersOf 19 = .ok (.iload_n 1, 1) := by decide +kernel
theorem dX12_ordersOf_20 : decode cX12_ordersOf 20 = .ok (.ireturn, 1) := by decide +kernel
theorem dX12_layOrder_0 : decode cX12_layOrder 0 = .ok (.iload_n 1, 1) := by decide +kernel
