theorem dX11_cost_18 : decode cX11_cost 18 = .ok (.aload_n 2, 1) := by decide +kernel
theorem dX11_cost_19 : decode cX11_cost 19 = .ok (.getfield 327, 3) := by decide +kernel
theorem dX11_cost_22 : decode cX11_cost 22 = .ok (.ireturn, 1) := by decide +kernel
theorem dX11_toss_0 : decode cX11_toss 0 = .ok (.aload_n 0, 1) := by decide +kernel
theorem dX11_toss_1 : decode cX11_toss 1 = .ok (.iload_n 1, 1) := by decide +kernel
theorem dX11_toss_2 : decode cX11_toss 2 = .ok (.invokevirtual 149, 3) := by decide +kernel
theorem dX11_toss_5 : decode cX11_toss 5 = .ok (.astore_n 2, 1) := by decide +kernel
theorem dX11_toss_6 : decode cX11_toss 6 = .ok (.aload_n 2, 1) := by decide +kernel
theorem dX11_toss_7 : decode cX11_toss 7 = .ok (.ifnonnull 9, 3) := by decide +kernel
theorem dX11_toss_10 : decode cX11_toss 10 = .ok (.aload_n 0, 1) := by decide +kernel
theorem dX11_toss_11 : decode cX11_toss 11 = .ok (.iload_n 1, 1) := by decide +kernel
theorem dX11_toss_12 : decode cX11_toss 12 = .ok (.invokevirtual 67, 3) := by decide +kernel
theorem dX11_toss_15 : decode cX11_toss 15 = .ok (.ireturn, 1) := by decide +kernel
theorem dX11_toss_16 : decode cX11_toss 16 = .ok (.aload_n 2, 1) := by decide +kernel
theorem dX11_toss_17 : decode cX11_toss 17 = .ok (.invokevirtual 330, 3) := by decide +kernel
theorem dX11_toss_20 : decode cX11_toss 20 = .ok (.goto 28, 3) := by decide +kernel
theorem dX11_toss_23 : decode cX11_toss 23 = .ok (.astore_n 3, 1) := by decide +kernel
theorem dX11_toss_24 : decode cX11_toss 24 = .ok (.sipush 200, 3) := by decide +kernel
theorem dX11_toss_27 : decode cX11_toss 27 = .ok (.aload_n 2, 1) := by decide +kernel
theorem dX11_toss_28 : decode cX11_toss 28 = .ok (.getfield 327, 3) := by decide +kernel
theorem dX11_toss_31 : decode cX11_toss 31 = .ok (.iadd, 1) := by decide +kernel
theorem dX11_toss_32 : decode cX11_toss 32 = .ok (.ireturn, 1) := by decide +kernel
theorem dX11_toss_33 : decode cX11_toss 33 = .ok (.astore_n 3, 1) := by decide +kernel
theorem dX11_toss_34 : decode cX11_toss 34 = .ok (.bipush 100, 2) := by decide +kernel
theorem dX11_toss_36 : decode cX11_toss 36 = .ok (.aload_n 2, 1) := by decide +kernel
theorem dX11_toss_37 : decode cX11_toss 37 = .ok (.getfield 115, 3) := by decide +kernel
theorem dX11_toss_40 : decode cX11_toss 40 = .ok (.iadd, 1) := by decide +kernel
theorem dX11_toss_41 : decode cX11_toss 41 = .ok (.ireturn, 1) := by decide +kernel
theorem dX11_toss_42 : decode cX11_toss 42 = .ok (.astore_n 3, 1) := by decide +kernel
theorem dX11_toss_43 : decode cX11_toss 43 = .ok (.aload_n 2, 1) := by decide +kernel
theorem dX11_toss_44 : decode cX11_toss 44 = .ok (.getfield 115, 3) := by decide +kernel
theorem dX11_toss_47 : decode cX11_toss 47 = .ok (.ireturn, 1) := by decide +kernel
theorem dX11_toss_48 : decode cX11_toss 48 = .ok (.bipush (-15), 2) := by decide +kernel
theorem dX11_toss_50 : decode cX11_toss 50 = .ok (.ireturn, 1) := by decide +kernel
theorem dX11_within_0 : decode cX11_within 0 = .ok (.iload_n 0, 1) := by decide +kernel
theorem dX11_within_1 : decode cX11_within 1 = .ok (.iload_n 1, 1) := by decide +kernel
theorem dX11_within_2 : decode cX11_within 2 = .ok (.if_icmp .lt 12, 3) := by decide +kernel
theorem dX11_within_5 : decode cX11_within 5 = .ok (.iload_n 0, 1) := by decide +kernel
theorem dX11_within_6 : decode cX11_within 6 = .ok (.iload_n 2, 1) := by decide +kernel
theorem dX11_within_7 : decode cX11_within 7 = .ok (.if_icmp .gt 7, 3) := by decide +kernel
theorem dX11_within_10 : decode cX11_within 10 = .ok (.iconst 1, 1) := by decide +kernel
theorem dX11_within_11 : decode cX11_within 11 = .ok (.goto 4, 3) := by decide +kernel
theorem dX11_within_14 : decode cX11_within 14 = .ok (.iconst 0, 1) := by decide +kernel
theorem dX11_within_15 : decode cX11_within 15 = .ok (.ireturn, 1) := by decide +kernel
theorem dX11_isShelf_0 : decode cX11_isShelf 0 = .ok (.iload_n 0, 1) := by decide +kernel
theorem dX11_isShelf_1 : decode cX11_isShelf 1 = .ok (.iconst 0, 1) := by decide +kernel
theorem dX11_isShelf_2 : decode cX11_isShelf 2 = .ok (.bipush 7, 2) := by decide +kernel
theorem dX11_isShelf_4 : decode cX11_isShelf 4 = .ok (.invokestatic 145, 3) := by decide +kernel
theorem dX11_isShelf_7 : decode cX11_isShelf 7 = .ok (.ireturn, 1) := by decide +kernel
theorem dX11_isEmpty_0 : decode cX11_isEmpty 0 = .ok (.aload_n 0, 1) := by decide +kernel
theorem dX11_isEmpty_1 : decode cX11_isEmpty 1 = .ok (.iload_n 1, 1) := by decide +kernel
theorem dX11_isEmpty_2 : decode cX11_isEmpty 2 = .ok (.invokevirtual 63, 3) := by decide +kernel
theorem dX11_isEmpty_5 : decode cX11_isEmpty 5 = .ok (.ifnonnull 15, 3) := by decide +kernel
theorem dX11_isEmpty_8 : decode cX11_isEmpty 8 = .ok (.aload_n 0, 1) := by decide +kernel
theorem dX11_isEmpty_9 : decode cX11_isEmpty 9 = .ok (.iload_n 1, 1) := by decide +kernel
theorem dX11_isEmpty_10 : decode cX11_isEmpty 10 = .ok (.invokevirtual 149, 3) := by decide +kernel
theorem dX11_isEmpty_13 : decode cX11_isEmpty 13 = .ok (.ifnonnull 7, 3) := by decide +kernel
theorem dX11_isEmpty_16 : decode cX11_isEmpty 16 = .ok (.iconst 1, 1) := by decide +kernel
theorem dX11_isEmpty_17 : decode cX11_isEmpty 17 = .ok (.goto 4, 3) := by decide +kernel
theorem dX11_isEmpty_20 : decode cX11_isEmpty 20 = .ok (.iconst 0, 1) := by decide +kernel
theorem dX11_isEmpty_21 : decode cX11_isEmpty 21 = .ok (.ireturn, 1) := by decide +kernel
theorem dX11_rowOn_0 : decode cX11_rowOn 0 = .ok (.iload_n 1, 1) := by decide +kernel
theorem dX11_rowOn_1 : decode cX11_rowOn 1 = .ok (.invokestatic 142, 3) := by decide +kernel
theorem dX11_rowOn_4 : decode cX11_rowOn 4 = .ok (.ifCond .eq 12, 3) := by decide +kernel
theorem dX11_rowOn_7 : decode cX11_rowOn 7 = .ok (.aload_n 0, 1) := by decide +kernel
theorem dX11_rowOn_8 : decode cX11_rowOn 8 = .ok (.getfield 36, 3) := by decide +kernel
theorem dX11_rowOn_11 : decode cX11_rowOn 11 = .ok (.iload_n 1, 1) := by decide +kernel
theorem dX11_rowOn_12 : decode cX11_rowOn 12 = .ok (.aaload, 1) := by decide +kernel
theorem dX11_rowOn_13 : decode cX11_rowOn 13 = .ok (.goto 4, 3) := by decide +kernel
theorem dX11_rowOn_16 : decode cX11_rowOn 16 = .ok (.aconst_null, 1) := by decide +kernel
theorem dX11_rowOn_17 : decode cX11_rowOn 17 = .ok (.areturn, 1) := by decide +kernel
theorem dX11_kindOn_0 : decode cX11_kindOn 0 = .ok (.iload_n 1, 1) := by decide +kernel
theorem dX11_kindOn_1 : decode cX11_kindOn 1 = .ok (.invokestatic 142, 3) := by decide +kernel
theorem dX11_kindOn_4 : decode cX11_kindOn 4 = .ok (.ifCond .eq 12, 3) := by decide +kernel
theorem dX11_kindOn_7 : decode cX11_kindOn 7 = .ok (.aload_n 0, 1) := by decide +kernel
theorem dX11_kindOn_8 : decode cX11_kindOn 8 = .ok (.getfield 30, 3) := by decide +kernel
theorem dX11_kindOn_11 : decode cX11_kindOn 11 = .ok (.iload_n 1, 1) := by decide +kernel
theorem dX11_kindOn_12 : decode cX11_kindOn 12 = .ok (.aaload, 1) := by decide +kernel
theorem dX11_kindOn_13 : decode cX11_kindOn 13 = .ok (.goto 4, 3) := by decide +kernel
theorem dX11_kindOn_16 : decode cX11_kindOn 16 = .ok (.aconst_null, 1) := by decide +kernel
theorem dX11_kindOn_17 : decode cX11_kindOn 17 = .ok (.areturn, 1) := by decide +kernel
theorem dX11_whyNot_0 : decode cX11_whyNot 0 = .ok (.iload_n 1, 1) := by decide +kernel
theorem dX11_whyNot_1 : decode cX11_whyNot 1 = .ok (.invokestatic 142, 3) := by decide +kernel
theorem dX11_whyNot_4 : decode cX11_whyNot 4 = .ok (.ifCond .ne 5, 3) := by decide +kernel
theorem dX11_whyNot_7 : decode cX11_whyNot 7 = .ok (.iconst (-1), 1) := by decide +kernel
theorem dX11_whyNot_8 : decode cX11_whyNot 8 = .ok (.ireturn, 1) := by decide +kernel
theorem dX11_whyNot_9 : decode cX11_whyNot 9 = .ok (.aload_n 0, 1) := by decide +kernel
theorem dX11_whyNot_10 : decode cX11_whyNot 10 = .ok (.iload_n 1, 1) := by decide +kernel
theorem dX11_whyNot_11 : decode cX11_whyNot 11 = .ok (.invokevirtual 312, 3) := by decide +kernel
theorem dX11_whyNot_14 : decode cX11_whyNot 14 = .ok (.ifCond .eq 8, 3) := by decide +kernel
theorem dX11_whyNot_17 : decode cX11_whyNot 17 = .ok (.bipush (-11), 2) := by decide +kernel
theorem dX11_whyNot_19 : decode cX11_whyNot 19 = .ok (.goto 5, 3) := by decide +kernel
theorem dX11_whyNot_22 : decode cX11_whyNot 22 = .ok (.bipush (-12), 2) := by decide +kernel
theorem dX11_whyNot_24 : decode cX11_whyNot 24 = .ok (.ireturn, 1) := by decide +kernel
theorem dX11_fromNow_0 : decode cX11_fromNow 0 = .ok (.aload_n 0, 1) := by decide +kernel
theorem dX11_fromNow_1 : decode cX11_fromNow 1 = .ok (.getfield 11, 3) := by decide +kernel
theorem dX11_fromNow_4 : decode cX11_fromNow 4 = .ok (.iconst 0, 1) := by decide +kernel
theorem dX11_fromNow_5 : decode cX11_fromNow 5 = .ok (.aaload, 1) := by decide +kernel
theorem dX11_fromNow_6 : decode cX11_fromNow 6 = .ok (.aload_n 0, 1) := by decide +kernel
theorem dX11_fromNow_7 : decode cX11_fromNow 7 = .ok (.getfield 46, 3) := by decide +kernel
theorem dX11_fromNow_10 : decode cX11_fromNow 10 = .ok (.invokevirtual 96, 3) := by decide +kernel
theorem dX11_fromNow_13 : decode cX11_fromNow 13 = .ok (.aload_n 0, 1) := by decide +kernel
theorem dX11_fromNow_14 : decode cX11_fromNow 14 = .ok (.getfield 11, 3) := by decide +kernel
theorem dX11_fromNow_17 : decode cX11_fromNow 17 = .ok (.iconst 0, 1) := by decide +kernel
theorem dX11_fromNow_18 : decode cX11_fromNow 18 = .ok (.aaload, 1) := by decide +kernel
theorem dX11_fromNow_19 : decode cX11_fromNow 19 = .ok (.areturn, 1) := by decide +kernel
theorem dX11_fewestAlone_0 : decode cX11_fewestAlone 0 = .ok (.aload_n 0, 1) := by decide +kernel
theorem dX11_fewestAlone_1 : decode cX11_fewestAlone 1 = .ok (.getfield 15, 3) := by decide +kernel
theorem dX11_fewestAlone_4 : decode cX11_fewestAlone 4 = .ok (.iconst (-1), 1) := by decide +kernel
theorem dX11_fewestAlone_5 : decode cX11_fewestAlone 5 = .ok (.invokestatic 335, 3) := by decide +kernel
theorem dX11_fewestAlone_8 : decode cX11_fewestAlone 8 = .ok (.aload_n 0, 1) := by decide +kernel
theorem dX11_fewestAlone_9 : decode cX11_fewestAlone 9 = .ok (.aload_n 1, 1) := by decide +kernel
theorem dX11_fewestAlone_10 : decode cX11_fewestAlone 10 = .ok (.invokestatic 341, 3) := by decide +kernel
theorem dX11_fewestAlone_13 : decode cX11_fewestAlone 13 = .ok (.iconst 0, 1) := by decide +kernel
theorem dX11_fewestAlone_14 : decode cX11_fewestAlone 14 = .ok (.iconst 0, 1) := by decide +kernel
theorem dX11_fewestAlone_15 : decode cX11_fewestAlone 15 = .ok (.invokevirtual 345, 3) := by decide +kernel
theorem dX11_fewestAlone_18 : decode cX11_fewestAlone 18 = .ok (.istore_n 3, 1) := by decide +kernel
theorem dX11_fewestAlone_19 : decode cX11_fewestAlone 19 = .ok (.iconst 0, 1) := by decide +kernel
theorem dX11_fewestAlone_20 : decode cX11_fewestAlone 20 = .ok (.istore 4, 2) := by decide +kernel
theorem dX11_fewestAlone_22 : decode cX11_fewestAlone 22 = .ok (.iload 4, 2) := by decide +kernel
theorem dX11_fewestAlone_24 : decode cX11_fewestAlone 24 = .ok (.iload_n 3, 1) := by decide +kernel
theorem dX11_fewestAlone_25 : decode cX11_fewestAlone 25 = .ok (.if_icmp .ge 139, 3) := by decide +kernel
theorem dX11_fewestAlone_28 : decode cX11_fewestAlone 28 = .ok (.iload 4, 2) := by decide +kernel
theorem dX11_fewestAlone_30 : decode cX11_fewestAlone 30 = .ok (.aload_n 0, 1) := by decide +kernel
theorem dX11_fewestAlone_31 : decode cX11_fewestAlone 31 = .ok (.getfield 19, 3) := by decide +kernel
theorem dX11_fewestAlone_34 : decode cX11_fewestAlone 34 = .ok (.arraylength, 1) := by decide +kernel
theorem dX11_fewestAlone_35 : decode cX11_fewestAlone 35 = .ok (.if_icmp .ge 129, 3) := by decide +kernel
theorem dX11_fewestAlone_38 : decode cX11_fewestAlone 38 = .ok (.aload_n 0, 1) := by decide +kernel
theorem dX11_fewestAlone_39 : decode cX11_fewestAlone 39 = .ok (.getfield 19, 3) := by decide +kernel
theorem dX11_fewestAlone_42 : decode cX11_fewestAlone 42 = .ok (.iload 4, 2) := by decide +kernel
theorem dX11_fewestAlone_44 : decode cX11_fewestAlone 44 = .ok (.iaload, 1) := by decide +kernel
theorem dX11_fewestAlone_45 : decode cX11_fewestAlone 45 = .ok (.istore 5, 2) := by decide +kernel
theorem dX11_fewestAlone_47 : decode cX11_fewestAlone 47 = .ok (.aload_n 0, 1) := by decide +kernel
theorem dX11_fewestAlone_48 : decode cX11_fewestAlone 48 = .ok (.getfield 15, 3) := by decide +kernel
theorem dX11_fewestAlone_51 : decode cX11_fewestAlone 51 = .ok (.iload 5, 2) := by decide +kernel
theorem dX11_fewestAlone_53 : decode cX11_fewestAlone 53 = .ok (.iaload, 1) := by decide +kernel
theorem dX11_fewestAlone_54 : decode cX11_fewestAlone 54 = .ok (.istore 6, 2) := by decide +kernel
theorem dX11_fewestAlone_56 : decode cX11_fewestAlone 56 = .ok (.iload 5, 2) := by decide +kernel
theorem dX11_fewestAlone_58 : decode cX11_fewestAlone 58 = .ok (.bipush 21, 2) := by decide +kernel
theorem dX11_fewestAlone_60 : decode cX11_fewestAlone 60 = .ok (.idiv, 1) := by decide +kernel
theorem dX11_fewestAlone_61 : decode cX11_fewestAlone 61 = .ok (.bipush 7, 2) := by decide +kernel
theorem dX11_fewestAlone_63 : decode cX11_fewestAlone 63 = .ok (.if_icmp .ne 18, 3) := by decide +kernel
theorem dX11_fewestAlone_66 : decode cX11_fewestAlone 66 = .ok (.iload 6, 2) := by decide +kernel
theorem dX11_fewestAlone_68 : decode cX11_fewestAlone 68 = .ok (.bipush 60, 2) := by decide +kernel
theorem dX11_fewestAlone_70 : decode cX11_fewestAlone 70 = .ok (.if_icmp .gt 8, 3) := by decide +kernel
theorem dX11_fewestAlone_73 : decode cX11_fewestAlone 73 = .ok (.iload 6, 2) := by decide +kernel
theorem dX11_fewestAlone_75 : decode cX11_fewestAlone 75 = .ok (.goto 5, 3) := by decide +kernel
theorem dX11_fewestAlone_78 : decode cX11_fewestAlone 78 = .ok (.bipush (-4), 2) := by decide +kernel
theorem dX11_fewestAlone_80 : decode cX11_fewestAlone 80 = .ok (.ireturn, 1) := by decide +kernel
theorem dX11_fewestAlone_81 : decode cX11_fewestAlone 81 = .ok (.iload_n 2, 1) := by decide +kernel
theorem dX11_fewestAlone_82 : decode cX11_fewestAlone 82 = .ok (.istore 7, 2) := by decide +kernel
theorem dX11_fewestAlone_84 : decode cX11_fewestAlone 84 = .ok (.iload 7, 2) := by decide +kernel
theorem dX11_fewestAlone_86 : decode cX11_fewestAlone 86 = .ok (.iconst 2, 1) := by decide +kernel
theorem dX11_fewestAlone_87 : decode cX11_fewestAlone 87 = .ok (.if_icmp .gt 71, 3) := by decide +kernel
theorem dX11_fewestAlone_90 : decode cX11_fewestAlone 90 = .ok (.aload_n 0, 1) := by decide +kernel
theorem dX11_fewestAlone_91 : decode cX11_fewestAlone 91 = .ok (.getfield 56, 3) := by decide +kernel
theorem dX11_fewestAlone_94 : decode cX11_fewestAlone 94 = .ok (.aload_n 1, 1) := by decide +kernel
theorem dX11_fewestAlone_95 : decode cX11_fewestAlone 95 = .ok (.getfield 108, 3) := by decide +kernel
theorem dX11_fewestAlone_98 : decode cX11_fewestAlone 98 = .ok (.putfield 108, 3) := by decide +kernel
theorem dX11_fewestAlone_101 : decode cX11_fewestAlone 101 = .ok (.aload_n 0, 1) := by decide +kernel
theorem dX11_fewestAlone_102 : decode cX11_fewestAlone 102 = .ok (.getfield 56, 3) := by decide +kernel
theorem dX11_fewestAlone_105 : decode cX11_fewestAlone 105 = .ok (.iload 5, 2) := by decide +kernel
theorem dX11_fewestAlone_107 : decode cX11_fewestAlone 107 = .ok (.bipush 21, 2) := by decide +kernel
theorem dX11_fewestAlone_109 : decode cX11_fewestAlone 109 = .ok (.irem, 1) := by decide +kernel
theorem dX11_fewestAlone_110 : decode cX11_fewestAlone 110 = .ok (.putfield 118, 3) := by decide +kernel
theorem dX11_fewestAlone_113 : decode cX11_fewestAlone 113 = .ok (.aload_n 0, 1) := by decide +kernel
theorem dX11_fewestAlone_114 : decode cX11_fewestAlone 114 = .ok (.getfield 56, 3) := by decide +kernel
theorem dX11_fewestAlone_117 : decode cX11_fewestAlone 117 = .ok (.iload 5, 2) := by decide +kernel
theorem dX11_fewestAlone_119 : decode cX11_fewestAlone 119 = .ok (.bipush 21, 2) := by decide +kernel
theorem dX11_fewestAlone_121 : decode cX11_fewestAlone 121 = .ok (.idiv, 1) := by decide +kernel
theorem dX11_fewestAlone_122 : decode cX11_fewestAlone 122 = .ok (.putfield 121, 3) := by decide +kernel
theorem dX11_fewestAlone_125 : decode cX11_fewestAlone 125 = .ok (.aload_n 0, 1) := by decide +kernel
theorem dX11_fewestAlone_126 : decode cX11_fewestAlone 126 = .ok (.getfield 56, 3) := by decide +kernel
theorem dX11_fewestAlone_129 : decode cX11_fewestAlone 129 = .ok (.iload 7, 2) := by decide +kernel
theorem dX11_fewestAlone_131 : decode cX11_fewestAlone 131 = .ok (.invokevirtual 349, 3) := by decide +kernel
theorem dX11_fewestAlone_134 : decode cX11_fewestAlone 134 = .ok (.pop, 1) := by decide +kernel
theorem dX11_fewestAlone_135 : decode cX11_fewestAlone 135 = .ok (.aload_n 0, 1) := by decide +kernel
theorem dX11_fewestAlone_136 : decode cX11_fewestAlone 136 = .ok (.aload_n 0, 1) := by decide +kernel
theorem dX11_fewestAlone_137 : decode cX11_fewestAlone 137 = .ok (.getfield 56, 3) := by decide +kernel
theorem dX11_fewestAlone_140 : decode cX11_fewestAlone 140 = .ok (.invokestatic 341, 3) := by decide +kernel
theorem dX11_fewestAlone_143 : decode cX11_fewestAlone 143 = .ok (.iload 6, 2) := by decide +kernel
theorem dX11_fewestAlone_145 : decode cX11_fewestAlone 145 = .ok (.iconst 1, 1) := by decide +kernel
theorem dX11_fewestAlone_146 : decode cX11_fewestAlone 146 = .ok (.iadd, 1) := by decide +kernel
theorem dX11_fewestAlone_147 : decode cX11_fewestAlone 147 = .ok (.iload_n 3, 1) := by decide +kernel
theorem dX11_fewestAlone_148 : decode cX11_fewestAlone 148 = .ok (.invokevirtual 345, 3) := by decide +kernel
theorem dX11_fewestAlone_151 : decode cX11_fewestAlone 151 = .ok (.istore_n 3, 1) := by decide +kernel
theorem dX11_fewestAlone_152 : decode cX11_fewestAlone 152 = .ok (.iinc 7 1, 3) := by decide +kernel
theorem dX11_fewestAlone_155 : decode cX11_fewestAlone 155 = .ok (.goto (-71), 3) := by decide +kernel
theorem dX11_fewestAlone_158 : decode cX11_fewestAlone 158 = .ok (.iinc 4 1, 3) := by decide +kernel
theorem dX11_fewestAlone_161 : decode cX11_fewestAlone 161 = .ok (.goto (-139), 3) := by decide +kernel
theorem dX11_fewestAlone_164 : decode cX11_fewestAlone 164 = .ok (.bipush (-4), 2) := by decide +kernel
theorem dX11_fewestAlone_166 : decode cX11_fewestAlone 166 = .ok (.ireturn, 1) := by decide +kernel
theorem dX11_reach_0 : decode cX11_reach 0 = .ok (.iload_n 1, 1) := by decide +kernel
theorem dX11_reach_1 : decode cX11_reach 1 = .ok (.iconst 0, 1) := by decide +kernel
theorem dX11_reach_2 : decode cX11_reach 2 = .ok (.aload_n 0, 1) := by decide +kernel
theorem dX11_reach_3 : decode cX11_reach 3 = .ok (.getfield 15, 3) := by decide +kernel
theorem dX11_reach_6 : decode cX11_reach 6 = .ok (.arraylength, 1) := by decide +kernel
theorem dX11_reach_7 : decode cX11_reach 7 = .ok (.iconst 1, 1) := by decide +kernel
theorem dX11_reach_8 : decode cX11_reach 8 = .ok (.isub, 1) := by decide +kernel
theorem dX11_reach_9 : decode cX11_reach 9 = .ok (.invokestatic 145, 3) := by decide +kernel
theorem dX11_reach_12 : decode cX11_reach 12 = .ok (.ifCond .eq 28, 3) := by decide +kernel
theorem dX11_reach_15 : decode cX11_reach 15 = .ok (.iload_n 3, 1) := by decide +kernel
theorem dX11_reach_16 : decode cX11_reach 16 = .ok (.iconst 0, 1) := by decide +kernel
theorem dX11_reach_17 : decode cX11_reach 17 = .ok (.aload_n 0, 1) := by decide +kernel
theorem dX11_reach_18 : decode cX11_reach 18 = .ok (.getfield 19, 3) := by decide +kernel
theorem dX11_reach_21 : decode cX11_reach 21 = .ok (.arraylength, 1) := by decide +kernel
theorem dX11_reach_22 : decode cX11_reach 22 = .ok (.iconst 1, 1) := by decide +kernel
theorem dX11_reach_23 : decode cX11_reach 23 = .ok (.isub, 1) := by decide +kernel
theorem dX11_reach_24 : decode cX11_reach 24 = .ok (.invokestatic 145, 3) := by decide +kernel
theorem dX11_reach_27 : decode cX11_reach 27 = .ok (.ifCond .eq 13, 3) := by decide +kernel
theorem dX11_reach_30 : decode cX11_reach 30 = .ok (.aload_n 0, 1) := by decide +kernel
theorem dX11_reach_31 : decode cX11_reach 31 = .ok (.getfield 15, 3) := by decide +kernel
theorem dX11_reach_34 : decode cX11_reach 34 = .ok (.iload_n 1, 1) := by decide +kernel
theorem dX11_reach_35 : decode cX11_reach 35 = .ok (.iaload, 1) := by decide +kernel
theorem dX11_reach_36 : decode cX11_reach 36 = .ok (.iconst (-1), 1) := by decide +kernel
theorem dX11_reach_37 : decode cX11_reach 37 = .ok (.if_icmp .eq 5, 3) := by decide +kernel
theorem dX11_reach_40 : decode cX11_reach 40 = .ok (.iload_n 3, 1) := by decide +kernel
theorem dX11_reach_41 : decode cX11_reach 41 = .ok (.ireturn, 1) := by decide +kernel
theorem dX11_reach_42 : decode cX11_reach 42 = .ok (.aload_n 0, 1) := by decide +kernel
theorem dX11_reach_43 : decode cX11_reach 43 = .ok (.getfield 15, 3) := by decide +kernel
theorem dX11_reach_46 : decode cX11_reach 46 = .ok (.iload_n 1, 1) := by decide +kernel
theorem dX11_reach_47 : decode cX11_reach 47 = .ok (.iload_n 2, 1) := by decide +kernel
theorem dX11_reach_48 : decode cX11_reach 48 = .ok (.iastore, 1) := by decide +kernel
theorem dX11_reach_49 : decode cX11_reach 49 = .ok (.aload_n 0, 1) := by decide +kernel
theorem dX11_reach_50 : decode cX11_reach 50 = .ok (.getfield 19, 3) := by decide +kernel
theorem dX11_reach_53 : decode cX11_reach 53 = .ok (.iload_n 3, 1) := by decide +kernel
theorem dX11_reach_54 : decode cX11_reach 54 = .ok (.iload_n 1, 1) := by decide +kernel
theorem dX11_reach_55 : decode cX11_reach 55 = .ok (.iastore, 1) := by decide +kernel
theorem dX11_reach_56 : decode cX11_reach 56 = .ok (.iload_n 3, 1) := by decide +kernel
theorem dX11_reach_57 : decode cX11_reach 57 = .ok (.iconst 1, 1) := by decide +kernel
theorem dX11_reach_58 : decode cX11_reach 58 = .ok (.iadd, 1) := by decide +kernel
theorem dX11_reach_59 : decode cX11_reach 59 = .ok (.ireturn, 1) := by decide +kernel
theorem dX11_stateOf_0 : decode cX11_stateOf 0 = .ok (.aload_n 0, 1) := by decide +kernel
theorem dX11_stateOf_1 : decode cX11_stateOf 1 = .ok (.getfield 121, 3) := by decide +kernel
theorem dX11_stateOf_4 : decode cX11_stateOf 4 = .ok (.bipush 21, 2) := by decide +kernel
theorem dX11_stateOf_6 : decode cX11_stateOf 6 = .ok (.imul, 1) := by decide +kernel
theorem dX11_stateOf_7 : decode cX11_stateOf 7 = .ok (.aload_n 0, 1) := by decide +kernel
theorem dX11_stateOf_8 : decode cX11_stateOf 8 = .ok (.getfield 118, 3) := by decide +kernel
theorem dX11_stateOf_11 : decode cX11_stateOf 11 = .ok (.iadd, 1) := by decide +kernel
theorem dX11_stateOf_12 : decode cX11_stateOf 12 = .ok (.ireturn, 1) := by decide +kernel
theorem dX11_firstWayAlone_0 : decode cX11_firstWayAlone 0 = .ok (.iconst 0, 1) := by decide +kernel
theorem dX11_firstWayAlone_1 : decode cX11_firstWayAlone 1 = .ok (.istore_n 3, 1) := by decide +kernel
theorem dX11_firstWayAlone_2 : decode cX11_firstWayAlone 2 = .ok (.iload_n 3, 1) := by decide +kernel
theorem dX11_firstWayAlone_3 : decode cX11_firstWayAlone 3 = .ok (.iconst 2, 1) := by decide +kernel
theorem dX11_firstWayAlone_4 : decode cX11_firstWayAlone 4 = .ok (.if_icmp .gt 47, 3) := by decide +kernel
theorem dX11_firstWayAlone_7 : decode cX11_firstWayAlone 7 = .ok (.iload_n 2, 1) := by decide +kernel
theorem dX11_firstWayAlone_8 : decode cX11_firstWayAlone 8 = .ok (.ifCond .le 43, 3) := by decide +kernel
theorem dX11_firstWayAlone_11 : decode cX11_firstWayAlone 11 = .ok (.aload_n 0, 1) := by decide +kernel
theorem dX11_firstWayAlone_12 : decode cX11_firstWayAlone 12 = .ok (.getfield 60, 3) := by decide +kernel
theorem dX11_firstWayAlone_15 : decode cX11_firstWayAlone 15 = .ok (.aload_n 1, 1) := by decide +kernel
theorem dX11_firstWayAlone_16 : decode cX11_firstWayAlone 16 = .ok (.invokevirtual 227, 3) := by decide +kernel
theorem dX11_firstWayAlone_19 : decode cX11_firstWayAlone 19 = .ok (.aload_n 0, 1) := by decide +kernel
theorem dX11_firstWayAlone_20 : decode cX11_firstWayAlone 20 = .ok (.getfield 60, 3) := by decide +kernel
theorem dX11_firstWayAlone_23 : decode cX11_firstWayAlone 23 = .ok (.iload_n 3, 1) := by decide +kernel
theorem dX11_firstWayAlone_24 : decode cX11_firstWayAlone 24 = .ok (.invokevirtual 349, 3) := by decide +kernel
theorem dX11_firstWayAlone_27 : decode cX11_firstWayAlone 27 = .ok (.pop, 1) := by decide +kernel
theorem dX11_firstWayAlone_28 : decode cX11_firstWayAlone 28 = .ok (.aload_n 0, 1) := by decide +kernel
theorem dX11_firstWayAlone_29 : decode cX11_firstWayAlone 29 = .ok (.aload_n 0, 1) := by decide +kernel
theorem dX11_firstWayAlone_30 : decode cX11_firstWayAlone 30 = .ok (.getfield 60, 3) := by decide +kernel
theorem dX11_firstWayAlone_33 : decode cX11_firstWayAlone 33 = .ok (.iconst 0, 1) := by decide +kernel
theorem dX11_firstWayAlone_34 : decode cX11_firstWayAlone 34 = .ok (.invokevirtual 189, 3) := by decide +kernel
theorem dX11_firstWayAlone_37 : decode cX11_firstWayAlone 37 = .ok (.iload_n 2, 1) := by decide +kernel
theorem dX11_firstWayAlone_38 : decode cX11_firstWayAlone 38 = .ok (.iconst 1, 1) := by decide +kernel
theorem dX11_firstWayAlone_39 : decode cX11_firstWayAlone 39 = .ok (.isub, 1) := by decide +kernel
theorem dX11_firstWayAlone_40 : decode cX11_firstWayAlone 40 = .ok (.if_icmp .ne 5, 3) := by decide +kernel
theorem dX11_firstWayAlone_43 : decode cX11_firstWayAlone 43 = .ok (.iload_n 3, 1) := by decide +kernel
theorem dX11_firstWayAlone_44 : decode cX11_firstWayAlone 44 = .ok (.ireturn, 1) := by decide +kernel
theorem dX11_firstWayAlone_45 : decode cX11_firstWayAlone 45 = .ok (.iinc 3 1, 3) := by decide +kernel
theorem dX11_firstWayAlone_48 : decode cX11_firstWayAlone 48 = .ok (.goto (-46), 3) := by decide +kernel
theorem dX11_firstWayAlone_51 : decode cX11_firstWayAlone 51 = .ok (.bipush (-4), 2) := by decide +kernel
theorem dX11_firstWayAlone_53 : decode cX11_firstWayAlone 53 = .ok (.ireturn, 1) := by decide +kernel
theorem dX11_mostFrom_0 : decode cX11_mostFrom 0 = .ok (.aload_n 0, 1) := by decide +kernel
theorem dX11_mostFrom_1 : decode cX11_mostFrom 1 = .ok (.getfield 11, 3) := by decide +kernel
theorem dX11_mostFrom_4 : decode cX11_mostFrom 4 = .ok (.iload_n 1, 1) := by decide +kernel
theorem dX11_mostFrom_5 : decode cX11_mostFrom 5 = .ok (.aaload, 1) := by decide +kernel
theorem dX11_mostFrom_6 : decode cX11_mostFrom 6 = .ok (.astore_n 3, 1) := by decide +kernel
theorem dX11_mostFrom_7 : decode cX11_mostFrom 7 = .ok (.aload_n 3, 1) := by decide +kernel
theorem dX11_mostFrom_8 : decode cX11_mostFrom 8 = .ok (.invokevirtual 183, 3) := by decide +kernel
theorem dX11_mostFrom_11 : decode cX11_mostFrom 11 = .ok (.istore 4, 2) := by decide +kernel
theorem dX11_mostFrom_13 : decode cX11_mostFrom 13 = .ok (.iload_n 2, 1) := by decide +kernel
theorem dX11_mostFrom_14 : decode cX11_mostFrom 14 = .ok (.iconst 1, 1) := by decide +kernel
theorem dX11_mostFrom_15 : decode cX11_mostFrom 15 = .ok (.if_icmp .le 14, 3) := by decide +kernel
theorem dX11_mostFrom_18 : decode cX11_mostFrom 18 = .ok (.iload_n 1, 1) := by decide +kernel
theorem dX11_mostFrom_19 : decode cX11_mostFrom 19 = .ok (.iconst 1, 1) := by decide +kernel
theorem dX11_mostFrom_20 : decode cX11_mostFrom 20 = .ok (.iadd, 1) := by decide +kernel
theorem dX11_mostFrom_21 : decode cX11_mostFrom 21 = .ok (.aload_n 0, 1) := by decide +kernel
theorem dX11_mostFrom_22 : decode cX11_mostFrom 22 = .ok (.getfield 11, 3) := by decide +kernel
theorem dX11_mostFrom_25 : decode cX11_mostFrom 25 = .ok (.arraylength, 1) := by decide +kernel
theorem dX11_mostFrom_26 : decode cX11_mostFrom 26 = .ok (.if_icmp .lt 25, 3) := by decide +kernel
theorem dX11_mostFrom_29 : decode cX11_mostFrom 29 = .ok (.iload_n 2, 1) := by decide +kernel
theorem dX11_mostFrom_30 : decode cX11_mostFrom 30 = .ok (.iconst 1, 1) := by decide +kernel
theorem dX11_mostFrom_31 : decode cX11_mostFrom 31 = .ok (.if_icmp .lt 17, 3) := by decide +kernel
theorem dX11_mostFrom_34 : decode cX11_mostFrom 34 = .ok (.aload_n 3, 1) := by decide +kernel
theorem dX11_mostFrom_35 : decode cX11_mostFrom 35 = .ok (.invokevirtual 352, 3) := by decide +kernel
theorem dX11_mostFrom_38 : decode cX11_mostFrom 38 = .ok (.ifCond .eq 10, 3) := by decide +kernel
theorem dX11_mostFrom_41 : decode cX11_mostFrom 41 = .ok (.iload 4, 2) := by decide +kernel
theorem dX11_mostFrom_43 : decode cX11_mostFrom 43 = .ok (.iconst 1, 1) := by decide +kernel
theorem dX11_mostFrom_44 : decode cX11_mostFrom 44 = .ok (.iadd, 1) := by decide +kernel
theorem dX11_mostFrom_45 : decode cX11_mostFrom 45 = .ok (.goto 5, 3) := by decide +kernel
theorem dX11_mostFrom_48 : decode cX11_mostFrom 48 = .ok (.iload 4, 2) := by decide +kernel
theorem dX11_mostFrom_50 : decode cX11_mostFrom 50 = .ok (.ireturn, 1) := by decide +kernel
theorem dX11_mostFrom_51 : decode cX11_mostFrom 51 = .ok (.aload_n 0, 1) := by decide +kernel
theorem dX11_mostFrom_52 : decode cX11_mostFrom 52 = .ok (.getfield 11, 3) := by decide +kernel
theorem dX11_mostFrom_55 : decode cX11_mostFrom 55 = .ok (.iload_n 1, 1) := by decide +kernel
theorem dX11_mostFrom_56 : decode cX11_mostFrom 56 = .ok (.iconst 1, 1) := by decide +kernel
theorem dX11_mostFrom_57 : decode cX11_mostFrom 57 = .ok (.iadd, 1) := by decide +kernel
theorem dX11_mostFrom_58 : decode cX11_mostFrom 58 = .ok (.aaload, 1) := by decide +kernel
theorem dX11_mostFrom_59 : decode cX11_mostFrom 59 = .ok (.astore 5, 2) := by decide +kernel
theorem dX11_mostFrom_61 : decode cX11_mostFrom 61 = .ok (.iconst 0, 1) := by decide +kernel
theorem dX11_mostFrom_62 : decode cX11_mostFrom 62 = .ok (.istore 6, 2) := by decide +kernel
theorem dX11_mostFrom_64 : decode cX11_mostFrom 64 = .ok (.iload 6, 2) := by decide +kernel
theorem dX11_mostFrom_66 : decode cX11_mostFrom 66 = .ok (.aload_n 3, 1) := by decide +kernel
theorem dX11_mostFrom_67 : decode cX11_mostFrom 67 = .ok (.getfield 161, 3) := by decide +kernel
theorem dX11_mostFrom_70 : decode cX11_mostFrom 70 = .ok (.if_icmp .ge 68, 3) := by decide +kernel
theorem dX11_mostFrom_73 : decode cX11_mostFrom 73 = .ok (.iconst 0, 1) := by decide +kernel
theorem dX11_mostFrom_74 : decode cX11_mostFrom 74 = .ok (.istore 7, 2) := by decide +kernel
theorem dX11_mostFrom_76 : decode cX11_mostFrom 76 = .ok (.iload 7, 2) := by decide +kernel
theorem dX11_mostFrom_78 : decode cX11_mostFrom 78 = .ok (.iconst 2, 1) := by decide +kernel
theorem dX11_mostFrom_79 : decode cX11_mostFrom 79 = .ok (.if_icmp .gt 53, 3) := by decide +kernel
theorem dX11_mostFrom_82 : decode cX11_mostFrom 82 = .ok (.aload_n 3, 1) := by decide +kernel
theorem dX11_mostFrom_83 : decode cX11_mostFrom 83 = .ok (.iload 6, 2) := by decide +kernel
theorem dX11_mostFrom_85 : decode cX11_mostFrom 85 = .ok (.iload 7, 2) := by decide +kernel
theorem dX11_mostFrom_87 : decode cX11_mostFrom 87 = .ok (.invokevirtual 270, 3) := by decide +kernel
theorem dX11_mostFrom_90 : decode cX11_mostFrom 90 = .ok (.ifCond .eq 36, 3) := by decide +kernel
theorem dX11_mostFrom_93 : decode cX11_mostFrom 93 = .ok (.aload 5, 2) := by decide +kernel
theorem dX11_mostFrom_95 : decode cX11_mostFrom 95 = .ok (.aload_n 3, 1) := by decide +kernel
theorem dX11_mostFrom_96 : decode cX11_mostFrom 96 = .ok (.invokevirtual 96, 3) := by decide +kernel
theorem dX11_mostFrom_99 : decode cX11_mostFrom 99 = .ok (.aload 5, 2) := by decide +kernel
theorem dX11_mostFrom_101 : decode cX11_mostFrom 101 = .ok (.iload 6, 2) := by decide +kernel
theorem dX11_mostFrom_103 : decode cX11_mostFrom 103 = .ok (.iload 7, 2) := by decide +kernel
theorem dX11_mostFrom_105 : decode cX11_mostFrom 105 = .ok (.invokevirtual 169, 3) := by decide +kernel
theorem dX11_mostFrom_108 : decode cX11_mostFrom 108 = .ok (.pop, 1) := by decide +kernel
theorem dX11_mostFrom_109 : decode cX11_mostFrom 109 = .ok (.iload 4, 2) := by decide +kernel
theorem dX11_mostFrom_111 : decode cX11_mostFrom 111 = .ok (.aload_n 0, 1) := by decide +kernel
theorem dX11_mostFrom_112 : decode cX11_mostFrom 112 = .ok (.iload_n 1, 1) := by decide +kernel
theorem dX11_mostFrom_113 : decode cX11_mostFrom 113 = .ok (.iconst 1, 1) := by decide +kernel
theorem dX11_mostFrom_114 : decode cX11_mostFrom 114 = .ok (.iadd, 1) := by decide +kernel
theorem dX11_mostFrom_115 : decode cX11_mostFrom 115 = .ok (.iload_n 2, 1) := by decide +kernel
theorem dX11_mostFrom_116 : decode cX11_mostFrom 116 = .ok (.iconst 1, 1) := by decide +kernel
theorem dX11_mostFrom_117 : decode cX11_mostFrom 117 = .ok (.isub, 1) := by decide +kernel
theorem dX11_mostFrom_118 : decode cX11_mostFrom 118 = .ok (.invokevirtual 196, 3) := by decide +kernel
theorem dX11_mostFrom_121 : decode cX11_mostFrom 121 = .ok (.invokestatic 233, 3) := by decide +kernel
theorem dX11_mostFrom_124 : decode cX11_mostFrom 124 = .ok (.istore 4, 2) := by decide +kernel
theorem dX11_mostFrom_126 : decode cX11_mostFrom 126 = .ok (.iinc 7 1, 3) := by decide +kernel
theorem dX11_mostFrom_129 : decode cX11_mostFrom 129 = .ok (.goto (-53), 3) := by decide +kernel
theorem dX11_mostFrom_132 : decode cX11_mostFrom 132 = .ok (.iinc 6 1, 3) := by decide +kernel
theorem dX11_mostFrom_135 : decode cX11_mostFrom 135 = .ok (.goto (-71), 3) := by decide +kernel
theorem dX11_mostFrom_138 : decode cX11_mostFrom 138 = .ok (.iload 4, 2) := by decide +kernel
theorem dX11_mostFrom_140 : decode cX11_mostFrom 140 = .ok (.ireturn, 1) := by decide +kernel
theorem dX11_firstMinuteTo_0 : decode cX11_firstMinuteTo 0 = .ok (.iconst 0, 1) := by decide +kernel
theorem dX11_firstMinuteTo_1 : decode cX11_firstMinuteTo 1 = .ok (.istore_n 3, 1) := by decide +kernel
theorem dX11_firstMinuteTo_2 : decode cX11_firstMinuteTo 2 = .ok (.iload_n 3, 1) := by decide +kernel
theorem dX11_firstMinuteTo_3 : decode cX11_firstMinuteTo 3 = .ok (.aload_n 0, 1) := by decide +kernel
theorem dX11_firstMinuteTo_4 : decode cX11_firstMinuteTo 4 = .ok (.getfield 46, 3) := by decide +kernel
theorem dX11_firstMinuteTo_7 : decode cX11_firstMinuteTo 7 = .ok (.getfield 161, 3) := by decide +kernel
theorem dX11_firstMinuteTo_10 : decode cX11_firstMinuteTo 10 = .ok (.if_icmp .ge 72, 3) := by decide +kernel
theorem dX11_firstMinuteTo_13 : decode cX11_firstMinuteTo 13 = .ok (.iload_n 2, 1) := by decide +kernel
theorem dX11_firstMinuteTo_14 : decode cX11_firstMinuteTo 14 = .ok (.ifCond .le 68, 3) := by decide +kernel
theorem dX11_firstMinuteTo_17 : decode cX11_firstMinuteTo 17 = .ok (.iconst 0, 1) := by decide +kernel
theorem dX11_firstMinuteTo_18 : decode cX11_firstMinuteTo 18 = .ok (.istore 4, 2) := by decide +kernel
theorem dX11_firstMinuteTo_20 : decode cX11_firstMinuteTo 20 = .ok (.iload 4, 2) := by decide +kernel
theorem dX11_firstMinuteTo_22 : decode cX11_firstMinuteTo 22 = .ok (.iconst 2, 1) := by decide +kernel
theorem dX11_firstMinuteTo_23 : decode cX11_firstMinuteTo 23 = .ok (.if_icmp .gt 53, 3) := by decide +kernel
theorem dX11_firstMinuteTo_26 : decode cX11_firstMinuteTo 26 = .ok (.aload_n 0, 1) := by decide +kernel
theorem dX11_firstMinuteTo_27 : decode cX11_firstMinuteTo 27 = .ok (.getfield 46, 3) := by decide +kernel
theorem dX11_firstMinuteTo_30 : decode cX11_firstMinuteTo 30 = .ok (.iload_n 3, 1) := by decide +kernel
theorem dX11_firstMinuteTo_31 : decode cX11_firstMinuteTo 31 = .ok (.iload 4, 2) := by decide +kernel
theorem dX11_firstMinuteTo_33 : decode cX11_firstMinuteTo 33 = .ok (.invokevirtual 270, 3) := by decide +kernel
theorem dX11_firstMinuteTo_36 : decode cX11_firstMinuteTo 36 = .ok (.ifCond .eq 34, 3) := by decide +kernel
theorem dX11_firstMinuteTo_39 : decode cX11_firstMinuteTo 39 = .ok (.aload_n 0, 1) := by decide +kernel
theorem dX11_firstMinuteTo_40 : decode cX11_firstMinuteTo 40 = .ok (.invokevirtual 79, 3) := by decide +kernel
theorem dX11_firstMinuteTo_43 : decode cX11_firstMinuteTo 43 = .ok (.iload_n 3, 1) := by decide +kernel
theorem dX11_firstMinuteTo_44 : decode cX11_firstMinuteTo 44 = .ok (.iload 4, 2) := by decide +kernel
theorem dX11_firstMinuteTo_46 : decode cX11_firstMinuteTo 46 = .ok (.invokevirtual 169, 3) := by decide +kernel
theorem dX11_firstMinuteTo_49 : decode cX11_firstMinuteTo 49 = .ok (.pop, 1) := by decide +kernel
theorem dX11_firstMinuteTo_50 : decode cX11_firstMinuteTo 50 = .ok (.aload_n 0, 1) := by decide +kernel
theorem dX11_firstMinuteTo_51 : decode cX11_firstMinuteTo 51 = .ok (.iconst 0, 1) := by decide +kernel
theorem dX11_firstMinuteTo_52 : decode cX11_firstMinuteTo 52 = .ok (.iload_n 2, 1) := by decide +kernel
theorem dX11_firstMinuteTo_53 : decode cX11_firstMinuteTo 53 = .ok (.iconst 1, 1) := by decide +kernel
theorem dX11_firstMinuteTo_54 : decode cX11_firstMinuteTo 54 = .ok (.isub, 1) := by decide +kernel
theorem dX11_firstMinuteTo_55 : decode cX11_firstMinuteTo 55 = .ok (.invokevirtual 196, 3) := by decide +kernel
theorem dX11_firstMinuteTo_58 : decode cX11_firstMinuteTo 58 = .ok (.iload_n 1, 1) := by decide +kernel
theorem dX11_firstMinuteTo_59 : decode cX11_firstMinuteTo 59 = .ok (.if_icmp .ne 11, 3) := by decide +kernel
theorem dX11_firstMinuteTo_62 : decode cX11_firstMinuteTo 62 = .ok (.bipush 10, 2) := by decide +kernel
theorem dX11_firstMinuteTo_64 : decode cX11_firstMinuteTo 64 = .ok (.iload_n 3, 1) := by decide +kernel
theorem dX11_firstMinuteTo_65 : decode cX11_firstMinuteTo 65 = .ok (.imul, 1) := by decide +kernel
theorem dX11_firstMinuteTo_66 : decode cX11_firstMinuteTo 66 = .ok (.iload 4, 2) := by decide +kernel
theorem dX11_firstMinuteTo_68 : decode cX11_firstMinuteTo 68 = .ok (.iadd, 1) := by decide +kernel
theorem dX11_firstMinuteTo_69 : decode cX11_firstMinuteTo 69 = .ok (.ireturn, 1) := by decide +kernel
theorem dX11_firstMinuteTo_70 : decode cX11_firstMinuteTo 70 = .ok (.iinc 4 1, 3) := by decide +kernel
theorem dX11_firstMinuteTo_73 : decode cX11_firstMinuteTo 73 = .ok (.goto (-53), 3) := by decide +kernel
theorem dX11_firstMinuteTo_76 : decode cX11_firstMinuteTo 76 = .ok (.iinc 3 1, 3) := by decide +kernel
theorem dX11_firstMinuteTo_79 : decode cX11_firstMinuteTo 79 = .ok (.goto (-77), 3) := by decide +kernel
theorem dX11_firstMinuteTo_82 : decode cX11_firstMinuteTo 82 = .ok (.bipush (-4), 2) := by decide +kernel
theorem dX11_firstMinuteTo_84 : decode cX11_firstMinuteTo 84 = .ok (.ireturn, 1) := by decide +kernel
theorem dX11_arrange_0 : decode cX11_arrange 0 = .ok (.iload_n 1, 1) := by decide +kernel
theorem dX11_arrange_1 : decode cX11_arrange 1 = .ok (.aload_n 0, 1) := by decide +kernel
theorem dX11_arrange_2 : decode cX11_arrange 2 = .ok (.getfield 46, 3) := by decide +kernel
theorem dX11_arrange_5 : decode cX11_arrange 5 = .ok (.getfield 161, 3) := by decide +kernel
theorem dX11_arrange_8 : decode cX11_arrange 8 = .ok (.if_icmp .lt 37, 3) := by decide +kernel
theorem dX11_arrange_11 : decode cX11_arrange 11 = .ok (.iload_n 3, 1) := by decide +kernel
theorem dX11_arrange_12 : decode cX11_arrange 12 = .ok (.aload_n 0, 1) := by decide +kernel
theorem dX11_arrange_13 : decode cX11_arrange 13 = .ok (.getfield 214, 3) := by decide +kernel
theorem dX11_arrange_16 : decode cX11_arrange 16 = .ok (.if_icmp .le 28, 3) := by decide +kernel
theorem dX11_arrange_19 : decode cX11_arrange 19 = .ok (.aload_n 0, 1) := by decide +kernel
theorem dX11_arrange_20 : decode cX11_arrange 20 = .ok (.iload_n 3, 1) := by decide +kernel
theorem dX11_arrange_21 : decode cX11_arrange 21 = .ok (.putfield 214, 3) := by decide +kernel
theorem dX11_arrange_24 : decode cX11_arrange 24 = .ok (.aload_n 0, 1) := by decide +kernel
theorem dX11_arrange_25 : decode cX11_arrange 25 = .ok (.getfield 22, 3) := by decide +kernel
theorem dX11_arrange_28 : decode cX11_arrange 28 = .ok (.iconst 0, 1) := by decide +kernel
theorem dX11_arrange_29 : decode cX11_arrange 29 = .ok (.aload_n 0, 1) := by decide +kernel
theorem dX11_arrange_30 : decode cX11_arrange 30 = .ok (.getfield 25, 3) := by decide +kernel
theorem dX11_arrange_33 : decode cX11_arrange 33 = .ok (.iconst 0, 1) := by decide +kernel
theorem dX11_arrange_34 : decode cX11_arrange 34 = .ok (.aload_n 0, 1) := by decide +kernel
theorem dX11_arrange_35 : decode cX11_arrange 35 = .ok (.getfield 46, 3) := by decide +kernel
theorem dX11_arrange_38 : decode cX11_arrange 38 = .ok (.getfield 161, 3) := by decide +kernel
theorem dX11_arrange_41 : decode cX11_arrange 41 = .ok (.invokestatic 321, 3) := by decide +kernel
theorem dX11_arrange_44 : decode cX11_arrange 44 = .ok (.return_, 1) := by decide +kernel
theorem dX11_arrange_45 : decode cX11_arrange 45 = .ok (.iconst 0, 1) := by decide +kernel
theorem dX11_arrange_46 : decode cX11_arrange 46 = .ok (.istore 4, 2) := by decide +kernel
theorem dX11_arrange_48 : decode cX11_arrange 48 = .ok (.iload 4, 2) := by decide +kernel
theorem dX11_arrange_50 : decode cX11_arrange 50 = .ok (.aload_n 0, 1) := by decide +kernel
theorem dX11_arrange_51 : decode cX11_arrange 51 = .ok (.getfield 46, 3) := by decide +kernel
theorem dX11_arrange_54 : decode cX11_arrange 54 = .ok (.getfield 161, 3) := by decide +kernel
theorem dX11_arrange_57 : decode cX11_arrange 57 = .ok (.if_icmp .ge 72, 3) := by decide +kernel
theorem dX11_arrange_60 : decode cX11_arrange 60 = .ok (.iload_n 2, 1) := by decide +kernel
theorem dX11_arrange_61 : decode cX11_arrange 61 = .ok (.iconst 1, 1) := by decide +kernel
theorem dX11_arrange_62 : decode cX11_arrange 62 = .ok (.iload 4, 2) := by decide +kernel
theorem dX11_arrange_64 : decode cX11_arrange 64 = .ok (.ishl, 1) := by decide +kernel
theorem dX11_arrange_65 : decode cX11_arrange 65 = .ok (.iand, 1) := by decide +kernel
theorem dX11_arrange_66 : decode cX11_arrange 66 = .ok (.ifCond .ne 57, 3) := by decide +kernel
theorem dX11_arrange_69 : decode cX11_arrange 69 = .ok (.aload_n 0, 1) := by decide +kernel
theorem dX11_arrange_70 : decode cX11_arrange 70 = .ok (.getfield 22, 3) := by decide +kernel
theorem dX11_arrange_73 : decode cX11_arrange 73 = .ok (.iload_n 1, 1) := by decide +kernel
theorem dX11_arrange_74 : decode cX11_arrange 74 = .ok (.iload 4, 2) := by decide +kernel
theorem dX11_arrange_76 : decode cX11_arrange 76 = .ok (.iastore, 1) := by decide +kernel
theorem dX11_arrange_77 : decode cX11_arrange 77 = .ok (.iload_n 1, 1) := by decide +kernel
theorem dX11_arrange_78 : decode cX11_arrange 78 = .ok (.ifCond .ne 7, 3) := by decide +kernel
theorem dX11_arrange_81 : decode cX11_arrange 81 = .ok (.iconst 0, 1) := by decide +kernel
theorem dX11_arrange_82 : decode cX11_arrange 82 = .ok (.goto 22, 3) := by decide +kernel
theorem dX11_arrange_85 : decode cX11_arrange 85 = .ok (.aload_n 0, 1) := by decide +kernel
theorem dX11_arrange_86 : decode cX11_arrange 86 = .ok (.aload_n 0, 1) := by decide +kernel
theorem dX11_arrange_87 : decode cX11_arrange 87 = .ok (.getfield 22, 3) := by decide +kernel
theorem dX11_arrange_90 : decode cX11_arrange 90 = .ok (.iload_n 1, 1) := by decide +kernel
theorem dX11_arrange_91 : decode cX11_arrange 91 = .ok (.iconst 1, 1) := by decide +kernel
theorem dX11_arrange_92 : decode cX11_arrange 92 = .ok (.isub, 1) := by decide +kernel
theorem dX11_arrange_93 : decode cX11_arrange 93 = .ok (.iaload, 1) := by decide +kernel
theorem dX11_arrange_94 : decode cX11_arrange 94 = .ok (.invokevirtual 355, 3) := by decide +kernel
theorem dX11_arrange_97 : decode cX11_arrange 97 = .ok (.aload_n 0, 1) := by decide +kernel
theorem dX11_arrange_98 : decode cX11_arrange 98 = .ok (.iload 4, 2) := by decide +kernel
theorem dX11_arrange_100 : decode cX11_arrange 100 = .ok (.invokevirtual 355, 3) := by decide +kernel
theorem dX11_arrange_103 : decode cX11_arrange 103 = .ok (.imul, 1) := by decide +kernel
theorem dX11_arrange_104 : decode cX11_arrange 104 = .ok (.istore 5, 2) := by decide +kernel
theorem dX11_arrange_106 : decode cX11_arrange 106 = .ok (.aload_n 0, 1) := by decide +kernel
theorem dX11_arrange_107 : decode cX11_arrange 107 = .ok (.iload_n 1, 1) := by decide +kernel
theorem dX11_arrange_108 : decode cX11_arrange 108 = .ok (.iconst 1, 1) := by decide +kernel
theorem dX11_arrange_109 : decode cX11_arrange 109 = .ok (.iadd, 1) := by decide +kernel
theorem dX11_arrange_110 : decode cX11_arrange 110 = .ok (.iload_n 2, 1) := by decide +kernel
theorem dX11_arrange_111 : decode cX11_arrange 111 = .ok (.iconst 1, 1) := by decide +kernel
theorem dX11_arrange_112 : decode cX11_arrange 112 = .ok (.iload 4, 2) := by decide +kernel
theorem dX11_arrange_114 : decode cX11_arrange 114 = .ok (.ishl, 1) := by decide +kernel
theorem dX11_arrange_115 : decode cX11_arrange 115 = .ok (.ior, 1) := by decide +kernel
theorem dX11_arrange_116 : decode cX11_arrange 116 = .ok (.iload_n 3, 1) := by decide +kernel
theorem dX11_arrange_117 : decode cX11_arrange 117 = .ok (.iload 5, 2) := by decide +kernel
theorem dX11_arrange_119 : decode cX11_arrange 119 = .ok (.iadd, 1) := by decide +kernel
theorem dX11_arrange_120 : decode cX11_arrange 120 = .ok (.invokevirtual 217, 3) := by decide +kernel
theorem dX11_arrange_123 : decode cX11_arrange 123 = .ok (.iinc 4 1, 3) := by decide +kernel
theorem dX11_arrange_126 : decode cX11_arrange 126 = .ok (.goto (-78), 3) := by decide +kernel
theorem dX11_arrange_129 : decode cX11_arrange 129 = .ok (.return_, 1) := by decide +kernel
theorem dX11_passesOf_0 : decode cX11_passesOf 0 = .ok (.aload_n 0, 1) := by decide +kernel
theorem dX11_passesOf_1 : decode cX11_passesOf 1 = .ok (.getfield 46, 3) := by decide +kernel
theorem dX11_passesOf_4 : decode cX11_passesOf 4 = .ok (.getfield 104, 3) := by decide +kernel
theorem dX11_passesOf_7 : decode cX11_passesOf 7 = .ok (.iload_n 1, 1) := by decide +kernel
theorem dX11_passesOf_8 : decode cX11_passesOf 8 = .ok (.aaload, 1) := by decide +kernel
theorem dX11_passesOf_9 : decode cX11_passesOf 9 = .ok (.getfield 108, 3) := by decide +kernel
theorem dX11_passesOf_12 : decode cX11_passesOf 12 = .ok (.getfield 139, 3) := by decide +kernel
theorem dX11_passesOf_15 : decode cX11_passesOf 15 = .ok (.ireturn, 1) := by decide +kernel
theorem dX11_outcomes_0 : decode cX11_outcomes 0 = .ok (.iload 4, 2) := by decide +kernel
theorem dX11_outcomes_2 : decode cX11_outcomes 2 = .ok (.ifCond .gt 14, 3) := by decide +kernel
theorem dX11_outcomes_5 : decode cX11_outcomes 5 = .ok (.iload_n 2, 1) := by decide +kernel
theorem dX11_outcomes_6 : decode cX11_outcomes 6 = .ok (.iload_n 3, 1) := by decide +kernel
theorem dX11_outcomes_7 : decode cX11_outcomes 7 = .ok (.if_icmp .lt 7, 3) := by decide +kernel
theorem dX11_outcomes_10 : decode cX11_outcomes 10 = .ok (.lconst 1, 1) := by decide +kernel
theorem dX11_outcomes_11 : decode cX11_outcomes 11 = .ok (.goto 4, 3) := by decide +kernel
theorem dX11_outcomes_14 : decode cX11_outcomes 14 = .ok (.lconst 0, 1) := by decide +kernel
theorem dX11_outcomes_15 : decode cX11_outcomes 15 = .ok (.lreturn, 1) := by decide +kernel
theorem dX11_outcomes_16 : decode cX11_outcomes 16 = .ok (.iload_n 2, 1) := by decide +kernel
theorem dX11_outcomes_17 : decode cX11_outcomes 17 = .ok (.bipush 7, 2) := by decide +kernel
theorem dX11_outcomes_19 : decode cX11_outcomes 19 = .ok (.if_icmp .lt 21, 3) := by decide +kernel
theorem dX11_outcomes_22 : decode cX11_outcomes 22 = .ok (.iload 5, 2) := by decide +kernel
theorem dX11_outcomes_24 : decode cX11_outcomes 24 = .ok (.i2l, 1) := by decide +kernel
theorem dX11_outcomes_25 : decode cX11_outcomes 25 = .ok (.aload_n 0, 1) := by decide +kernel
theorem dX11_outcomes_26 : decode cX11_outcomes 26 = .ok (.iload_n 1, 1) := by decide +kernel
theorem dX11_outcomes_27 : decode cX11_outcomes 27 = .ok (.iload_n 2, 1) := by decide +kernel
theorem dX11_outcomes_28 : decode cX11_outcomes 28 = .ok (.iload_n 3, 1) := by decide +kernel
theorem dX11_outcomes_29 : decode cX11_outcomes 29 = .ok (.iload 4, 2) := by decide +kernel
theorem dX11_outcomes_31 : decode cX11_outcomes 31 = .ok (.iconst 1, 1) := by decide +kernel
theorem dX11_outcomes_32 : decode cX11_outcomes 32 = .ok (.isub, 1) := by decide +kernel
theorem dX11_outcomes_33 : decode cX11_outcomes 33 = .ok (.iload 5, 2) := by decide +kernel
theorem dX11_outcomes_35 : decode cX11_outcomes 35 = .ok (.invokestatic 243, 3) := by decide +kernel
theorem dX11_outcomes_38 : decode cX11_outcomes 38 = .ok (.lmul, 1) := by decide +kernel
theorem dX11_outcomes_39 : decode cX11_outcomes 39 = .ok (.lreturn, 1) := by decide +kernel
theorem dX11_outcomes_40 : decode cX11_outcomes 40 = .ok (.iconst 0, 1) := by decide +kernel
theorem dX11_outcomes_41 : decode cX11_outcomes 41 = .ok (.iload_n 1, 1) := by decide +kernel
theorem dX11_outcomes_42 : decode cX11_outcomes 42 = .ok (.aload_n 0, 1) := by decide +kernel
theorem dX11_outcomes_43 : decode cX11_outcomes 43 = .ok (.getfield 133, 3) := by decide +kernel
theorem dX11_outcomes_46 : decode cX11_outcomes 46 = .ok (.isub, 1) := by decide +kernel
theorem dX11_outcomes_47 : decode cX11_outcomes 47 = .ok (.invokestatic 233, 3) := by decide +kernel
theorem dX11_outcomes_50 : decode cX11_outcomes 50 = .ok (.istore 6, 2) := by decide +kernel
theorem dX11_outcomes_52 : decode cX11_outcomes 52 = .ok (.aload_n 0, 1) := by decide +kernel
theorem dX11_outcomes_53 : decode cX11_outcomes 53 = .ok (.iload 6, 2) := by decide +kernel
theorem dX11_outcomes_55 : decode cX11_outcomes 55 = .ok (.iload_n 2, 1) := by decide +kernel
theorem dX11_outcomes_56 : decode cX11_outcomes 56 = .ok (.iload_n 3, 1) := by decide +kernel
theorem dX11_outcomes_57 : decode cX11_outcomes 57 = .ok (.iload 4, 2) := by decide +kernel
theorem dX11_outcomes_59 : decode cX11_outcomes 59 = .ok (.iconst 1, 1) := by decide +kernel
theorem dX11_outcomes_60 : decode cX11_outcomes 60 = .ok (.isub, 1) := by decide +kernel
theorem dX11_outcomes_61 : decode cX11_outcomes 61 = .ok (.iload 5, 2) := by decide +kernel
theorem dX11_outcomes_63 : decode cX11_outcomes 63 = .ok (.invokestatic 243, 3) := by decide +kernel
theorem dX11_outcomes_66 : decode cX11_outcomes 66 = .ok (.lstore 7, 2) := by decide +kernel
theorem dX11_outcomes_68 : decode cX11_outcomes 68 = .ok (.iload_n 1, 1) := by decide +kernel
theorem dX11_outcomes_69 : decode cX11_outcomes 69 = .ok (.aload_n 0, 1) := by decide +kernel
theorem dX11_outcomes_70 : decode cX11_outcomes 70 = .ok (.iload_n 2, 1) := by decide +kernel
theorem dX11_outcomes_71 : decode cX11_outcomes 71 = .ok (.invokevirtual 358, 3) := by decide +kernel
theorem dX11_outcomes_74 : decode cX11_outcomes 74 = .ok (.if_icmp .ge 10, 3) := by decide +kernel
theorem dX11_outcomes_77 : decode cX11_outcomes 77 = .ok (.iload 5, 2) := by decide +kernel
theorem dX11_outcomes_79 : decode cX11_outcomes 79 = .ok (.i2l, 1) := by decide +kernel
theorem dX11_outcomes_80 : decode cX11_outcomes 80 = .ok (.lload 7, 2) := by decide +kernel
theorem dX11_outcomes_82 : decode cX11_outcomes 82 = .ok (.lmul, 1) := by decide +kernel
theorem dX11_outcomes_83 : decode cX11_outcomes 83 = .ok (.lreturn, 1) := by decide +kernel
theorem dX11_outcomes_84 : decode cX11_outcomes 84 = .ok (.lload 7, 2) := by decide +kernel
theorem dX11_outcomes_86 : decode cX11_outcomes 86 = .ok (.iload 5, 2) := by decide +kernel
theorem dX11_outcomes_88 : decode cX11_outcomes 88 = .ok (.iconst 1, 1) := by decide +kernel
theorem dX11_outcomes_89 : decode cX11_outcomes 89 = .ok (.isub, 1) := by decide +kernel
theorem dX11_outcomes_90 : decode cX11_outcomes 90 = .ok (.i2l, 1) := by decide +kernel
theorem dX11_outcomes_91 : decode cX11_outcomes 91 = .ok (.aload_n 0, 1) := by decide +kernel
theorem dX11_outcomes_92 : decode cX11_outcomes 92 = .ok (.iload_n 1, 1) := by decide +kernel
theorem dX11_outcomes_93 : decode cX11_outcomes 93 = .ok (.iload_n 2, 1) := by decide +kernel
theorem dX11_outcomes_94 : decode cX11_outcomes 94 = .ok (.iconst 1, 1) := by decide +kernel
theorem dX11_outcomes_95 : decode cX11_outcomes 95 = .ok (.iadd, 1) := by decide +kernel
theorem dX11_outcomes_96 : decode cX11_outcomes 96 = .ok (.iload_n 3, 1) := by decide +kernel
theorem dX11_outcomes_97 : decode cX11_outcomes 97 = .ok (.iload 4, 2) := by decide +kernel
theorem dX11_outcomes_99 : decode cX11_outcomes 99 = .ok (.iconst 1, 1) := by decide +kernel
theorem dX11_outcomes_100 : decode cX11_outcomes 100 = .ok (.isub, 1) := by decide +kernel
theorem dX11_outcomes_101 : decode cX11_outcomes 101 = .ok (.iload 5, 2) := by decide +kernel
theorem dX11_outcomes_103 : decode cX11_outcomes 103 = .ok (.invokestatic 243, 3) := by decide +kernel
theorem dX11_outcomes_106 : decode cX11_outcomes 106 = .ok (.lmul, 1) := by decide +kernel
theorem dX11_outcomes_107 : decode cX11_outcomes 107 = .ok (.ladd, 1) := by decide +kernel
theorem dX11_outcomes_108 : decode cX11_outcomes 108 = .ok (.lreturn, 1) := by decide +kernel
theorem dX11_inLeastTerms_0 : decode cX11_inLeastTerms 0 = .ok (.lload_n 2, 1) := by decide +kernel
theorem dX11_inLeastTerms_1 : decode cX11_inLeastTerms 1 = .ok (.lstore 5, 2) := by decide +kernel
theorem dX11_inLeastTerms_3 : decode cX11_inLeastTerms 3 = .ok (.lload_n 0, 1) := by decide +kernel
theorem dX11_inLeastTerms_4 : decode cX11_inLeastTerms 4 = .ok (.lstore 7, 2) := by decide +kernel
theorem dX11_inLeastTerms_6 : decode cX11_inLeastTerms 6 = .ok (.iconst 0, 1) := by decide +kernel
theorem dX11_inLeastTerms_7 : decode cX11_inLeastTerms 7 = .ok (.istore 9, 2) := by decide +kernel
theorem dX11_inLeastTerms_9 : decode cX11_inLeastTerms 9 = .ok (.iload 9, 2) := by decide +kernel
theorem dX11_inLeastTerms_11 : decode cX11_inLeastTerms 11 = .ok (.bipush 100, 2) := by decide +kernel
theorem dX11_inLeastTerms_13 : decode cX11_inLeastTerms 13 = .ok (.if_icmp .ge 31, 3) := by decide +kernel
theorem dX11_inLeastTerms_16 : decode cX11_inLeastTerms 16 = .ok (.lload 7, 2) := by decide +kernel
theorem dX11_inLeastTerms_18 : decode cX11_inLeastTerms 18 = .ok (.lconst 0, 1) := by decide +kernel
theorem dX11_inLeastTerms_19 : decode cX11_inLeastTerms 19 = .ok (.lcmp, 1) := by decide +kernel
theorem dX11_inLeastTerms_20 : decode cX11_inLeastTerms 20 = .ok (.ifCond .eq 24, 3) := by decide +kernel
theorem dX11_inLeastTerms_23 : decode cX11_inLeastTerms 23 = .ok (.lload 5, 2) := by decide +kernel
theorem dX11_inLeastTerms_25 : decode cX11_inLeastTerms 25 = .ok (.lload 7, 2) := by decide +kernel
theorem dX11_inLeastTerms_27 : decode cX11_inLeastTerms 27 = .ok (.lrem, 1) := by decide +kernel
theorem dX11_inLeastTerms_28 : decode cX11_inLeastTerms 28 = .ok (.lstore 10, 2) := by decide +kernel
theorem dX11_inLeastTerms_30 : decode cX11_inLeastTerms 30 = .ok (.lload 7, 2) := by decide +kernel
theorem dX11_inLeastTerms_32 : decode cX11_inLeastTerms 32 = .ok (.lstore 5, 2) := by decide +kernel
theorem dX11_inLeastTerms_34 : decode cX11_inLeastTerms 34 = .ok (.lload 10, 2) := by decide +kernel
theorem dX11_inLeastTerms_36 : decode cX11_inLeastTerms 36 = .ok (.lstore 7, 2) := by decide +kernel
theorem dX11_inLeastTerms_38 : decode cX11_inLeastTerms 38 = .ok (.iinc 9 1, 3) := by decide +kernel
theorem dX11_inLeastTerms_41 : decode cX11_inLeastTerms 41 = .ok (.goto (-32), 3) := by decide +kernel
theorem dX11_inLeastTerms_44 : decode cX11_inLeastTerms 44 = .ok (.lload 5, 2) := by decide +kernel
theorem dX11_inLeastTerms_46 : decode cX11_inLeastTerms 46 = .ok (.lconst 0, 1) := by decide +kernel
theorem dX11_inLeastTerms_47 : decode cX11_inLeastTerms 47 = .ok (.lcmp, 1) := by decide +kernel
theorem dX11_inLeastTerms_48 : decode cX11_inLeastTerms 48 = .ok (.ifCond .ne 7, 3) := by decide +kernel
theorem dX11_inLeastTerms_51 : decode cX11_inLeastTerms 51 = .ok (.ldc2_w 241, 3) := by decide +kernel
theorem dX11_inLeastTerms_54 : decode cX11_inLeastTerms 54 = .ok (.lreturn, 1) := by decide +kernel
theorem dX11_inLeastTerms_55 : decode cX11_inLeastTerms 55 = .ok (.iload 4, 2) := by decide +kernel
theorem dX11_inLeastTerms_57 : decode cX11_inLeastTerms 57 = .ok (.ifCond .ne 10, 3) := by decide +kernel
theorem dX11_inLeastTerms_60 : decode cX11_inLeastTerms 60 = .ok (.lload_n 0, 1) := by decide +kernel
theorem dX11_inLeastTerms_61 : decode cX11_inLeastTerms 61 = .ok (.lload 5, 2) := by decide +kernel
theorem dX11_inLeastTerms_63 : decode cX11_inLeastTerms 63 = .ok (.ldiv, 1) := by decide +kernel
theorem dX11_inLeastTerms_64 : decode cX11_inLeastTerms 64 = .ok (.goto 7, 3) := by decide +kernel
theorem dX11_inLeastTerms_67 : decode cX11_inLeastTerms 67 = .ok (.lload_n 2, 1) := by decide +kernel
theorem dX11_inLeastTerms_68 : decode cX11_inLeastTerms 68 = .ok (.lload 5, 2) := by decide +kernel
theorem dX11_inLeastTerms_70 : decode cX11_inLeastTerms 70 = .ok (.ldiv, 1) := by decide +kernel
theorem dX11_inLeastTerms_71 : decode cX11_inLeastTerms 71 = .ok (.lreturn, 1) := by decide +kernel
theorem dX11_tellsHolding_0 : decode cX11_tellsHolding 0 = .ok (.iconst 0, 1) := by decide +kernel
theorem dX11_tellsHolding_1 : decode cX11_tellsHolding 1 = .ok (.istore_n 3, 1) := by decide +kernel
theorem dX11_tellsHolding_2 : decode cX11_tellsHolding 2 = .ok (.iload_n 3, 1) := by decide +kernel
theorem dX11_tellsHolding_3 : decode cX11_tellsHolding 3 = .ok (.aload_n 0, 1) := by decide +kernel
theorem dX11_tellsHolding_4 : decode cX11_tellsHolding 4 = .ok (.invokevirtual 83, 3) := by decide +kernel
theorem dX11_tellsHolding_7 : decode cX11_tellsHolding 7 = .ok (.if_icmp .ge 29, 3) := by decide +kernel
theorem dX11_tellsHolding_10 : decode cX11_tellsHolding 10 = .ok (.aload_n 0, 1) := by decide +kernel
theorem dX11_tellsHolding_11 : decode cX11_tellsHolding 11 = .ok (.iload_n 3, 1) := by decide +kernel
theorem dX11_tellsHolding_12 : decode cX11_tellsHolding 12 = .ok (.invokevirtual 90, 3) := by decide +kernel
theorem dX11_tellsHolding_15 : decode cX11_tellsHolding 15 = .ok (.bipush 20, 2) := by decide +kernel
theorem dX11_tellsHolding_17 : decode cX11_tellsHolding 17 = .ok (.iload_n 1, 1) := by decide +kernel
theorem dX11_tellsHolding_18 : decode cX11_tellsHolding 18 = .ok (.iload_n 3, 1) := by decide +kernel
theorem dX11_tellsHolding_19 : decode cX11_tellsHolding 19 = .ok (.iload_n 2, 1) := by decide +kernel
theorem dX11_tellsHolding_20 : decode cX11_tellsHolding 20 = .ok (.imul, 1) := by decide +kernel
theorem dX11_tellsHolding_21 : decode cX11_tellsHolding 21 = .ok (.iadd, 1) := by decide +kernel
theorem dX11_tellsHolding_22 : decode cX11_tellsHolding 22 = .ok (.invokestatic 238, 3) := by decide +kernel
theorem dX11_tellsHolding_25 : decode cX11_tellsHolding 25 = .ok (.if_icmp .eq 5, 3) := by decide +kernel
theorem dX11_tellsHolding_28 : decode cX11_tellsHolding 28 = .ok (.iconst 0, 1) := by decide +kernel
theorem dX11_tellsHolding_29 : decode cX11_tellsHolding 29 = .ok (.ireturn, 1) := by decide +kernel
theorem dX11_tellsHolding_30 : decode cX11_tellsHolding 30 = .ok (.iinc 3 1, 3) := by decide +kernel
theorem dX11_tellsHolding_33 : decode cX11_tellsHolding 33 = .ok (.goto (-31), 3) := by decide +kernel
theorem dX11_tellsHolding_36 : decode cX11_tellsHolding 36 = .ok (.iconst 1, 1) := by decide +kernel
theorem dX11_tellsHolding_37 : decode cX11_tellsHolding 37 = .ok (.ireturn, 1) := by decide +kernel
theorem dX11_staysWith_0 : decode cX11_staysWith 0 = .ok (.aload_n 0, 1) := by decide +kernel
theorem dX11_staysWith_1 : decode cX11_staysWith 1 = .ok (.iload_n 1, 1) := by decide +kernel
theorem dX11_staysWith_2 : decode cX11_staysWith 2 = .ok (.iload_n 2, 1) := by decide +kernel
theorem dX11_staysWith_3 : decode cX11_staysWith 3 = .ok (.invokestatic 361, 3) := by decide +kernel
theorem dX11_staysWith_6 : decode cX11_staysWith 6 = .ok (.aload_n 0, 1) := by decide +kernel
theorem dX11_staysWith_7 : decode cX11_staysWith 7 = .ok (.iconst 1, 1) := by decide +kernel
theorem dX11_staysWith_8 : decode cX11_staysWith 8 = .ok (.iload_n 1, 1) := by decide +kernel
theorem dX11_staysWith_9 : decode cX11_staysWith 9 = .ok (.isub, 1) := by decide +kernel
theorem dX11_staysWith_10 : decode cX11_staysWith 10 = .ok (.iload_n 2, 1) := by decide +kernel
theorem dX11_staysWith_11 : decode cX11_staysWith 11 = .ok (.invokestatic 361, 3) := by decide +kernel
theorem dX11_staysWith_14 : decode cX11_staysWith 14 = .ok (.if_icmp .lt 7, 3) := by decide +kernel
theorem dX11_staysWith_17 : decode cX11_staysWith 17 = .ok (.iconst 1, 1) := by decide +kernel
theorem dX11_staysWith_18 : decode cX11_staysWith 18 = .ok (.goto 4, 3) := by decide +kernel
theorem dX11_staysWith_21 : decode cX11_staysWith 21 = .ok (.iconst 0, 1) := by decide +kernel
theorem dX11_staysWith_22 : decode cX11_staysWith 22 = .ok (.ireturn, 1) := by decide +kernel
theorem dX11_daring_0 : decode cX11_daring 0 = .ok (.iload_n 1, 1) := by decide +kernel
theorem dX11_daring_1 : decode cX11_daring 1 = .ok (.ifCond .ne 6, 3) := by decide +kernel
theorem dX11_daring_4 : decode cX11_daring 4 = .ok (.iload_n 2, 1) := by decide +kernel
theorem dX11_daring_5 : decode cX11_daring 5 = .ok (.ineg, 1) := by decide +kernel
theorem dX11_daring_6 : decode cX11_daring 6 = .ok (.ireturn, 1) := by decide +kernel
theorem dX11_daring_7 : decode cX11_daring 7 = .ok (.iconst 1, 1) := by decide +kernel
theorem dX11_daring_8 : decode cX11_daring 8 = .ok (.iload_n 2, 1) := by decide +kernel
theorem dX11_daring_9 : decode cX11_daring 9 = .ok (.iadd, 1) := by decide +kernel
theorem dX11_daring_10 : decode cX11_daring 10 = .ok (.aload_n 0, 1) := by decide +kernel
theorem dX11_daring_11 : decode cX11_daring 11 = .ok (.invokevirtual 163, 3) := by decide +kernel
theorem dX11_daring_14 : decode cX11_daring 14 = .ok (.ifCond .ne 10, 3) := by decide +kernel
theorem dX11_daring_17 : decode cX11_daring 17 = .ok (.aload_n 0, 1) := by decide +kernel
theorem dX11_daring_18 : decode cX11_daring 18 = .ok (.invokevirtual 224, 3) := by decide +kernel
theorem dX11_daring_21 : decode cX11_daring 21 = .ok (.ifCond .eq 7, 3) := by decide +kernel
theorem dX11_daring_24 : decode cX11_daring 24 = .ok (.iconst 0, 1) := by decide +kernel
theorem dX11_daring_25 : decode cX11_daring 25 = .ok (.goto 10, 3) := by decide +kernel
theorem dX11_daring_28 : decode cX11_daring 28 = .ok (.aload_n 0, 1) := by decide +kernel
theorem dX11_daring_29 : decode cX11_daring 29 = .ok (.getfield 108, 3) := by decide +kernel
theorem dX11_daring_32 : decode cX11_daring 32 = .ok (.getfield 133, 3) := by decide +kernel
theorem dX11_daring_35 : decode cX11_daring 35 = .ok (.isub, 1) := by decide +kernel
theorem dX11_daring_36 : decode cX11_daring 36 = .ok (.ireturn, 1) := by decide +kernel
theorem dX11_seedBehind_0 : decode cX11_seedBehind 0 = .ok (.iload_n 0, 1) := by decide +kernel
theorem dX11_seedBehind_1 : decode cX11_seedBehind 1 = .ok (.ldc_w 365, 3) := by decide +kernel
theorem dX11_seedBehind_4 : decode cX11_seedBehind 4 = .ok (.imul, 1) := by decide +kernel
theorem dX11_seedBehind_5 : decode cX11_seedBehind 5 = .ok (.sipush 12345, 3) := by decide +kernel
theorem dX11_seedBehind_8 : decode cX11_seedBehind 8 = .ok (.iadd, 1) := by decide +kernel
theorem dX11_seedBehind_9 : decode cX11_seedBehind 9 = .ok (.ireturn, 1) := by decide +kernel
theorem dX11_below_0 : decode cX11_below 0 = .ok (.iload_n 0, 1) := by decide +kernel
theorem dX11_below_1 : decode cX11_below 1 = .ok (.ifCond .gt 7, 3) := by decide +kernel
theorem dX11_below_4 : decode cX11_below 4 = .ok (.iconst 0, 1) := by decide +kernel
theorem dX11_below_5 : decode cX11_below 5 = .ok (.goto 14, 3) := by decide +kernel
theorem dX11_below_8 : decode cX11_below 8 = .ok (.iload_n 1, 1) := by decide +kernel
theorem dX11_below_9 : decode cX11_below 9 = .ok (.ldc_w 366, 3) := by decide +kernel
theorem dX11_below_12 : decode cX11_below 12 = .ok (.iand, 1) := by decide +kernel
theorem dX11_below_13 : decode cX11_below 13 = .ok (.ldc_w 367, 3) := by decide +kernel
theorem dX11_below_16 : decode cX11_below 16 = .ok (.idiv, 1) := by decide +kernel
theorem dX11_below_17 : decode cX11_below 17 = .ok (.iload_n 0, 1) := by decide +kernel
theorem dX11_below_18 : decode cX11_below 18 = .ok (.irem, 1) := by decide +kernel
theorem dX11_below_19 : decode cX11_below 19 = .ok (.ireturn, 1) := by decide +kernel
theorem dX12_init_0 : decode cX12_init 0 = .ok (.aload_n 0, 1) := by decide +kernel
theorem dX12_init_1 : decode cX12_init 1 = .ok (.invokespecial 1, 3) := by decide +kernel
theorem dX12_init_4 : decode cX12_init 4 = .ok (.aload_n 0, 1) := by decide +kernel
theorem dX12_init_5 : decode cX12_init 5 = .ok (.bipush 6, 2) := by decide +kernel
theorem dX12_init_7 : decode cX12_init 7 = .ok (.newarray .int, 2) := by decide +kernel
theorem dX12_init_9 : decode cX12_init 9 = .ok (.putfield 7, 3) := by decide +kernel
theorem dX12_init_12 : decode cX12_init 12 = .ok (.aload_n 0, 1) := by decide +kernel
theorem dX12_init_13 : decode cX12_init 13 = .ok (.bipush 6, 2) := by decide +kernel
theorem dX12_init_15 : decode cX12_init 15 = .ok (.newarray .int, 2) := by decide +kernel
theorem dX12_init_17 : decode cX12_init 17 = .ok (.putfield 13, 3) := by decide +kernel
theorem dX12_init_20 : decode cX12_init 20 = .ok (.aload_n 0, 1) := by decide +kernel
theorem dX12_init_21 : decode cX12_init 21 = .ok (.bipush 6, 2) := by decide +kernel
theorem dX12_init_23 : decode cX12_init 23 = .ok (.newarray .int, 2) := by decide +kernel
theorem dX12_init_25 : decode cX12_init 25 = .ok (.putfield 16, 3) := by decide +kernel
theorem dX12_init_28 : decode cX12_init 28 = .ok (.aload_n 0, 1) := by decide +kernel
theorem dX12_init_29 : decode cX12_init 29 = .ok (.bipush 6, 2) := by decide +kernel
theorem dX12_init_31 : decode cX12_init 31 = .ok (.newarray .int, 2) := by decide +kernel
theorem dX12_init_33 : decode cX12_init 33 = .ok (.putfield 19, 3) := by decide +kernel
theorem dX12_init_36 : decode cX12_init 36 = .ok (.aload_n 0, 1) := by decide +kernel
theorem dX12_init_37 : decode cX12_init 37 = .ok (.bipush 6, 2) := by decide +kernel
theorem dX12_init_39 : decode cX12_init 39 = .ok (.newarray .int, 2) := by decide +kernel
theorem dX12_init_41 : decode cX12_init 41 = .ok (.putfield 22, 3) := by decide +kernel
theorem dX12_init_44 : decode cX12_init 44 = .ok (.aload_n 0, 1) := by decide +kernel
theorem dX12_init_45 : decode cX12_init 45 = .ok (.bipush 8, 2) := by decide +kernel
theorem dX12_init_47 : decode cX12_init 47 = .ok (.newarray .int, 2) := by decide +kernel
theorem dX12_init_49 : decode cX12_init 49 = .ok (.putfield 25, 3) := by decide +kernel
theorem dX12_init_52 : decode cX12_init 52 = .ok (.aload_n 0, 1) := by decide +kernel
theorem dX12_init_53 : decode cX12_init 53 = .ok (.bipush 8, 2) := by decide +kernel
theorem dX12_init_55 : decode cX12_init 55 = .ok (.newarray .int, 2) := by decide +kernel
theorem dX12_init_57 : decode cX12_init 57 = .ok (.putfield 28, 3) := by decide +kernel
theorem dX12_init_60 : decode cX12_init 60 = .ok (.aload_n 0, 1) := by decide +kernel
theorem dX12_init_61 : decode cX12_init 61 = .ok (.bipush 8, 2) := by decide +kernel
theorem dX12_init_63 : decode cX12_init 63 = .ok (.newarray .int, 2) := by decide +kernel
theorem dX12_init_65 : decode cX12_init 65 = .ok (.putfield 31, 3) := by decide +kernel
theorem dX12_init_68 : decode cX12_init 68 = .ok (.aload_n 0, 1) := by decide +kernel
theorem dX12_init_69 : decode cX12_init 69 = .ok (.bipush 8, 2) := by decide +kernel
theorem dX12_init_71 : decode cX12_init 71 = .ok (.newarray .int, 2) := by decide +kernel
theorem dX12_init_73 : decode cX12_init 73 = .ok (.putfield 34, 3) := by decide +kernel
theorem dX12_init_76 : decode cX12_init 76 = .ok (.aload_n 0, 1) := by decide +kernel
theorem dX12_init_77 : decode cX12_init 77 = .ok (.bipush 8, 2) := by decide +kernel
theorem dX12_init_79 : decode cX12_init 79 = .ok (.newarray .int, 2) := by decide +kernel
theorem dX12_init_81 : decode cX12_init 81 = .ok (.putfield 37, 3) := by decide +kernel
theorem dX12_init_84 : decode cX12_init 84 = .ok (.aload_n 0, 1) := by decide +kernel
theorem dX12_init_85 : decode cX12_init 85 = .ok (.sipush 800, 3) := by decide +kernel
theorem dX12_init_88 : decode cX12_init 88 = .ok (.newarray .long, 2) := by decide +kernel
theorem dX12_init_90 : decode cX12_init 90 = .ok (.putfield 40, 3) := by decide +kernel
theorem dX12_init_93 : decode cX12_init 93 = .ok (.aload_n 0, 1) := by decide +kernel
theorem dX12_init_94 : decode cX12_init 94 = .ok (.bipush 51, 2) := by decide +kernel
theorem dX12_init_96 : decode cX12_init 96 = .ok (.newarray .int, 2) := by decide +kernel
theorem dX12_init_98 : decode cX12_init 98 = .ok (.putfield 44, 3) := by decide +kernel
theorem dX12_init_101 : decode cX12_init 101 = .ok (.aload_n 0, 1) := by decide +kernel
theorem dX12_init_102 : decode cX12_init 102 = .ok (.bipush 51, 2) := by decide +kernel
theorem dX12_init_104 : decode cX12_init 104 = .ok (.newarray .int, 2) := by decide +kernel
theorem dX12_init_106 : decode cX12_init 106 = .ok (.putfield 47, 3) := by decide +kernel
theorem dX12_init_109 : decode cX12_init 109 = .ok (.aload_n 0, 1) := by decide +kernel
theorem dX12_init_110 : decode cX12_init 110 = .ok (.sipush 153, 3) := by decide +kernel
theorem dX12_init_113 : decode cX12_init 113 = .ok (.newarray .int, 2) := by decide +kernel
theorem dX12_init_115 : decode cX12_init 115 = .ok (.putfield 50, 3) := by decide +kernel
theorem dX12_init_118 : decode cX12_init 118 = .ok (.aload_n 0, 1) := by decide +kernel
theorem dX12_init_119 : decode cX12_init 119 = .ok (.bipush 32, 2) := by decide +kernel
theorem dX12_init_121 : decode cX12_init 121 = .ok (.newarray .int, 2) := by decide +kernel
theorem dX12_init_123 : decode cX12_init 123 = .ok (.putfield 53, 3) := by decide +kernel
theorem dX12_init_126 : decode cX12_init 126 = .ok (.aload_n 0, 1) := by decide +kernel
theorem dX12_init_127 : decode cX12_init 127 = .ok (.bipush 32, 2) := by decide +kernel
theorem dX12_init_129 : decode cX12_init 129 = .ok (.newarray .int, 2) := by decide +kernel
theorem dX12_init_131 : decode cX12_init 131 = .ok (.putfield 56, 3) := by decide +kernel
theorem dX12_init_134 : decode cX12_init 134 = .ok (.aload_n 0, 1) := by decide +kernel
theorem dX12_init_135 : decode cX12_init 135 = .ok (.sipush 168, 3) := by decide +kernel
theorem dX12_init_138 : decode cX12_init 138 = .ok (.newarray .int, 2) := by decide +kernel
theorem dX12_init_140 : decode cX12_init 140 = .ok (.putfield 59, 3) := by decide +kernel
theorem dX12_init_143 : decode cX12_init 143 = .ok (.aload_n 0, 1) := by decide +kernel
theorem dX12_init_144 : decode cX12_init 144 = .ok (.bipush 96, 2) := by decide +kernel
theorem dX12_init_146 : decode cX12_init 146 = .ok (.newarray .int, 2) := by decide +kernel
theorem dX12_init_148 : decode cX12_init 148 = .ok (.putfield 62, 3) := by decide +kernel
theorem dX12_init_151 : decode cX12_init 151 = .ok (.aload_n 0, 1) := by decide +kernel
theorem dX12_init_152 : decode cX12_init 152 = .ok (.bipush 32, 2) := by decide +kernel
theorem dX12_init_154 : decode cX12_init 154 = .ok (.newarray .int, 2) := by decide +kernel
theorem dX12_init_156 : decode cX12_init 156 = .ok (.putfield 65, 3) := by decide +kernel
theorem dX12_init_159 : decode cX12_init 159 = .ok (.aload_n 0, 1) := by decide +kernel
theorem dX12_init_160 : decode cX12_init 160 = .ok (.iconst 3, 1) := by decide +kernel
theorem dX12_init_161 : decode cX12_init 161 = .ok (.newarray .int, 2) := by decide +kernel
theorem dX12_init_163 : decode cX12_init 163 = .ok (.putfield 68, 3) := by decide +kernel
theorem dX12_init_166 : decode cX12_init 166 = .ok (.aload_n 0, 1) := by decide +kernel
theorem dX12_init_167 : decode cX12_init 167 = .ok (.bipush 6, 2) := by decide +kernel
theorem dX12_init_169 : decode cX12_init 169 = .ok (.newarray .int, 2) := by decide +kernel
theorem dX12_init_171 : decode cX12_init 171 = .ok (.putfield 71, 3) := by decide +kernel
theorem dX12_init_174 : decode cX12_init 174 = .ok (.aload_n 0, 1) := by decide +kernel
theorem dX12_init_175 : decode cX12_init 175 = .ok (.bipush 100, 2) := by decide +kernel
theorem dX12_init_177 : decode cX12_init 177 = .ok (.newarray .long, 2) := by decide +kernel
theorem dX12_init_179 : decode cX12_init 179 = .ok (.putfield 74, 3) := by decide +kernel
theorem dX12_init_182 : decode cX12_init 182 = .ok (.aload_n 0, 1) := by decide +kernel
theorem dX12_init_183 : decode cX12_init 183 = .ok (.iconst 0, 1) := by decide +kernel
theorem dX12_init_184 : decode cX12_init 184 = .ok (.putfield 77, 3) := by decide +kernel
theorem dX12_init_187 : decode cX12_init 187 = .ok (.return_, 1) := by decide +kernel
theorem dX12_thrown_0 : decode cX12_thrown 0 = .ok (.aload_n 0, 1) := by decide +kernel
theorem dX12_thrown_1 : decode cX12_thrown 1 = .ok (.getfield 77, 3) := by decide +kernel
theorem dX12_thrown_4 : decode cX12_thrown 4 = .ok (.ireturn, 1) := by decide +kernel
theorem dX12_in_0 : decode cX12_in 0 = .ok (.lload_n 0, 1) := by decide +kernel
theorem dX12_in_1 : decode cX12_in 1 = .ok (.lload_n 2, 1) := by decide +kernel
theorem dX12_in_2 : decode cX12_in 2 = .ok (.lcmp, 1) := by decide +kernel
theorem dX12_in_3 : decode cX12_in 3 = .ok (.ifCond .lt 14, 3) := by decide +kernel
theorem dX12_in_6 : decode cX12_in 6 = .ok (.lload_n 0, 1) := by decide +kernel
theorem dX12_in_7 : decode cX12_in 7 = .ok (.lload 4, 2) := by decide +kernel
theorem dX12_in_9 : decode cX12_in 9 = .ok (.lcmp, 1) := by decide +kernel
theorem dX12_in_10 : decode cX12_in 10 = .ok (.ifCond .gt 7, 3) := by decide +kernel
theorem dX12_in_13 : decode cX12_in 13 = .ok (.iconst 1, 1) := by decide +kernel
theorem dX12_in_14 : decode cX12_in 14 = .ok (.goto 4, 3) := by decide +kernel
theorem dX12_in_17 : decode cX12_in 17 = .ok (.iconst 0, 1) := by decide +kernel
theorem dX12_in_18 : decode cX12_in 18 = .ok (.ireturn, 1) := by decide +kernel
theorem dX12_hasBit_0 : decode cX12_hasBit 0 = .ok (.iload_n 0, 1) := by decide +kernel
theorem dX12_hasBit_1 : decode cX12_hasBit 1 = .ok (.iload_n 1, 1) := by decide +kernel
theorem dX12_hasBit_2 : decode cX12_hasBit 2 = .ok (.ishr, 1) := by decide +kernel
theorem dX12_hasBit_3 : decode cX12_hasBit 3 = .ok (.iconst 1, 1) := by decide +kernel
theorem dX12_hasBit_4 : decode cX12_hasBit 4 = .ok (.iand, 1) := by decide +kernel
theorem dX12_hasBit_5 : decode cX12_hasBit 5 = .ok (.iconst 1, 1) := by decide +kernel
theorem dX12_hasBit_6 : decode cX12_hasBit 6 = .ok (.if_icmp .ne 7, 3) := by decide +kernel
theorem dX12_hasBit_9 : decode cX12_hasBit 9 = .ok (.iconst 1, 1) := by decide +kernel
theorem dX12_hasBit_10 : decode cX12_hasBit 10 = .ok (.goto 4, 3) := by decide +kernel
theorem dX12_hasBit_13 : decode cX12_hasBit 13 = .ok (.iconst 0, 1) := by decide +kernel
theorem dX12_hasBit_14 : decode cX12_hasBit 14 = .ok (.ireturn, 1) := by decide +kernel
theorem dX12_onesOf_0 : decode cX12_onesOf 0 = .ok (.iconst 0, 1) := by decide +kernel
theorem dX12_onesOf_1 : decode cX12_onesOf 1 = .ok (.istore_n 1, 1) := by decide +kernel
theorem dX12_onesOf_2 : decode cX12_onesOf 2 = .ok (.iload_n 0, 1) := by decide +kernel
theorem dX12_onesOf_3 : decode cX12_onesOf 3 = .ok (.istore_n 2, 1) := by decide +kernel
theorem dX12_onesOf_4 : decode cX12_onesOf 4 = .ok (.iload_n 2, 1) := by decide +kernel
theorem dX12_onesOf_5 : decode cX12_onesOf 5 = .ok (.ifCond .eq 15, 3) := by decide +kernel
theorem dX12_onesOf_8 : decode cX12_onesOf 8 = .ok (.iinc 1 1, 3) := by decide +kernel
theorem dX12_onesOf_11 : decode cX12_onesOf 11 = .ok (.iload_n 2, 1) := by decide +kernel
theorem dX12_onesOf_12 : decode cX12_onesOf 12 = .ok (.iload_n 2, 1) := by decide +kernel
theorem dX12_onesOf_13 : decode cX12_onesOf 13 = .ok (.iconst 1, 1) := by decide +kernel
theorem dX12_onesOf_14 : decode cX12_onesOf 14 = .ok (.isub, 1) := by decide +kernel
theorem dX12_onesOf_15 : decode cX12_onesOf 15 = .ok (.iand, 1) := by decide +kernel
theorem dX12_onesOf_16 : decode cX12_onesOf 16 = .ok (.istore_n 2, 1) := by decide +kernel
theorem dX12_onesOf_17 : decode cX12_onesOf 17 = .ok (.goto (-13), 3) := by decide +kernel
theorem dX12_onesOf_20 : decode cX12_onesOf 20 = .ok (.iload_n 1, 1) := by decide +kernel
theorem dX12_onesOf_21 : decode cX12_onesOf 21 = .ok (.ireturn, 1) := by decide +kernel
theorem dX12_held_0 : decode cX12_held 0 = .ok (.iload_n 0, 1) := by decide +kernel
theorem dX12_held_1 : decode cX12_held 1 = .ok (.ifCond .ge 7, 3) := by decide +kernel
theorem dX12_held_4 : decode cX12_held 4 = .ok (.iconst 0, 1) := by decide +kernel
theorem dX12_held_5 : decode cX12_held 5 = .ok (.goto 13, 3) := by decide +kernel
theorem dX12_held_8 : decode cX12_held 8 = .ok (.iload_n 0, 1) := by decide +kernel
theorem dX12_held_9 : decode cX12_held 9 = .ok (.iload_n 1, 1) := by decide +kernel
theorem dX12_held_10 : decode cX12_held 10 = .ok (.if_icmp .le 7, 3) := by decide +kernel
theorem dX12_held_13 : decode cX12_held 13 = .ok (.iload_n 1, 1) := by decide +kernel
theorem dX12_held_14 : decode cX12_held 14 = .ok (.goto 4, 3) := by decide +kernel
theorem dX12_held_17 : decode cX12_held 17 = .ok (.iload_n 0, 1) := by decide +kernel
theorem dX12_held_18 : decode cX12_held 18 = .ok (.ireturn, 1) := by decide +kernel
theorem dX12_isChild_0 : decode cX12_isChild 0 = .ok (.iload_n 1, 1) := by decide +kernel
theorem dX12_isChild_1 : decode cX12_isChild 1 = .ok (.i2l, 1) := by decide +kernel
theorem dX12_isChild_2 : decode cX12_isChild 2 = .ok (.lconst 0, 1) := by decide +kernel
theorem dX12_isChild_3 : decode cX12_isChild 3 = .ok (.aload_n 0, 1) := by decide +kernel
theorem dX12_isChild_4 : decode cX12_isChild 4 = .ok (.getfield 81, 3) := by decide +kernel
theorem dX12_isChild_7 : decode cX12_isChild 7 = .ok (.iconst 1, 1) := by decide +kernel
theorem dX12_isChild_8 : decode cX12_isChild 8 = .ok (.isub, 1) := by decide +kernel
theorem dX12_isChild_9 : decode cX12_isChild 9 = .ok (.i2l, 1) := by decide +kernel
theorem dX12_isChild_10 : decode cX12_isChild 10 = .ok (.invokestatic 84, 3) := by decide +kernel
theorem dX12_isChild_13 : decode cX12_isChild 13 = .ok (.ireturn, 1) := by decide +kernel
theorem dX12_holdsBy_0 : decode cX12_holdsBy 0 = .ok (.iload_n 0, 1) := by decide +kernel
theorem dX12_holdsBy_1 : decode cX12_holdsBy 1 = .ok (.tableswitch 53 0 6 #[43, 53, 45, 45, 53, 53, 47], 43) := by decide +kernel
theorem dX12_holdsBy_44 : decode cX12_holdsBy 44 = .ok (.iconst 2, 1) := by decide +kernel
theorem dX12_holdsBy_45 : decode cX12_holdsBy 45 = .ok (.ireturn, 1) := by decide +kernel
theorem dX12_holdsBy_46 : decode cX12_holdsBy 46 = .ok (.iconst 3, 1) := by decide +kernel
theorem dX12_holdsBy_47 : decode cX12_holdsBy 47 = .ok (.ireturn, 1) := by decide +kernel
theorem dX12_holdsBy_48 : decode cX12_holdsBy 48 = .ok (.iconst 3, 1) := by decide +kernel
theorem dX12_holdsBy_49 : decode cX12_holdsBy 49 = .ok (.iload_n 1, 1) := by decide +kernel
theorem dX12_holdsBy_50 : decode cX12_holdsBy 50 = .ok (.iconst 3, 1) := by decide +kernel
theorem dX12_holdsBy_51 : decode cX12_holdsBy 51 = .ok (.idiv, 1) := by decide +kernel
theorem dX12_holdsBy_52 : decode cX12_holdsBy 52 = .ok (.iadd, 1) := by decide +kernel
theorem dX12_holdsBy_53 : decode cX12_holdsBy 53 = .ok (.ireturn, 1) := by decide +kernel
theorem dX12_holdsBy_54 : decode cX12_holdsBy 54 = .ok (.iconst 1, 1) := by decide +kernel
theorem dX12_holdsBy_55 : decode cX12_holdsBy 55 = .ok (.ireturn, 1) := by decide +kernel
theorem dX12_holdsOf_0 : decode cX12_holdsOf 0 = .ok (.aload_n 0, 1) := by decide +kernel
theorem dX12_holdsOf_1 : decode cX12_holdsOf 1 = .ok (.getfield 7, 3) := by decide +kernel
theorem dX12_holdsOf_4 : decode cX12_holdsOf 4 = .ok (.iload_n 1, 1) := by decide +kernel
theorem dX12_holdsOf_5 : decode cX12_holdsOf 5 = .ok (.iaload, 1) := by decide +kernel
theorem dX12_holdsOf_6 : decode cX12_holdsOf 6 = .ok (.aload_n 0, 1) := by decide +kernel
theorem dX12_holdsOf_7 : decode cX12_holdsOf 7 = .ok (.getfield 13, 3) := by decide +kernel
theorem dX12_holdsOf_10 : decode cX12_holdsOf 10 = .ok (.iload_n 1, 1) := by decide +kernel
theorem dX12_holdsOf_11 : decode cX12_holdsOf 11 = .ok (.iaload, 1) := by decide +kernel
theorem dX12_holdsOf_12 : decode cX12_holdsOf 12 = .ok (.invokestatic 88, 3) := by decide +kernel
theorem dX12_holdsOf_15 : decode cX12_holdsOf 15 = .ok (.ireturn, 1) := by decide +kernel
theorem dX12_needsAt_0 : decode cX12_needsAt 0 = .ok (.aload_n 0, 1) := by decide +kernel
theorem dX12_needsAt_1 : decode cX12_needsAt 1 = .ok (.getfield 7, 3) := by decide +kernel
theorem dX12_needsAt_4 : decode cX12_needsAt 4 = .ok (.iload_n 1, 1) := by decide +kernel
theorem dX12_needsAt_5 : decode cX12_needsAt 5 = .ok (.iaload, 1) := by decide +kernel
theorem dX12_needsAt_6 : decode cX12_needsAt 6 = .ok (.tableswitch 83 0 7 #[46, 83, 50, 56, 83, 83, 69, 77], 46) := by decide +kernel
theorem dX12_needsAt_52 : decode cX12_needsAt 52 = .ok (.iload_n 2, 1) := by decide +kernel
theorem dX12_needsAt_53 : decode cX12_needsAt 53 = .ok (.iconst 4, 1) := by decide +kernel
theorem dX12_needsAt_54 : decode cX12_needsAt 54 = .ok (.iadd, 1) := by decide +kernel
theorem dX12_needsAt_55 : decode cX12_needsAt 55 = .ok (.ireturn, 1) := by decide +kernel
theorem dX12_needsAt_56 : decode cX12_needsAt 56 = .ok (.iconst 2, 1) := by decide +kernel
theorem dX12_needsAt_57 : decode cX12_needsAt 57 = .ok (.iload_n 2, 1) := by decide +kernel
theorem dX12_needsAt_58 : decode cX12_needsAt 58 = .ok (.iconst 4, 1) := by decide +kernel
theorem dX12_needsAt_59 : decode cX12_needsAt 59 = .ok (.iadd, 1) := by decide +kernel
theorem dX12_needsAt_60 : decode cX12_needsAt 60 = .ok (.imul, 1) := by decide +kernel
theorem dX12_needsAt_61 : decode cX12_needsAt 61 = .ok (.ireturn, 1) := by decide +kernel
theorem dX12_needsAt_62 : decode cX12_needsAt 62 = .ok (.iload_n 2, 1) := by decide +kernel
theorem dX12_needsAt_63 : decode cX12_needsAt 63 = .ok (.iconst 4, 1) := by decide +kernel
theorem dX12_needsAt_64 : decode cX12_needsAt 64 = .ok (.iadd, 1) := by decide +kernel
theorem dX12_needsAt_65 : decode cX12_needsAt 65 = .ok (.aload_n 0, 1) := by decide +kernel
theorem dX12_needsAt_66 : decode cX12_needsAt 66 = .ok (.getfield 13, 3) := by decide +kernel
theorem dX12_needsAt_69 : decode cX12_needsAt 69 = .ok (.iload_n 1, 1) := by decide +kernel
theorem dX12_needsAt_70 : decode cX12_needsAt 70 = .ok (.iaload, 1) := by decide +kernel
theorem dX12_needsAt_71 : decode cX12_needsAt 71 = .ok (.iconst 4, 1) := by decide +kernel
theorem dX12_needsAt_72 : decode cX12_needsAt 72 = .ok (.idiv, 1) := by decide +kernel
theorem dX12_needsAt_73 : decode cX12_needsAt 73 = .ok (.iadd, 1) := by decide +kernel
theorem dX12_needsAt_74 : decode cX12_needsAt 74 = .ok (.ireturn, 1) := by decide +kernel
theorem dX12_needsAt_75 : decode cX12_needsAt 75 = .ok (.iconst 2, 1) := by decide +kernel
theorem dX12_needsAt_76 : decode cX12_needsAt 76 = .ok (.iload_n 2, 1) := by decide +kernel
theorem dX12_needsAt_77 : decode cX12_needsAt 77 = .ok (.iconst 4, 1) := by decide +kernel
theorem dX12_needsAt_78 : decode cX12_needsAt 78 = .ok (.iadd, 1) := by decide +kernel
theorem dX12_needsAt_79 : decode cX12_needsAt 79 = .ok (.imul, 1) := by decide +kernel
theorem dX12_needsAt_80 : decode cX12_needsAt 80 = .ok (.iconst 1, 1) := by decide +kernel
theorem dX12_needsAt_81 : decode cX12_needsAt 81 = .ok (.isub, 1) := by decide +kernel
theorem dX12_needsAt_82 : decode cX12_needsAt 82 = .ok (.ireturn, 1) := by decide +kernel
theorem dX12_needsAt_83 : decode cX12_needsAt 83 = .ok (.iload_n 2, 1) := by decide +kernel
theorem dX12_needsAt_84 : decode cX12_needsAt 84 = .ok (.iconst 2, 1) := by decide +kernel
theorem dX12_needsAt_85 : decode cX12_needsAt 85 = .ok (.iadd, 1) := by decide +kernel
theorem dX12_needsAt_86 : decode cX12_needsAt 86 = .ok (.iconst 2, 1) := by decide +kernel
theorem dX12_needsAt_87 : decode cX12_needsAt 87 = .ok (.idiv, 1) := by decide +kernel
theorem dX12_needsAt_88 : decode cX12_needsAt 88 = .ok (.ireturn, 1) := by decide +kernel
theorem dX12_needsAt_89 : decode cX12_needsAt 89 = .ok (.iload_n 2, 1) := by decide +kernel
theorem dX12_needsAt_90 : decode cX12_needsAt 90 = .ok (.iconst 2, 1) := by decide +kernel
theorem dX12_needsAt_91 : decode cX12_needsAt 91 = .ok (.iadd, 1) := by decide +kernel
theorem dX12_needsAt_92 : decode cX12_needsAt 92 = .ok (.ireturn, 1) := by decide +kernel
theorem dX12_needsOf_0 : decode cX12_needsOf 0 = .ok (.aload_n 0, 1) := by decide +kernel
theorem dX12_needsOf_1 : decode cX12_needsOf 1 = .ok (.iload_n 1, 1) := by decide +kernel
theorem dX12_needsOf_2 : decode cX12_needsOf 2 = .ok (.aload_n 0, 1) := by decide +kernel
theorem dX12_needsOf_3 : decode cX12_needsOf 3 = .ok (.getfield 19, 3) := by decide +kernel
theorem dX12_needsOf_6 : decode cX12_needsOf 6 = .ok (.iload_n 1, 1) := by decide +kernel
theorem dX12_needsOf_7 : decode cX12_needsOf 7 = .ok (.iaload, 1) := by decide +kernel
theorem dX12_needsOf_8 : decode cX12_needsOf 8 = .ok (.invokevirtual 92, 3) := by decide +kernel
theorem dX12_needsOf_11 : decode cX12_needsOf 11 = .ok (.ireturn, 1) := by decide +kernel
theorem dX12_frightOf_0 : decode cX12_frightOf 0 = .ok (.aload_n 0, 1) := by decide +kernel
theorem dX12_frightOf_1 : decode cX12_frightOf 1 = .ok (.getfield 7, 3) := by decide +kernel
theorem dX12_frightOf_4 : decode cX12_frightOf 4 = .ok (.iload_n 1, 1) := by decide +kernel
theorem dX12_frightOf_5 : decode cX12_frightOf 5 = .ok (.iaload, 1) := by decide +kernel
theorem dX12_frightOf_6 : decode cX12_frightOf 6 = .ok (.tableswitch 70 0 6 #[42, 70, 44, 42, 55, 70, 57], 42) := by decide +kernel
theorem dX12_frightOf_48 : decode cX12_frightOf 48 = .ok (.iconst 3, 1) := by decide +kernel
theorem dX12_frightOf_49 : decode cX12_frightOf 49 = .ok (.ireturn, 1) := by decide +kernel
theorem dX12_frightOf_50 : decode cX12_frightOf 50 = .ok (.iconst 3, 1) := by decide +kernel
theorem dX12_frightOf_51 : decode cX12_frightOf 51 = .ok (.aload_n 0, 1) := by decide +kernel
theorem dX12_frightOf_52 : decode cX12_frightOf 52 = .ok (.getfield 13, 3) := by decide +kernel
theorem dX12_frightOf_55 : decode cX12_frightOf 55 = .ok (.iload_n 1, 1) := by decide +kernel
theorem dX12_frightOf_56 : decode cX12_frightOf 56 = .ok (.iaload, 1) := by decide +kernel
theorem dX12_frightOf_57 : decode cX12_frightOf 57 = .ok (.iconst 2, 1) := by decide +kernel
theorem dX12_frightOf_58 : decode cX12_frightOf 58 = .ok (.idiv, 1) := by decide +kernel
theorem dX12_frightOf_59 : decode cX12_frightOf 59 = .ok (.iadd, 1) := by decide +kernel
theorem dX12_frightOf_60 : decode cX12_frightOf 60 = .ok (.ireturn, 1) := by decide +kernel
theorem dX12_frightOf_61 : decode cX12_frightOf 61 = .ok (.iconst 0, 1) := by decide +kernel
theorem dX12_frightOf_62 : decode cX12_frightOf 62 = .ok (.ireturn, 1) := by decide +kernel
theorem dX12_frightOf_63 : decode cX12_frightOf 63 = .ok (.iconst 2, 1) := by decide +kernel
theorem dX12_frightOf_64 : decode cX12_frightOf 64 = .ok (.iconst 3, 1) := by decide +kernel
theorem dX12_frightOf_65 : decode cX12_frightOf 65 = .ok (.aload_n 0, 1) := by decide +kernel
theorem dX12_frightOf_66 : decode cX12_frightOf 66 = .ok (.getfield 13, 3) := by decide +kernel
theorem dX12_frightOf_69 : decode cX12_frightOf 69 = .ok (.iload_n 1, 1) := by decide +kernel
theorem dX12_frightOf_70 : decode cX12_frightOf 70 = .ok (.iaload, 1) := by decide +kernel
theorem dX12_frightOf_71 : decode cX12_frightOf 71 = .ok (.iconst 2, 1) := by decide +kernel
theorem dX12_frightOf_72 : decode cX12_frightOf 72 = .ok (.idiv, 1) := by decide +kernel
theorem dX12_frightOf_73 : decode cX12_frightOf 73 = .ok (.iadd, 1) := by decide +kernel
theorem dX12_frightOf_74 : decode cX12_frightOf 74 = .ok (.imul, 1) := by decide +kernel
theorem dX12_frightOf_75 : decode cX12_frightOf 75 = .ok (.ireturn, 1) := by decide +kernel
theorem dX12_frightOf_76 : decode cX12_frightOf 76 = .ok (.iconst 2, 1) := by decide +kernel
theorem dX12_frightOf_77 : decode cX12_frightOf 77 = .ok (.ireturn, 1) := by decide +kernel
theorem dX12_bearsOf_0 : decode cX12_bearsOf 0 = .ok (.aload_n 0, 1) := by decide +kernel
theorem dX12_bearsOf_1 : decode cX12_bearsOf 1 = .ok (.getfield 7, 3) := by decide +kernel
theorem dX12_bearsOf_4 : decode cX12_bearsOf 4 = .ok (.iload_n 1, 1) := by decide +kernel
theorem dX12_bearsOf_5 : decode cX12_bearsOf 5 = .ok (.iaload, 1) := by decide +kernel
theorem dX12_bearsOf_6 : decode cX12_bearsOf 6 = .ok (.tableswitch 53 0 7 #[46, 53, 48, 46, 53, 53, 48, 50], 46) := by decide +kernel
theorem dX12_bearsOf_52 : decode cX12_bearsOf 52 = .ok (.iconst 5, 1) := by decide +kernel
theorem dX12_bearsOf_53 : decode cX12_bearsOf 53 = .ok (.ireturn, 1) := by decide +kernel
theorem dX12_bearsOf_54 : decode cX12_bearsOf 54 = .ok (.iconst 4, 1) := by decide +kernel
theorem dX12_bearsOf_55 : decode cX12_bearsOf 55 = .ok (.ireturn, 1) := by decide +kernel
theorem dX12_bearsOf_56 : decode cX12_bearsOf 56 = .ok (.bipush 20, 2) := by decide +kernel
theorem dX12_bearsOf_58 : decode cX12_bearsOf 58 = .ok (.ireturn, 1) := by decide +kernel
theorem dX12_bearsOf_59 : decode cX12_bearsOf 59 = .ok (.iconst 5, 1) := by decide +kernel
theorem dX12_bearsOf_60 : decode cX12_bearsOf 60 = .ok (.aload_n 0, 1) := by decide +kernel
theorem dX12_bearsOf_61 : decode cX12_bearsOf 61 = .ok (.getfield 13, 3) := by decide +kernel
theorem dX12_bearsOf_64 : decode cX12_bearsOf 64 = .ok (.iload_n 1, 1) := by decide +kernel
theorem dX12_bearsOf_65 : decode cX12_bearsOf 65 = .ok (.iaload, 1) := by decide +kernel
theorem dX12_bearsOf_66 : decode cX12_bearsOf 66 = .ok (.iadd, 1) := by decide +kernel
theorem dX12_bearsOf_67 : decode cX12_bearsOf 67 = .ok (.ireturn, 1) := by decide +kernel
theorem dX12_passesOf_0 : decode cX12_passesOf 0 = .ok (.aload_n 0, 1) := by decide +kernel
theorem dX12_passesOf_1 : decode cX12_passesOf 1 = .ok (.getfield 7, 3) := by decide +kernel
theorem dX12_passesOf_4 : decode cX12_passesOf 4 = .ok (.iload_n 1, 1) := by decide +kernel
theorem dX12_passesOf_5 : decode cX12_passesOf 5 = .ok (.iaload, 1) := by decide +kernel
theorem dX12_passesOf_6 : decode cX12_passesOf 6 = .ok (.tableswitch 40 2 6 #[34, 40, 36, 38, 34], 34) := by decide +kernel
theorem dX12_passesOf_40 : decode cX12_passesOf 40 = .ok (.iconst 0, 1) := by decide +kernel
theorem dX12_passesOf_41 : decode cX12_passesOf 41 = .ok (.ireturn, 1) := by decide +kernel
theorem dX12_passesOf_42 : decode cX12_passesOf 42 = .ok (.iconst 2, 1) := by decide +kernel
theorem dX12_passesOf_43 : decode cX12_passesOf 43 = .ok (.ireturn, 1) := by decide +kernel
theorem dX12_passesOf_44 : decode cX12_passesOf 44 = .ok (.iconst 3, 1) := by decide +kernel
theorem dX12_passesOf_45 : decode cX12_passesOf 45 = .ok (.ireturn, 1) := by decide +kernel
theorem dX12_passesOf_46 : decode cX12_passesOf 46 = .ok (.iconst 1, 1) := by decide +kernel
theorem dX12_passesOf_47 : decode cX12_passesOf 47 = .ok (.ireturn, 1) := by decide +kernel
theorem dX12_isReady_0 : decode cX12_isReady 0 = .ok (.aload_n 0, 1) := by decide +kernel
theorem dX12_isReady_1 : decode cX12_isReady 1 = .ok (.getfield 19, 3) := by decide +kernel
theorem dX12_isReady_4 : decode cX12_isReady 4 = .ok (.iload_n 1, 1) := by decide +kernel
theorem dX12_isReady_5 : decode cX12_isReady 5 = .ok (.iaload, 1) := by decide +kernel
theorem dX12_isReady_6 : decode cX12_isReady 6 = .ok (.bipush 7, 2) := by decide +kernel
theorem dX12_isReady_8 : decode cX12_isReady 8 = .ok (.if_icmp .ge 21, 3) := by decide +kernel
theorem dX12_isReady_11 : decode cX12_isReady 11 = .ok (.aload_n 0, 1) := by decide +kernel
theorem dX12_isReady_12 : decode cX12_isReady 12 = .ok (.getfield 16, 3) := by decide +kernel
theorem dX12_isReady_15 : decode cX12_isReady 15 = .ok (.iload_n 1, 1) := by decide +kernel
theorem dX12_isReady_16 : decode cX12_isReady 16 = .ok (.iaload, 1) := by decide +kernel
theorem dX12_isReady_17 : decode cX12_isReady 17 = .ok (.aload_n 0, 1) := by decide +kernel
theorem dX12_isReady_18 : decode cX12_isReady 18 = .ok (.iload_n 1, 1) := by decide +kernel
theorem dX12_isReady_19 : decode cX12_isReady 19 = .ok (.invokevirtual 95, 3) := by decide +kernel
theorem dX12_isReady_22 : decode cX12_isReady 22 = .ok (.if_icmp .lt 7, 3) := by decide +kernel
theorem dX12_isReady_25 : decode cX12_isReady 25 = .ok (.iconst 1, 1) := by decide +kernel
theorem dX12_isReady_26 : decode cX12_isReady 26 = .ok (.goto 4, 3) := by decide +kernel
theorem dX12_isReady_29 : decode cX12_isReady 29 = .ok (.iconst 0, 1) := by decide +kernel
theorem dX12_isReady_30 : decode cX12_isReady 30 = .ok (.ireturn, 1) := by decide +kernel
theorem dX12_gains_0 : decode cX12_gains 0 = .ok (.aload_n 0, 1) := by decide +kernel
theorem dX12_gains_1 : decode cX12_gains 1 = .ok (.iload_n 1, 1) := by decide +kernel
theorem dX12_gains_2 : decode cX12_gains 2 = .ok (.invokevirtual 99, 3) := by decide +kernel
theorem dX12_gains_5 : decode cX12_gains 5 = .ok (.ifCond .eq 22, 3) := by decide +kernel
theorem dX12_gains_8 : decode cX12_gains 8 = .ok (.aload_n 0, 1) := by decide +kernel
theorem dX12_gains_9 : decode cX12_gains 9 = .ok (.getfield 16, 3) := by decide +kernel
theorem dX12_gains_12 : decode cX12_gains 12 = .ok (.iload_n 1, 1) := by decide +kernel
theorem dX12_gains_13 : decode cX12_gains 13 = .ok (.aload_n 0, 1) := by decide +kernel
theorem dX12_gains_14 : decode cX12_gains 14 = .ok (.getfield 16, 3) := by decide +kernel
theorem dX12_gains_17 : decode cX12_gains 17 = .ok (.iload_n 1, 1) := by decide +kernel
theorem dX12_gains_18 : decode cX12_gains 18 = .ok (.iaload, 1) := by decide +kernel
theorem dX12_gains_19 : decode cX12_gains 19 = .ok (.iload_n 2, 1) := by decide +kernel
theorem dX12_gains_20 : decode cX12_gains 20 = .ok (.iadd, 1) := by decide +kernel
theorem dX12_gains_21 : decode cX12_gains 21 = .ok (.bipush 20, 2) := by decide +kernel
theorem dX12_gains_23 : decode cX12_gains 23 = .ok (.invokestatic 103, 3) := by decide +kernel
theorem dX12_gains_26 : decode cX12_gains 26 = .ok (.iastore, 1) := by decide +kernel
theorem dX12_gains_27 : decode cX12_gains 27 = .ok (.return_, 1) := by decide +kernel
theorem dX12_letGo_0 : decode cX12_letGo 0 = .ok (.aload_n 0, 1) := by decide +kernel
theorem dX12_letGo_1 : decode cX12_letGo 1 = .ok (.iload_n 1, 1) := by decide +kernel
theorem dX12_letGo_2 : decode cX12_letGo 2 = .ok (.invokevirtual 106, 3) := by decide +kernel
theorem dX12_letGo_5 : decode cX12_letGo 5 = .ok (.istore_n 2, 1) := by decide +kernel
theorem dX12_letGo_6 : decode cX12_letGo 6 = .ok (.aload_n 0, 1) := by decide +kernel
theorem dX12_letGo_7 : decode cX12_letGo 7 = .ok (.iload_n 1, 1) := by decide +kernel
theorem dX12_letGo_8 : decode cX12_letGo 8 = .ok (.invokevirtual 109, 3) := by decide +kernel
theorem dX12_letGo_11 : decode cX12_letGo 11 = .ok (.ifCond .eq 32, 3) := by decide +kernel
theorem dX12_letGo_14 : decode cX12_letGo 14 = .ok (.aload_n 0, 1) := by decide +kernel
theorem dX12_letGo_15 : decode cX12_letGo 15 = .ok (.getfield 19, 3) := by decide +kernel
theorem dX12_letGo_18 : decode cX12_letGo 18 = .ok (.iload_n 1, 1) := by decide +kernel
theorem dX12_letGo_19 : decode cX12_letGo 19 = .ok (.dup2, 1) := by decide +kernel
theorem dX12_letGo_20 : decode cX12_letGo 20 = .ok (.iaload, 1) := by decide +kernel
theorem dX12_letGo_21 : decode cX12_letGo 21 = .ok (.iconst 1, 1) := by decide +kernel
theorem dX12_letGo_22 : decode cX12_letGo 22 = .ok (.iadd, 1) := by decide +kernel
theorem dX12_letGo_23 : decode cX12_letGo 23 = .ok (.iastore, 1) := by decide +kernel
theorem dX12_letGo_24 : decode cX12_letGo 24 = .ok (.aload_n 0, 1) := by decide +kernel
theorem dX12_letGo_25 : decode cX12_letGo 25 = .ok (.iload_n 1, 1) := by decide +kernel
theorem dX12_letGo_26 : decode cX12_letGo 26 = .ok (.iconst 1, 1) := by decide +kernel
theorem dX12_letGo_27 : decode cX12_letGo 27 = .ok (.isub, 1) := by decide +kernel
theorem dX12_letGo_28 : decode cX12_letGo 28 = .ok (.iload_n 2, 1) := by decide +kernel
theorem dX12_letGo_29 : decode cX12_letGo 29 = .ok (.invokevirtual 112, 3) := by decide +kernel
theorem dX12_letGo_32 : decode cX12_letGo 32 = .ok (.aload_n 0, 1) := by decide +kernel
theorem dX12_letGo_33 : decode cX12_letGo 33 = .ok (.iload_n 1, 1) := by decide +kernel
theorem dX12_letGo_34 : decode cX12_letGo 34 = .ok (.iconst 1, 1) := by decide +kernel
theorem dX12_letGo_35 : decode cX12_letGo 35 = .ok (.iadd, 1) := by decide +kernel
theorem dX12_letGo_36 : decode cX12_letGo 36 = .ok (.iload_n 2, 1) := by decide +kernel
theorem dX12_letGo_37 : decode cX12_letGo 37 = .ok (.invokevirtual 112, 3) := by decide +kernel
theorem dX12_letGo_40 : decode cX12_letGo 40 = .ok (.goto 32, 3) := by decide +kernel
theorem dX12_letGo_43 : decode cX12_letGo 43 = .ok (.aload_n 0, 1) := by decide +kernel
theorem dX12_letGo_44 : decode cX12_letGo 44 = .ok (.iload_n 1, 1) := by decide +kernel
theorem dX12_letGo_45 : decode cX12_letGo 45 = .ok (.aload_n 0, 1) := by decide +kernel
theorem dX12_letGo_46 : decode cX12_letGo 46 = .ok (.iload_n 1, 1) := by decide +kernel
theorem dX12_letGo_47 : decode cX12_letGo 47 = .ok (.invokevirtual 116, 3) := by decide +kernel
theorem dX12_letGo_50 : decode cX12_letGo 50 = .ok (.ineg, 1) := by decide +kernel
theorem dX12_letGo_51 : decode cX12_letGo 51 = .ok (.invokevirtual 112, 3) := by decide +kernel
theorem dX12_letGo_54 : decode cX12_letGo 54 = .ok (.aload_n 0, 1) := by decide +kernel
theorem dX12_letGo_55 : decode cX12_letGo 55 = .ok (.iload_n 1, 1) := by decide +kernel
theorem dX12_letGo_56 : decode cX12_letGo 56 = .ok (.iconst 1, 1) := by decide +kernel
theorem dX12_letGo_57 : decode cX12_letGo 57 = .ok (.isub, 1) := by decide +kernel
theorem dX12_letGo_58 : decode cX12_letGo 58 = .ok (.iload_n 2, 1) := by decide +kernel
theorem dX12_letGo_59 : decode cX12_letGo 59 = .ok (.ineg, 1) := by decide +kernel
theorem dX12_letGo_60 : decode cX12_letGo 60 = .ok (.invokevirtual 112, 3) := by decide +kernel
theorem dX12_letGo_63 : decode cX12_letGo 63 = .ok (.aload_n 0, 1) := by decide +kernel
theorem dX12_letGo_64 : decode cX12_letGo 64 = .ok (.iload_n 1, 1) := by decide +kernel
theorem dX12_letGo_65 : decode cX12_letGo 65 = .ok (.iconst 1, 1) := by decide +kernel
theorem dX12_letGo_66 : decode cX12_letGo 66 = .ok (.iadd, 1) := by decide +kernel
theorem dX12_letGo_67 : decode cX12_letGo 67 = .ok (.iload_n 2, 1) := by decide +kernel
theorem dX12_letGo_68 : decode cX12_letGo 68 = .ok (.ineg, 1) := by decide +kernel
theorem dX12_letGo_69 : decode cX12_letGo 69 = .ok (.invokevirtual 112, 3) := by decide +kernel
theorem dX12_letGo_72 : decode cX12_letGo 72 = .ok (.return_, 1) := by decide +kernel
theorem dX12_show_0 : decode cX12_show 0 = .ok (.iconst 0, 1) := by decide +kernel
theorem dX12_show_1 : decode cX12_show 1 = .ok (.istore_n 2, 1) := by decide +kernel
theorem dX12_show_2 : decode cX12_show 2 = .ok (.iconst 0, 1) := by decide +kernel
theorem dX12_show_3 : decode cX12_show 3 = .ok (.istore_n 3, 1) := by decide +kernel
theorem dX12_show_4 : decode cX12_show 4 = .ok (.iconst 0, 1) := by decide +kernel
theorem dX12_show_5 : decode cX12_show 5 = .ok (.istore 4, 2) := by decide +kernel
theorem dX12_show_7 : decode cX12_show 7 = .ok (.iload 4, 2) := by decide +kernel
theorem dX12_show_9 : decode cX12_show 9 = .ok (.aload_n 0, 1) := by decide +kernel
theorem dX12_show_10 : decode cX12_show 10 = .ok (.getfield 81, 3) := by decide +kernel
theorem dX12_show_13 : decode cX12_show 13 = .ok (.if_icmp .ge 78, 3) := by decide +kernel
theorem dX12_show_16 : decode cX12_show 16 = .ok (.aload_n 0, 1) := by decide +kernel
theorem dX12_show_17 : decode cX12_show 17 = .ok (.getfield 19, 3) := by decide +kernel
theorem dX12_show_20 : decode cX12_show 20 = .ok (.iload 4, 2) := by decide +kernel
theorem dX12_show_22 : decode cX12_show 22 = .ok (.iaload, 1) := by decide +kernel
theorem dX12_show_23 : decode cX12_show 23 = .ok (.aload_n 0, 1) := by decide +kernel
theorem dX12_show_24 : decode cX12_show 24 = .ok (.getfield 19, 3) := by decide +kernel
theorem dX12_show_27 : decode cX12_show 27 = .ok (.iload_n 1, 1) := by decide +kernel
theorem dX12_show_28 : decode cX12_show 28 = .ok (.iaload, 1) := by decide +kernel
theorem dX12_show_29 : decode cX12_show 29 = .ok (.if_icmp .le 7, 3) := by decide +kernel
theorem dX12_show_32 : decode cX12_show 32 = .ok (.iconst 1, 1) := by decide +kernel
theorem dX12_show_33 : decode cX12_show 33 = .ok (.goto 4, 3) := by decide +kernel
theorem dX12_show_36 : decode cX12_show 36 = .ok (.iconst 0, 1) := by decide +kernel
theorem dX12_show_37 : decode cX12_show 37 = .ok (.istore 5, 2) := by decide +kernel
theorem dX12_show_39 : decode cX12_show 39 = .ok (.iload_n 2, 1) := by decide +kernel
theorem dX12_show_40 : decode cX12_show 40 = .ok (.ifCond .ne 8, 3) := by decide +kernel
theorem dX12_show_43 : decode cX12_show 43 = .ok (.iload 5, 2) := by decide +kernel
theorem dX12_show_45 : decode cX12_show 45 = .ok (.ifCond .eq 7, 3) := by decide +kernel
theorem dX12_show_48 : decode cX12_show 48 = .ok (.iconst 1, 1) := by decide +kernel
theorem dX12_show_49 : decode cX12_show 49 = .ok (.goto 4, 3) := by decide +kernel
theorem dX12_show_52 : decode cX12_show 52 = .ok (.iconst 0, 1) := by decide +kernel
theorem dX12_show_53 : decode cX12_show 53 = .ok (.istore_n 2, 1) := by decide +kernel
theorem dX12_show_54 : decode cX12_show 54 = .ok (.iload_n 3, 1) := by decide +kernel
theorem dX12_show_55 : decode cX12_show 55 = .ok (.ifCond .ne 24, 3) := by decide +kernel
theorem dX12_show_58 : decode cX12_show 58 = .ok (.iload 5, 2) := by decide +kernel
theorem dX12_show_60 : decode cX12_show 60 = .ok (.ifCond .eq 23, 3) := by decide +kernel
theorem dX12_show_63 : decode cX12_show 63 = .ok (.iload 4, 2) := by decide +kernel
theorem dX12_show_65 : decode cX12_show 65 = .ok (.iload_n 1, 1) := by decide +kernel
theorem dX12_show_66 : decode cX12_show 66 = .ok (.iconst 1, 1) := by decide +kernel
theorem dX12_show_67 : decode cX12_show 67 = .ok (.isub, 1) := by decide +kernel
theorem dX12_show_68 : decode cX12_show 68 = .ok (.if_icmp .eq 11, 3) := by decide +kernel
theorem dX12_show_71 : decode cX12_show 71 = .ok (.iload 4, 2) := by decide +kernel
theorem dX12_show_73 : decode cX12_show 73 = .ok (.iload_n 1, 1) := by decide +kernel
theorem dX12_show_74 : decode cX12_show 74 = .ok (.iconst 1, 1) := by decide +kernel
theorem dX12_show_75 : decode cX12_show 75 = .ok (.iadd, 1) := by decide +kernel
theorem dX12_show_76 : decode cX12_show 76 = .ok (.if_icmp .ne 7, 3) := by decide +kernel
theorem dX12_show_79 : decode cX12_show 79 = .ok (.iconst 1, 1) := by decide +kernel
theorem dX12_show_80 : decode cX12_show 80 = .ok (.goto 4, 3) := by decide +kernel
theorem dX12_show_83 : decode cX12_show 83 = .ok (.iconst 0, 1) := by decide +kernel
theorem dX12_show_84 : decode cX12_show 84 = .ok (.istore_n 3, 1) := by decide +kernel
theorem dX12_show_85 : decode cX12_show 85 = .ok (.iinc 4 1, 3) := by decide +kernel
theorem dX12_show_88 : decode cX12_show 88 = .ok (.goto (-81), 3) := by decide +kernel
theorem dX12_show_91 : decode cX12_show 91 = .ok (.aload_n 0, 1) := by decide +kernel
theorem dX12_show_92 : decode cX12_show 92 = .ok (.iload_n 1, 1) := by decide +kernel
theorem dX12_show_93 : decode cX12_show 93 = .ok (.iload_n 2, 1) := by decide +kernel
theorem dX12_show_94 : decode cX12_show 94 = .ok (.ifCond .eq 7, 3) := by decide +kernel
theorem dX12_show_97 : decode cX12_show 97 = .ok (.iconst 1, 1) := by decide +kernel
theorem dX12_show_98 : decode cX12_show 98 = .ok (.goto 4, 3) := by decide +kernel
theorem dX12_show_101 : decode cX12_show 101 = .ok (.iconst 0, 1) := by decide +kernel
theorem dX12_show_102 : decode cX12_show 102 = .ok (.iload_n 3, 1) := by decide +kernel
theorem dX12_show_103 : decode cX12_show 103 = .ok (.ifCond .eq 7, 3) := by decide +kernel
theorem dX12_show_106 : decode cX12_show 106 = .ok (.iconst 1, 1) := by decide +kernel
theorem dX12_show_107 : decode cX12_show 107 = .ok (.goto 4, 3) := by decide +kernel
theorem dX12_show_110 : decode cX12_show 110 = .ok (.iconst 0, 1) := by decide +kernel
theorem dX12_show_111 : decode cX12_show 111 = .ok (.iadd, 1) := by decide +kernel
theorem dX12_show_112 : decode cX12_show 112 = .ok (.invokevirtual 112, 3) := by decide +kernel
theorem dX12_show_115 : decode cX12_show 115 = .ok (.return_, 1) := by decide +kernel
theorem dX12_colder_0 : decode cX12_colder 0 = .ok (.iconst 0, 1) := by decide +kernel
theorem dX12_colder_1 : decode cX12_colder 1 = .ok (.istore_n 2, 1) := by decide +kernel
theorem dX12_colder_2 : decode cX12_colder 2 = .ok (.iload_n 2, 1) := by decide +kernel
theorem dX12_colder_3 : decode cX12_colder 3 = .ok (.aload_n 0, 1) := by decide +kernel
theorem dX12_colder_4 : decode cX12_colder 4 = .ok (.getfield 81, 3) := by decide +kernel
theorem dX12_colder_7 : decode cX12_colder 7 = .ok (.if_icmp .ge 71, 3) := by decide +kernel
theorem dX12_colder_10 : decode cX12_colder 10 = .ok (.iload_n 2, 1) := by decide +kernel
theorem dX12_colder_11 : decode cX12_colder 11 = .ok (.iload_n 1, 1) := by decide +kernel
theorem dX12_colder_12 : decode cX12_colder 12 = .ok (.if_icmp .eq 60, 3) := by decide +kernel
theorem dX12_colder_15 : decode cX12_colder 15 = .ok (.aload_n 0, 1) := by decide +kernel
theorem dX12_colder_16 : decode cX12_colder 16 = .ok (.getfield 19, 3) := by decide +kernel
theorem dX12_colder_19 : decode cX12_colder 19 = .ok (.iload_n 2, 1) := by decide +kernel
theorem dX12_colder_20 : decode cX12_colder 20 = .ok (.iaload, 1) := by decide +kernel
theorem dX12_colder_21 : decode cX12_colder 21 = .ok (.bipush 7, 2) := by decide +kernel
theorem dX12_colder_23 : decode cX12_colder 23 = .ok (.if_icmp .ge 49, 3) := by decide +kernel
theorem dX12_colder_26 : decode cX12_colder 26 = .ok (.aload_n 0, 1) := by decide +kernel
theorem dX12_colder_27 : decode cX12_colder 27 = .ok (.getfield 22, 3) := by decide +kernel
theorem dX12_colder_30 : decode cX12_colder 30 = .ok (.iload_n 2, 1) := by decide +kernel
theorem dX12_colder_31 : decode cX12_colder 31 = .ok (.aload_n 0, 1) := by decide +kernel
theorem dX12_colder_32 : decode cX12_colder 32 = .ok (.getfield 22, 3) := by decide +kernel
theorem dX12_colder_35 : decode cX12_colder 35 = .ok (.iload_n 2, 1) := by decide +kernel
theorem dX12_colder_36 : decode cX12_colder 36 = .ok (.iaload, 1) := by decide +kernel
theorem dX12_colder_37 : decode cX12_colder 37 = .ok (.iconst 1, 1) := by decide +kernel
theorem dX12_colder_38 : decode cX12_colder 38 = .ok (.iadd, 1) := by decide +kernel
theorem dX12_colder_39 : decode cX12_colder 39 = .ok (.bipush 20, 2) := by decide +kernel
theorem dX12_colder_41 : decode cX12_colder 41 = .ok (.invokestatic 103, 3) := by decide +kernel
theorem dX12_colder_44 : decode cX12_colder 44 = .ok (.iastore, 1) := by decide +kernel
theorem dX12_colder_45 : decode cX12_colder 45 = .ok (.aload_n 0, 1) := by decide +kernel
theorem dX12_colder_46 : decode cX12_colder 46 = .ok (.getfield 22, 3) := by decide +kernel
theorem dX12_colder_49 : decode cX12_colder 49 = .ok (.iload_n 2, 1) := by decide +kernel
theorem dX12_colder_50 : decode cX12_colder 50 = .ok (.iaload, 1) := by decide +kernel
theorem dX12_colder_51 : decode cX12_colder 51 = .ok (.aload_n 0, 1) := by decide +kernel
theorem dX12_colder_52 : decode cX12_colder 52 = .ok (.iload_n 2, 1) := by decide +kernel
theorem dX12_colder_53 : decode cX12_colder 53 = .ok (.invokevirtual 119, 3) := by decide +kernel
theorem dX12_colder_56 : decode cX12_colder 56 = .ok (.if_icmp .le 16, 3) := by decide +kernel
theorem dX12_colder_59 : decode cX12_colder 59 = .ok (.aload_n 0, 1) := by decide +kernel
theorem dX12_colder_60 : decode cX12_colder 60 = .ok (.getfield 22, 3) := by decide +kernel
theorem dX12_colder_63 : decode cX12_colder 63 = .ok (.iload_n 2, 1) := by decide +kernel
theorem dX12_colder_64 : decode cX12_colder 64 = .ok (.iconst 0, 1) := by decide +kernel
theorem dX12_colder_65 : decode cX12_colder 65 = .ok (.iastore, 1) := by decide +kernel
theorem dX12_colder_66 : decode cX12_colder 66 = .ok (.aload_n 0, 1) := by decide +kernel
theorem dX12_colder_67 : decode cX12_colder 67 = .ok (.iload_n 2, 1) := by decide +kernel
theorem dX12_colder_68 : decode cX12_colder 68 = .ok (.iconst (-1), 1) := by decide +kernel
theorem dX12_colder_69 : decode cX12_colder 69 = .ok (.invokevirtual 112, 3) := by decide +kernel
theorem dX12_colder_72 : decode cX12_colder 72 = .ok (.iinc 2 1, 3) := by decide +kernel
theorem dX12_colder_75 : decode cX12_colder 75 = .ok (.goto (-73), 3) := by decide +kernel
theorem dX12_colder_78 : decode cX12_colder 78 = .ok (.return_, 1) := by decide +kernel
theorem dX12_goMinute_0 : decode cX12_goMinute 0 = .ok (.iload_n 2, 1) := by decide +kernel
theorem dX12_goMinute_1 : decode cX12_goMinute 1 = .ok (.tableswitch 95 0 2 #[27, 40, 87], 27) := by decide +kernel
theorem dX12_goMinute_28 : decode cX12_goMinute 28 = .ok (.aload_n 0, 1) := by decide +kernel
theorem dX12_goMinute_29 : decode cX12_goMinute 29 = .ok (.iload_n 1, 1) := by decide +kernel
theorem dX12_goMinute_30 : decode cX12_goMinute 30 = .ok (.aload_n 0, 1) := by decide +kernel
theorem dX12_goMinute_31 : decode cX12_goMinute 31 = .ok (.iload_n 1, 1) := by decide +kernel
theorem dX12_goMinute_32 : decode cX12_goMinute 32 = .ok (.invokevirtual 122, 3) := by decide +kernel
theorem dX12_goMinute_35 : decode cX12_goMinute 35 = .ok (.invokevirtual 112, 3) := by decide +kernel
theorem dX12_goMinute_38 : decode cX12_goMinute 38 = .ok (.goto 63, 3) := by decide +kernel
theorem dX12_goMinute_41 : decode cX12_goMinute 41 = .ok (.aload_n 0, 1) := by decide +kernel
theorem dX12_goMinute_42 : decode cX12_goMinute 42 = .ok (.iload_n 1, 1) := by decide +kernel
theorem dX12_goMinute_43 : decode cX12_goMinute 43 = .ok (.aload_n 0, 1) := by decide +kernel
theorem dX12_goMinute_44 : decode cX12_goMinute 44 = .ok (.iload_n 1, 1) := by decide +kernel
theorem dX12_goMinute_45 : decode cX12_goMinute 45 = .ok (.invokevirtual 122, 3) := by decide +kernel
theorem dX12_goMinute_48 : decode cX12_goMinute 48 = .ok (.iconst 2, 1) := by decide +kernel
theorem dX12_goMinute_49 : decode cX12_goMinute 49 = .ok (.idiv, 1) := by decide +kernel
theorem dX12_goMinute_50 : decode cX12_goMinute 50 = .ok (.iconst 1, 1) := by decide +kernel
theorem dX12_goMinute_51 : decode cX12_goMinute 51 = .ok (.iadd, 1) := by decide +kernel
theorem dX12_goMinute_52 : decode cX12_goMinute 52 = .ok (.invokevirtual 112, 3) := by decide +kernel
theorem dX12_goMinute_55 : decode cX12_goMinute 55 = .ok (.aload_n 0, 1) := by decide +kernel
theorem dX12_goMinute_56 : decode cX12_goMinute 56 = .ok (.getfield 19, 3) := by decide +kernel
theorem dX12_goMinute_59 : decode cX12_goMinute 59 = .ok (.iload_n 1, 1) := by decide +kernel
theorem dX12_goMinute_60 : decode cX12_goMinute 60 = .ok (.dup2, 1) := by decide +kernel
theorem dX12_goMinute_61 : decode cX12_goMinute 61 = .ok (.iaload, 1) := by decide +kernel
theorem dX12_goMinute_62 : decode cX12_goMinute 62 = .ok (.aload_n 0, 1) := by decide +kernel
theorem dX12_goMinute_63 : decode cX12_goMinute 63 = .ok (.getfield 16, 3) := by decide +kernel
theorem dX12_goMinute_66 : decode cX12_goMinute 66 = .ok (.iload_n 1, 1) := by decide +kernel
theorem dX12_goMinute_67 : decode cX12_goMinute 67 = .ok (.iaload, 1) := by decide +kernel
theorem dX12_goMinute_68 : decode cX12_goMinute 68 = .ok (.aload_n 0, 1) := by decide +kernel
theorem dX12_goMinute_69 : decode cX12_goMinute 69 = .ok (.iload_n 1, 1) := by decide +kernel
theorem dX12_goMinute_70 : decode cX12_goMinute 70 = .ok (.invokevirtual 95, 3) := by decide +kernel
theorem dX12_goMinute_73 : decode cX12_goMinute 73 = .ok (.iconst 3, 1) := by decide +kernel
theorem dX12_goMinute_74 : decode cX12_goMinute 74 = .ok (.iadd, 1) := by decide +kernel
theorem dX12_goMinute_75 : decode cX12_goMinute 75 = .ok (.if_icmp .lt 7, 3) := by decide +kernel
theorem dX12_goMinute_78 : decode cX12_goMinute 78 = .ok (.iconst 1, 1) := by decide +kernel
theorem dX12_goMinute_79 : decode cX12_goMinute 79 = .ok (.goto 4, 3) := by decide +kernel
theorem dX12_goMinute_82 : decode cX12_goMinute 82 = .ok (.iconst 0, 1) := by decide +kernel
theorem dX12_goMinute_83 : decode cX12_goMinute 83 = .ok (.iadd, 1) := by decide +kernel
theorem dX12_goMinute_84 : decode cX12_goMinute 84 = .ok (.iastore, 1) := by decide +kernel
theorem dX12_goMinute_85 : decode cX12_goMinute 85 = .ok (.goto 16, 3) := by decide +kernel
theorem dX12_goMinute_88 : decode cX12_goMinute 88 = .ok (.aload_n 0, 1) := by decide +kernel
theorem dX12_goMinute_89 : decode cX12_goMinute 89 = .ok (.iload_n 1, 1) := by decide +kernel
theorem dX12_goMinute_90 : decode cX12_goMinute 90 = .ok (.invokevirtual 125, 3) := by decide +kernel
theorem dX12_goMinute_93 : decode cX12_goMinute 93 = .ok (.goto 8, 3) := by decide +kernel
theorem dX12_goMinute_96 : decode cX12_goMinute 96 = .ok (.aload_n 0, 1) := by decide +kernel
theorem dX12_goMinute_97 : decode cX12_goMinute 97 = .ok (.iload_n 1, 1) := by decide +kernel
theorem dX12_goMinute_98 : decode cX12_goMinute 98 = .ok (.invokevirtual 129, 3) := by decide +kernel
theorem dX12_goMinute_101 : decode cX12_goMinute 101 = .ok (.aload_n 0, 1) := by decide +kernel
theorem dX12_goMinute_102 : decode cX12_goMinute 102 = .ok (.iload_n 1, 1) := by decide +kernel
theorem dX12_goMinute_103 : decode cX12_goMinute 103 = .ok (.invokevirtual 132, 3) := by decide +kernel
theorem dX12_goMinute_106 : decode cX12_goMinute 106 = .ok (.aload_n 0, 1) := by decide +kernel
theorem dX12_goMinute_107 : decode cX12_goMinute 107 = .ok (.dup, 1) := by decide +kernel
theorem dX12_goMinute_108 : decode cX12_goMinute 108 = .ok (.getfield 135, 3) := by decide +kernel
theorem dX12_goMinute_111 : decode cX12_goMinute 111 = .ok (.iconst 1, 1) := by decide +kernel
theorem dX12_goMinute_112 : decode cX12_goMinute 112 = .ok (.iadd, 1) := by decide +kernel
theorem dX12_goMinute_113 : decode cX12_goMinute 113 = .ok (.putfield 135, 3) := by decide +kernel
theorem dX12_goMinute_116 : decode cX12_goMinute 116 = .ok (.return_, 1) := by decide +kernel
theorem dX12_goBreak_0 : decode cX12_goBreak 0 = .ok (.iconst 0, 1) := by decide +kernel
theorem dX12_goBreak_1 : decode cX12_goBreak 1 = .ok (.istore_n 2, 1) := by decide +kernel
theorem dX12_goBreak_2 : decode cX12_goBreak 2 = .ok (.iload_n 2, 1) := by decide +kernel
theorem dX12_goBreak_3 : decode cX12_goBreak 3 = .ok (.aload_n 0, 1) := by decide +kernel
theorem dX12_goBreak_4 : decode cX12_goBreak 4 = .ok (.getfield 81, 3) := by decide +kernel
theorem dX12_goBreak_7 : decode cX12_goBreak 7 = .ok (.if_icmp .ge 72, 3) := by decide +kernel
theorem dX12_goBreak_10 : decode cX12_goBreak 10 = .ok (.aload_n 0, 1) := by decide +kernel
theorem dX12_goBreak_11 : decode cX12_goBreak 11 = .ok (.getfield 19, 3) := by decide +kernel
theorem dX12_goBreak_14 : decode cX12_goBreak 14 = .ok (.iload_n 2, 1) := by decide +kernel
theorem dX12_goBreak_15 : decode cX12_goBreak 15 = .ok (.aload_n 0, 1) := by decide +kernel
theorem dX12_goBreak_16 : decode cX12_goBreak 16 = .ok (.getfield 19, 3) := by decide +kernel
theorem dX12_goBreak_19 : decode cX12_goBreak 19 = .ok (.iload_n 2, 1) := by decide +kernel
theorem dX12_goBreak_20 : decode cX12_goBreak 20 = .ok (.iaload, 1) := by decide +kernel
theorem dX12_goBreak_21 : decode cX12_goBreak 21 = .ok (.bipush 7, 2) := by decide +kernel
theorem dX12_goBreak_23 : decode cX12_goBreak 23 = .ok (.if_icmp .ne 8, 3) := by decide +kernel
theorem dX12_goBreak_26 : decode cX12_goBreak 26 = .ok (.bipush 7, 2) := by decide +kernel
theorem dX12_goBreak_28 : decode cX12_goBreak 28 = .ok (.goto 18, 3) := by decide +kernel
theorem dX12_goBreak_31 : decode cX12_goBreak 31 = .ok (.aload_n 0, 1) := by decide +kernel
theorem dX12_goBreak_32 : decode cX12_goBreak 32 = .ok (.getfield 19, 3) := by decide +kernel
theorem dX12_goBreak_35 : decode cX12_goBreak 35 = .ok (.iload_n 2, 1) := by decide +kernel
theorem dX12_goBreak_36 : decode cX12_goBreak 36 = .ok (.iaload, 1) := by decide +kernel
theorem dX12_goBreak_37 : decode cX12_goBreak 37 = .ok (.iload_n 1, 1) := by decide +kernel
theorem dX12_goBreak_38 : decode cX12_goBreak 38 = .ok (.iconst 3, 1) := by decide +kernel
theorem dX12_goBreak_39 : decode cX12_goBreak 39 = .ok (.idiv, 1) := by decide +kernel
theorem dX12_goBreak_40 : decode cX12_goBreak 40 = .ok (.isub, 1) := by decide +kernel
theorem dX12_goBreak_41 : decode cX12_goBreak 41 = .ok (.bipush 7, 2) := by decide +kernel
theorem dX12_goBreak_43 : decode cX12_goBreak 43 = .ok (.invokestatic 103, 3) := by decide +kernel
theorem dX12_goBreak_46 : decode cX12_goBreak 46 = .ok (.iastore, 1) := by decide +kernel
theorem dX12_goBreak_47 : decode cX12_goBreak 47 = .ok (.aload_n 0, 1) := by decide +kernel
theorem dX12_goBreak_48 : decode cX12_goBreak 48 = .ok (.getfield 16, 3) := by decide +kernel
theorem dX12_goBreak_51 : decode cX12_goBreak 51 = .ok (.iload_n 2, 1) := by decide +kernel
theorem dX12_goBreak_52 : decode cX12_goBreak 52 = .ok (.aload_n 0, 1) := by decide +kernel
theorem dX12_goBreak_53 : decode cX12_goBreak 53 = .ok (.getfield 16, 3) := by decide +kernel
theorem dX12_goBreak_56 : decode cX12_goBreak 56 = .ok (.iload_n 2, 1) := by decide +kernel
theorem dX12_goBreak_57 : decode cX12_goBreak 57 = .ok (.iaload, 1) := by decide +kernel
theorem dX12_goBreak_58 : decode cX12_goBreak 58 = .ok (.iload_n 1, 1) := by decide +kernel
theorem dX12_goBreak_59 : decode cX12_goBreak 59 = .ok (.isub, 1) := by decide +kernel
theorem dX12_goBreak_60 : decode cX12_goBreak 60 = .ok (.bipush 20, 2) := by decide +kernel
theorem dX12_goBreak_62 : decode cX12_goBreak 62 = .ok (.invokestatic 103, 3) := by decide +kernel
theorem dX12_goBreak_65 : decode cX12_goBreak 65 = .ok (.iastore, 1) := by decide +kernel
theorem dX12_goBreak_66 : decode cX12_goBreak 66 = .ok (.aload_n 0, 1) := by decide +kernel
theorem dX12_goBreak_67 : decode cX12_goBreak 67 = .ok (.getfield 22, 3) := by decide +kernel
theorem dX12_goBreak_70 : decode cX12_goBreak 70 = .ok (.iload_n 2, 1) := by decide +kernel
theorem dX12_goBreak_71 : decode cX12_goBreak 71 = .ok (.iconst 0, 1) := by decide +kernel
theorem dX12_goBreak_72 : decode cX12_goBreak 72 = .ok (.iastore, 1) := by decide +kernel
theorem dX12_goBreak_73 : decode cX12_goBreak 73 = .ok (.iinc 2 1, 3) := by decide +kernel
theorem dX12_goBreak_76 : decode cX12_goBreak 76 = .ok (.goto (-74), 3) := by decide +kernel
theorem dX12_goBreak_79 : decode cX12_goBreak 79 = .ok (.return_, 1) := by decide +kernel
theorem dX12_allSteps_0 : decode cX12_allSteps 0 = .ok (.iconst 0, 1) := by decide +kernel
theorem dX12_allSteps_1 : decode cX12_allSteps 1 = .ok (.istore_n 1, 1) := by decide +kernel
theorem dX12_allSteps_2 : decode cX12_allSteps 2 = .ok (.iconst 0, 1) := by decide +kernel
theorem dX12_allSteps_3 : decode cX12_allSteps 3 = .ok (.istore_n 2, 1) := by decide +kernel
theorem dX12_allSteps_4 : decode cX12_allSteps 4 = .ok (.iload_n 2, 1) := by decide +kernel
theorem dX12_allSteps_5 : decode cX12_allSteps 5 = .ok (.aload_n 0, 1) := by decide +kernel
theorem dX12_allSteps_6 : decode cX12_allSteps 6 = .ok (.getfield 81, 3) := by decide +kernel
theorem dX12_allSteps_9 : decode cX12_allSteps 9 = .ok (.if_icmp .ge 18, 3) := by decide +kernel
theorem dX12_allSteps_12 : decode cX12_allSteps 12 = .ok (.iload_n 1, 1) := by decide +kernel
theorem dX12_allSteps_13 : decode cX12_allSteps 13 = .ok (.aload_n 0, 1) := by decide +kernel
theorem dX12_allSteps_14 : decode cX12_allSteps 14 = .ok (.getfield 19, 3) := by decide +kernel
theorem dX12_allSteps_17 : decode cX12_allSteps 17 = .ok (.iload_n 2, 1) := by decide +kernel
theorem dX12_allSteps_18 : decode cX12_allSteps 18 = .ok (.iaload, 1) := by decide +kernel
theorem dX12_allSteps_19 : decode cX12_allSteps 19 = .ok (.iadd, 1) := by decide +kernel
theorem dX12_allSteps_20 : decode cX12_allSteps 20 = .ok (.istore_n 1, 1) := by decide +kernel
theorem dX12_allSteps_21 : decode cX12_allSteps 21 = .ok (.iinc 2 1, 3) := by decide +kernel
theorem dX12_allSteps_24 : decode cX12_allSteps 24 = .ok (.goto (-20), 3) := by decide +kernel
theorem dX12_allSteps_27 : decode cX12_allSteps 27 = .ok (.iload_n 1, 1) := by decide +kernel
theorem dX12_allSteps_28 : decode cX12_allSteps 28 = .ok (.ireturn, 1) := by decide +kernel
theorem dX12_swimBits_0 : decode cX12_swimBits 0 = .ok (.iconst 0, 1) := by decide +kernel
theorem dX12_swimBits_1 : decode cX12_swimBits 1 = .ok (.istore_n 1, 1) := by decide +kernel
theorem dX12_swimBits_2 : decode cX12_swimBits 2 = .ok (.iconst 0, 1) := by decide +kernel
theorem dX12_swimBits_3 : decode cX12_swimBits 3 = .ok (.istore_n 2, 1) := by decide +kernel
theorem dX12_swimBits_4 : decode cX12_swimBits 4 = .ok (.iload_n 2, 1) := by decide +kernel
theorem dX12_swimBits_5 : decode cX12_swimBits 5 = .ok (.aload_n 0, 1) := by decide +kernel
theorem dX12_swimBits_6 : decode cX12_swimBits 6 = .ok (.getfield 81, 3) := by decide +kernel
theorem dX12_swimBits_9 : decode cX12_swimBits 9 = .ok (.if_icmp .ge 30, 3) := by decide +kernel
theorem dX12_swimBits_12 : decode cX12_swimBits 12 = .ok (.iload_n 1, 1) := by decide +kernel
theorem dX12_swimBits_13 : decode cX12_swimBits 13 = .ok (.aload_n 0, 1) := by decide +kernel
theorem dX12_swimBits_14 : decode cX12_swimBits 14 = .ok (.getfield 19, 3) := by decide +kernel
theorem dX12_swimBits_17 : decode cX12_swimBits 17 = .ok (.iload_n 2, 1) := by decide +kernel
theorem dX12_swimBits_18 : decode cX12_swimBits 18 = .ok (.iaload, 1) := by decide +kernel
theorem dX12_swimBits_19 : decode cX12_swimBits 19 = .ok (.bipush 7, 2) := by decide +kernel
theorem dX12_swimBits_21 : decode cX12_swimBits 21 = .ok (.if_icmp .ne 9, 3) := by decide +kernel
theorem dX12_swimBits_24 : decode cX12_swimBits 24 = .ok (.iconst 1, 1) := by decide +kernel
theorem dX12_swimBits_25 : decode cX12_swimBits 25 = .ok (.iload_n 2, 1) := by decide +kernel
theorem dX12_swimBits_26 : decode cX12_swimBits 26 = .ok (.ishl, 1) := by decide +kernel
theorem dX12_swimBits_27 : decode cX12_swimBits 27 = .ok (.goto 4, 3) := by decide +kernel
theorem dX12_swimBits_30 : decode cX12_swimBits 30 = .ok (.iconst 0, 1) := by decide +kernel
theorem dX12_swimBits_31 : decode cX12_swimBits 31 = .ok (.ior, 1) := by decide +kernel
theorem dX12_swimBits_32 : decode cX12_swimBits 32 = .ok (.istore_n 1, 1) := by decide +kernel
theorem dX12_swimBits_33 : decode cX12_swimBits 33 = .ok (.iinc 2 1, 3) := by decide +kernel
theorem dX12_swimBits_36 : decode cX12_swimBits 36 = .ok (.goto (-32), 3) := by decide +kernel
theorem dX12_swimBits_39 : decode cX12_swimBits 39 = .ok (.iload_n 1, 1) := by decide +kernel
theorem dX12_swimBits_40 : decode cX12_swimBits 40 = .ok (.ireturn, 1) := by decide +kernel
theorem dX12_here_0 : decode cX12_here 0 = .ok (.aload_n 0, 1) := by decide +kernel
theorem dX12_here_1 : decode cX12_here 1 = .ok (.getfield 138, 3) := by decide +kernel
theorem dX12_here_4 : decode cX12_here 4 = .ok (.aload_n 0, 1) := by decide +kernel
theorem dX12_here_5 : decode cX12_here 5 = .ok (.getfield 37, 3) := by decide +kernel
theorem dX12_here_8 : decode cX12_here 8 = .ok (.aload_n 0, 1) := by decide +kernel
theorem dX12_here_9 : decode cX12_here 9 = .ok (.getfield 141, 3) := by decide +kernel
theorem dX12_here_12 : decode cX12_here 12 = .ok (.iaload, 1) := by decide +kernel
theorem dX12_here_13 : decode cX12_here 13 = .ok (.if_icmp .ge 24, 3) := by decide +kernel
theorem dX12_here_16 : decode cX12_here 16 = .ok (.aload_n 0, 1) := by decide +kernel
theorem dX12_here_17 : decode cX12_here 17 = .ok (.getfield 40, 3) := by decide +kernel
theorem dX12_here_20 : decode cX12_here 20 = .ok (.bipush 100, 2) := by decide +kernel
theorem dX12_here_22 : decode cX12_here 22 = .ok (.aload_n 0, 1) := by decide +kernel
theorem dX12_here_23 : decode cX12_here 23 = .ok (.getfield 141, 3) := by decide +kernel
theorem dX12_here_26 : decode cX12_here 26 = .ok (.imul, 1) := by decide +kernel
theorem dX12_here_27 : decode cX12_here 27 = .ok (.aload_n 0, 1) := by decide +kernel
theorem dX12_here_28 : decode cX12_here 28 = .ok (.getfield 138, 3) := by decide +kernel
theorem dX12_here_31 : decode cX12_here 31 = .ok (.iadd, 1) := by decide +kernel
theorem dX12_here_32 : decode cX12_here 32 = .ok (.laload, 1) := by decide +kernel
theorem dX12_here_33 : decode cX12_here 33 = .ok (.l2i, 1) := by decide +kernel
theorem dX12_here_34 : decode cX12_here 34 = .ok (.goto 6, 3) := by decide +kernel
theorem dX12_here_37 : decode cX12_here 37 = .ok (.sipush (-999), 3) := by decide +kernel
theorem dX12_here_40 : decode cX12_here 40 = .ok (.ireturn, 1) := by decide +kernel
theorem dX12_readDigits_0 : decode cX12_readDigits 0 = .ok (.iconst 0, 1) := by decide +kernel
theorem dX12_readDigits_1 : decode cX12_readDigits 1 = .ok (.istore_n 2, 1) := by decide +kernel
theorem dX12_readDigits_2 : decode cX12_readDigits 2 = .ok (.iconst 0, 1) := by decide +kernel
theorem dX12_readDigits_3 : decode cX12_readDigits 3 = .ok (.istore_n 3, 1) := by decide +kernel
theorem dX12_readDigits_4 : decode cX12_readDigits 4 = .ok (.iload_n 3, 1) := by decide +kernel
theorem dX12_readDigits_5 : decode cX12_readDigits 5 = .ok (.iload_n 1, 1) := by decide +kernel
theorem dX12_readDigits_6 : decode cX12_readDigits 6 = .ok (.if_icmp .ge 87, 3) := by decide +kernel
theorem dX12_readDigits_9 : decode cX12_readDigits 9 = .ok (.aload_n 0, 1) := by decide +kernel
theorem dX12_readDigits_10 : decode cX12_readDigits 10 = .ok (.aload_n 0, 1) := by decide +kernel
theorem dX12_readDigits_11 : decode cX12_readDigits 11 = .ok (.getfield 144, 3) := by decide +kernel
theorem dX12_readDigits_14 : decode cX12_readDigits 14 = .ok (.ifCond .ne 20, 3) := by decide +kernel
theorem dX12_readDigits_17 : decode cX12_readDigits 17 = .ok (.aload_n 0, 1) := by decide +kernel
theorem dX12_readDigits_18 : decode cX12_readDigits 18 = .ok (.invokevirtual 148, 3) := by decide +kernel
theorem dX12_readDigits_21 : decode cX12_readDigits 21 = .ok (.i2l, 1) := by decide +kernel
theorem dX12_readDigits_22 : decode cX12_readDigits 22 = .ok (.ldc2_w 152, 3) := by decide +kernel
theorem dX12_readDigits_25 : decode cX12_readDigits 25 = .ok (.ldc2_w 154, 3) := by decide +kernel
theorem dX12_readDigits_28 : decode cX12_readDigits 28 = .ok (.invokestatic 84, 3) := by decide +kernel
theorem dX12_readDigits_31 : decode cX12_readDigits 31 = .ok (.ifCond .ne 7, 3) := by decide +kernel
theorem dX12_readDigits_34 : decode cX12_readDigits 34 = .ok (.iconst 1, 1) := by decide +kernel
theorem dX12_readDigits_35 : decode cX12_readDigits 35 = .ok (.goto 4, 3) := by decide +kernel
theorem dX12_readDigits_38 : decode cX12_readDigits 38 = .ok (.iconst 0, 1) := by decide +kernel
theorem dX12_readDigits_39 : decode cX12_readDigits 39 = .ok (.putfield 144, 3) := by decide +kernel
theorem dX12_readDigits_42 : decode cX12_readDigits 42 = .ok (.aload_n 0, 1) := by decide +kernel
theorem dX12_readDigits_43 : decode cX12_readDigits 43 = .ok (.getfield 144, 3) := by decide +kernel
theorem dX12_readDigits_46 : decode cX12_readDigits 46 = .ok (.ifCond .eq 7, 3) := by decide +kernel
theorem dX12_readDigits_49 : decode cX12_readDigits 49 = .ok (.iconst 0, 1) := by decide +kernel
theorem dX12_readDigits_50 : decode cX12_readDigits 50 = .ok (.goto 15, 3) := by decide +kernel
theorem dX12_readDigits_53 : decode cX12_readDigits 53 = .ok (.bipush 10, 2) := by decide +kernel
theorem dX12_readDigits_55 : decode cX12_readDigits 55 = .ok (.iload_n 2, 1) := by decide +kernel
theorem dX12_readDigits_56 : decode cX12_readDigits 56 = .ok (.imul, 1) := by decide +kernel
theorem dX12_readDigits_57 : decode cX12_readDigits 57 = .ok (.aload_n 0, 1) := by decide +kernel
theorem dX12_readDigits_58 : decode cX12_readDigits 58 = .ok (.invokevirtual 148, 3) := by decide +kernel
theorem dX12_readDigits_61 : decode cX12_readDigits 61 = .ok (.iadd, 1) := by decide +kernel
theorem dX12_readDigits_62 : decode cX12_readDigits 62 = .ok (.bipush 48, 2) := by decide +kernel
theorem dX12_readDigits_64 : decode cX12_readDigits 64 = .ok (.isub, 1) := by decide +kernel
theorem dX12_readDigits_65 : decode cX12_readDigits 65 = .ok (.istore_n 2, 1) := by decide +kernel
theorem dX12_readDigits_66 : decode cX12_readDigits 66 = .ok (.aload_n 0, 1) := by decide +kernel
theorem dX12_readDigits_67 : decode cX12_readDigits 67 = .ok (.dup, 1) := by decide +kernel
theorem dX12_readDigits_68 : decode cX12_readDigits 68 = .ok (.getfield 138, 3) := by decide +kernel
theorem dX12_readDigits_71 : decode cX12_readDigits 71 = .ok (.aload_n 0, 1) := by decide +kernel
theorem dX12_readDigits_72 : decode cX12_readDigits 72 = .ok (.getfield 144, 3) := by decide +kernel
theorem dX12_readDigits_75 : decode cX12_readDigits 75 = .ok (.ifCond .eq 7, 3) := by decide +kernel
theorem dX12_readDigits_78 : decode cX12_readDigits 78 = .ok (.iconst 0, 1) := by decide +kernel
theorem dX12_readDigits_79 : decode cX12_readDigits 79 = .ok (.goto 4, 3) := by decide +kernel
theorem dX12_readDigits_82 : decode cX12_readDigits 82 = .ok (.iconst 1, 1) := by decide +kernel
theorem dX12_readDigits_83 : decode cX12_readDigits 83 = .ok (.iadd, 1) := by decide +kernel
theorem dX12_readDigits_84 : decode cX12_readDigits 84 = .ok (.putfield 138, 3) := by decide +kernel
theorem dX12_readDigits_87 : decode cX12_readDigits 87 = .ok (.iinc 3 1, 3) := by decide +kernel
theorem dX12_readDigits_90 : decode cX12_readDigits 90 = .ok (.goto (-86), 3) := by decide +kernel
theorem dX12_readDigits_93 : decode cX12_readDigits 93 = .ok (.iload_n 2, 1) := by decide +kernel
theorem dX12_readDigits_94 : decode cX12_readDigits 94 = .ok (.ireturn, 1) := by decide +kernel
theorem dX12_isLetter_0 : decode cX12_isLetter 0 = .ok (.iload_n 0, 1) := by decide +kernel
theorem dX12_isLetter_1 : decode cX12_isLetter 1 = .ok (.bipush 99, 2) := by decide +kernel
theorem dX12_isLetter_3 : decode cX12_isLetter 3 = .ok (.if_icmp .eq 33, 3) := by decide +kernel
theorem dX12_isLetter_6 : decode cX12_isLetter 6 = .ok (.iload_n 0, 1) := by decide +kernel
theorem dX12_isLetter_7 : decode cX12_isLetter 7 = .ok (.bipush 109, 2) := by decide +kernel
theorem dX12_isLetter_9 : decode cX12_isLetter 9 = .ok (.if_icmp .eq 27, 3) := by decide +kernel
theorem dX12_isLetter_12 : decode cX12_isLetter 12 = .ok (.iload_n 0, 1) := by decide +kernel
theorem dX12_isLetter_13 : decode cX12_isLetter 13 = .ok (.bipush 98, 2) := by decide +kernel
theorem dX12_isLetter_15 : decode cX12_isLetter 15 = .ok (.if_icmp .eq 21, 3) := by decide +kernel
theorem dX12_isLetter_18 : decode cX12_isLetter 18 = .ok (.iload_n 0, 1) := by decide +kernel
theorem dX12_isLetter_19 : decode cX12_isLetter 19 = .ok (.bipush 120, 2) := by decide +kernel
theorem dX12_isLetter_21 : decode cX12_isLetter 21 = .ok (.if_icmp .eq 15, 3) := by decide +kernel
theorem dX12_isLetter_24 : decode cX12_isLetter 24 = .ok (.iload_n 0, 1) := by decide +kernel
theorem dX12_isLetter_25 : decode cX12_isLetter 25 = .ok (.bipush 116, 2) := by decide +kernel
theorem dX12_isLetter_27 : decode cX12_isLetter 27 = .ok (.if_icmp .eq 9, 3) := by decide +kernel
theorem dX12_isLetter_30 : decode cX12_isLetter 30 = .ok (.iload_n 0, 1) := by decide +kernel
theorem dX12_isLetter_31 : decode cX12_isLetter 31 = .ok (.bipush 115, 2) := by decide +kernel
theorem dX12_isLetter_33 : decode cX12_isLetter 33 = .ok (.if_icmp .ne 7, 3) := by decide +kernel
theorem dX12_isLetter_36 : decode cX12_isLetter 36 = .ok (.iconst 1, 1) := by decide +kernel
theorem dX12_isLetter_37 : decode cX12_isLetter 37 = .ok (.goto 4, 3) := by decide +kernel
theorem dX12_isLetter_40 : decode cX12_isLetter 40 = .ok (.iconst 0, 1) := by decide +kernel
theorem dX12_isLetter_41 : decode cX12_isLetter 41 = .ok (.ireturn, 1) := by decide +kernel
theorem dX12_readNumbers_0 : decode cX12_readNumbers 0 = .ok (.aload_n 0, 1) := by decide +kernel
theorem dX12_readNumbers_1 : decode cX12_readNumbers 1 = .ok (.getfield 50, 3) := by decide +kernel
theorem dX12_readNumbers_4 : decode cX12_readNumbers 4 = .ok (.iload_n 2, 1) := by decide +kernel
theorem dX12_readNumbers_5 : decode cX12_readNumbers 5 = .ok (.aload_n 0, 1) := by decide +kernel
theorem dX12_readNumbers_6 : decode cX12_readNumbers 6 = .ok (.iconst 1, 1) := by decide +kernel
theorem dX12_readNumbers_7 : decode cX12_readNumbers 7 = .ok (.invokevirtual 156, 3) := by decide +kernel
theorem dX12_readNumbers_10 : decode cX12_readNumbers 10 = .ok (.iastore, 1) := by decide +kernel
theorem dX12_readNumbers_11 : decode cX12_readNumbers 11 = .ok (.iload_n 1, 1) := by decide +kernel
theorem dX12_readNumbers_12 : decode cX12_readNumbers 12 = .ok (.bipush 99, 2) := by decide +kernel
theorem dX12_readNumbers_14 : decode cX12_readNumbers 14 = .ok (.if_icmp .ne 32, 3) := by decide +kernel
theorem dX12_readNumbers_17 : decode cX12_readNumbers 17 = .ok (.aload_n 0, 1) := by decide +kernel
theorem dX12_readNumbers_18 : decode cX12_readNumbers 18 = .ok (.getfield 50, 3) := by decide +kernel
theorem dX12_readNumbers_21 : decode cX12_readNumbers 21 = .ok (.iload_n 2, 1) := by decide +kernel
theorem dX12_readNumbers_22 : decode cX12_readNumbers 22 = .ok (.iconst 1, 1) := by decide +kernel
theorem dX12_readNumbers_23 : decode cX12_readNumbers 23 = .ok (.iadd, 1) := by decide +kernel
theorem dX12_readNumbers_24 : decode cX12_readNumbers 24 = .ok (.aload_n 0, 1) := by decide +kernel
theorem dX12_readNumbers_25 : decode cX12_readNumbers 25 = .ok (.iconst 1, 1) := by decide +kernel
theorem dX12_readNumbers_26 : decode cX12_readNumbers 26 = .ok (.invokevirtual 156, 3) := by decide +kernel
theorem dX12_readNumbers_29 : decode cX12_readNumbers 29 = .ok (.iastore, 1) := by decide +kernel
theorem dX12_readNumbers_30 : decode cX12_readNumbers 30 = .ok (.aload_n 0, 1) := by decide +kernel
theorem dX12_readNumbers_31 : decode cX12_readNumbers 31 = .ok (.getfield 50, 3) := by decide +kernel
theorem dX12_readNumbers_34 : decode cX12_readNumbers 34 = .ok (.iload_n 2, 1) := by decide +kernel
theorem dX12_readNumbers_35 : decode cX12_readNumbers 35 = .ok (.iconst 2, 1) := by decide +kernel
theorem dX12_readNumbers_36 : decode cX12_readNumbers 36 = .ok (.iadd, 1) := by decide +kernel
theorem dX12_readNumbers_37 : decode cX12_readNumbers 37 = .ok (.aload_n 0, 1) := by decide +kernel
theorem dX12_readNumbers_38 : decode cX12_readNumbers 38 = .ok (.iconst 2, 1) := by decide +kernel
theorem dX12_readNumbers_39 : decode cX12_readNumbers 39 = .ok (.invokevirtual 156, 3) := by decide +kernel
theorem dX12_readNumbers_42 : decode cX12_readNumbers 42 = .ok (.iastore, 1) := by decide +kernel
theorem dX12_readNumbers_43 : decode cX12_readNumbers 43 = .ok (.goto 32, 3) := by decide +kernel
theorem dX12_readNumbers_46 : decode cX12_readNumbers 46 = .ok (.iload_n 1, 1) := by decide +kernel
theorem dX12_readNumbers_47 : decode cX12_readNumbers 47 = .ok (.bipush 98, 2) := by decide +kernel
theorem dX12_readNumbers_49 : decode cX12_readNumbers 49 = .ok (.if_icmp .eq 26, 3) := by decide +kernel
theorem dX12_readNumbers_52 : decode cX12_readNumbers 52 = .ok (.aload_n 0, 1) := by decide +kernel
theorem dX12_readNumbers_53 : decode cX12_readNumbers 53 = .ok (.getfield 50, 3) := by decide +kernel
theorem dX12_readNumbers_56 : decode cX12_readNumbers 56 = .ok (.iload_n 2, 1) := by decide +kernel
theorem dX12_readNumbers_57 : decode cX12_readNumbers 57 = .ok (.iconst 1, 1) := by decide +kernel
theorem dX12_readNumbers_58 : decode cX12_readNumbers 58 = .ok (.iadd, 1) := by decide +kernel
theorem dX12_readNumbers_59 : decode cX12_readNumbers 59 = .ok (.aload_n 0, 1) := by decide +kernel
theorem dX12_readNumbers_60 : decode cX12_readNumbers 60 = .ok (.iload_n 1, 1) := by decide +kernel
theorem dX12_readNumbers_61 : decode cX12_readNumbers 61 = .ok (.bipush 116, 2) := by decide +kernel
theorem dX12_readNumbers_63 : decode cX12_readNumbers 63 = .ok (.if_icmp .ne 7, 3) := by decide +kernel
theorem dX12_readNumbers_66 : decode cX12_readNumbers 66 = .ok (.iconst 2, 1) := by decide +kernel
theorem dX12_readNumbers_67 : decode cX12_readNumbers 67 = .ok (.goto 4, 3) := by decide +kernel
theorem dX12_readNumbers_70 : decode cX12_readNumbers 70 = .ok (.iconst 1, 1) := by decide +kernel
theorem dX12_readNumbers_71 : decode cX12_readNumbers 71 = .ok (.invokevirtual 156, 3) := by decide +kernel
theorem dX12_readNumbers_74 : decode cX12_readNumbers 74 = .ok (.iastore, 1) := by decide +kernel
theorem dX12_readNumbers_75 : decode cX12_readNumbers 75 = .ok (.return_, 1) := by decide +kernel
