theorem dX12_layOrder_1 : decode cX12_layOrder 1 = .ok (.istore_n 3, 1) := by decide +kernel
theorem dX12_layOrder_2 : decode cX12_layOrder 2 = .ok (.iconst 0, 1) := by decide +kernel
theorem dX12_layOrder_3 : decode cX12_layOrder 3 = .ok (.istore 4, 2) := by decide +kernel
theorem dX12_layOrder_5 : decode cX12_layOrder 5 = .ok (.iconst 0, 1) := by decide +kernel
theorem dX12_layOrder_6 : decode cX12_layOrder 6 = .ok (.istore 5, 2) := by decide +kernel
theorem dX12_layOrder_8 : decode cX12_layOrder 8 = .ok (.iload 5, 2) := by decide +kernel
theorem dX12_layOrder_10 : decode cX12_layOrder 10 = .ok (.iload_n 2, 1) := by decide +kernel
theorem dX12_layOrder_11 : decode cX12_layOrder 11 = .ok (.if_icmp .ge 93, 3) := by decide +kernel
theorem dX12_layOrder_14 : decode cX12_layOrder 14 = .ok (.iload_n 2, 1) := by decide +kernel
theorem dX12_layOrder_15 : decode cX12_layOrder 15 = .ok (.iconst 1, 1) := by decide +kernel
theorem dX12_layOrder_16 : decode cX12_layOrder 16 = .ok (.isub, 1) := by decide +kernel
theorem dX12_layOrder_17 : decode cX12_layOrder 17 = .ok (.iload 5, 2) := by decide +kernel
theorem dX12_layOrder_19 : decode cX12_layOrder 19 = .ok (.isub, 1) := by decide +kernel
theorem dX12_layOrder_20 : decode cX12_layOrder 20 = .ok (.invokestatic 285, 3) := by decide +kernel
theorem dX12_layOrder_23 : decode cX12_layOrder 23 = .ok (.istore 6, 2) := by decide +kernel
theorem dX12_layOrder_25 : decode cX12_layOrder 25 = .ok (.iload_n 3, 1) := by decide +kernel
theorem dX12_layOrder_26 : decode cX12_layOrder 26 = .ok (.iload 6, 2) := by decide +kernel
theorem dX12_layOrder_28 : decode cX12_layOrder 28 = .ok (.idiv, 1) := by decide +kernel
theorem dX12_layOrder_29 : decode cX12_layOrder 29 = .ok (.istore 7, 2) := by decide +kernel
theorem dX12_layOrder_31 : decode cX12_layOrder 31 = .ok (.iload_n 3, 1) := by decide +kernel
theorem dX12_layOrder_32 : decode cX12_layOrder 32 = .ok (.iload 6, 2) := by decide +kernel
theorem dX12_layOrder_34 : decode cX12_layOrder 34 = .ok (.irem, 1) := by decide +kernel
theorem dX12_layOrder_35 : decode cX12_layOrder 35 = .ok (.istore_n 3, 1) := by decide +kernel
theorem dX12_layOrder_36 : decode cX12_layOrder 36 = .ok (.iconst 0, 1) := by decide +kernel
theorem dX12_layOrder_37 : decode cX12_layOrder 37 = .ok (.istore 8, 2) := by decide +kernel
theorem dX12_layOrder_39 : decode cX12_layOrder 39 = .ok (.iload 4, 2) := by decide +kernel
theorem dX12_layOrder_41 : decode cX12_layOrder 41 = .ok (.iload 8, 2) := by decide +kernel
theorem dX12_layOrder_43 : decode cX12_layOrder 43 = .ok (.invokestatic 288, 3) := by decide +kernel
theorem dX12_layOrder_46 : decode cX12_layOrder 46 = .ok (.ifCond .ne 8, 3) := by decide +kernel
theorem dX12_layOrder_49 : decode cX12_layOrder 49 = .ok (.iload 7, 2) := by decide +kernel
theorem dX12_layOrder_51 : decode cX12_layOrder 51 = .ok (.ifCond .le 29, 3) := by decide +kernel
theorem dX12_layOrder_54 : decode cX12_layOrder 54 = .ok (.iload 7, 2) := by decide +kernel
theorem dX12_layOrder_56 : decode cX12_layOrder 56 = .ok (.iload 4, 2) := by decide +kernel
theorem dX12_layOrder_58 : decode cX12_layOrder 58 = .ok (.iload 8, 2) := by decide +kernel
theorem dX12_layOrder_60 : decode cX12_layOrder 60 = .ok (.invokestatic 288, 3) := by decide +kernel
theorem dX12_layOrder_63 : decode cX12_layOrder 63 = .ok (.ifCond .eq 7, 3) := by decide +kernel
theorem dX12_layOrder_66 : decode cX12_layOrder 66 = .ok (.iconst 0, 1) := by decide +kernel
theorem dX12_layOrder_67 : decode cX12_layOrder 67 = .ok (.goto 4, 3) := by decide +kernel
theorem dX12_layOrder_70 : decode cX12_layOrder 70 = .ok (.iconst 1, 1) := by decide +kernel
theorem dX12_layOrder_71 : decode cX12_layOrder 71 = .ok (.isub, 1) := by decide +kernel
theorem dX12_layOrder_72 : decode cX12_layOrder 72 = .ok (.istore 7, 2) := by decide +kernel
theorem dX12_layOrder_74 : decode cX12_layOrder 74 = .ok (.iinc 8 1, 3) := by decide +kernel
theorem dX12_layOrder_77 : decode cX12_layOrder 77 = .ok (.goto (-38), 3) := by decide +kernel
theorem dX12_layOrder_80 : decode cX12_layOrder 80 = .ok (.aload_n 0, 1) := by decide +kernel
theorem dX12_layOrder_81 : decode cX12_layOrder 81 = .ok (.getfield 71, 3) := by decide +kernel
theorem dX12_layOrder_84 : decode cX12_layOrder 84 = .ok (.iload 5, 2) := by decide +kernel
theorem dX12_layOrder_86 : decode cX12_layOrder 86 = .ok (.iload 8, 2) := by decide +kernel
theorem dX12_layOrder_88 : decode cX12_layOrder 88 = .ok (.iastore, 1) := by decide +kernel
theorem dX12_layOrder_89 : decode cX12_layOrder 89 = .ok (.iload 4, 2) := by decide +kernel
theorem dX12_layOrder_91 : decode cX12_layOrder 91 = .ok (.iconst 1, 1) := by decide +kernel
theorem dX12_layOrder_92 : decode cX12_layOrder 92 = .ok (.iload 8, 2) := by decide +kernel
theorem dX12_layOrder_94 : decode cX12_layOrder 94 = .ok (.ishl, 1) := by decide +kernel
theorem dX12_layOrder_95 : decode cX12_layOrder 95 = .ok (.ior, 1) := by decide +kernel
theorem dX12_layOrder_96 : decode cX12_layOrder 96 = .ok (.istore 4, 2) := by decide +kernel
theorem dX12_layOrder_98 : decode cX12_layOrder 98 = .ok (.iinc 5 1, 3) := by decide +kernel
theorem dX12_layOrder_101 : decode cX12_layOrder 101 = .ok (.goto (-93), 3) := by decide +kernel
theorem dX12_layOrder_104 : decode cX12_layOrder 104 = .ok (.return_, 1) := by decide +kernel
theorem dX12_beside_0 : decode cX12_beside 0 = .ok (.aload_n 0, 1) := by decide +kernel
theorem dX12_beside_1 : decode cX12_beside 1 = .ok (.iconst 0, 1) := by decide +kernel
theorem dX12_beside_2 : decode cX12_beside 2 = .ok (.putfield 77, 3) := by decide +kernel
theorem dX12_beside_5 : decode cX12_beside 5 = .ok (.iload_n 1, 1) := by decide +kernel
theorem dX12_beside_6 : decode cX12_beside 6 = .ok (.i2l, 1) := by decide +kernel
theorem dX12_beside_7 : decode cX12_beside 7 = .ok (.ldc2_w 291, 3) := by decide +kernel
theorem dX12_beside_10 : decode cX12_beside 10 = .ok (.aload_n 0, 1) := by decide +kernel
theorem dX12_beside_11 : decode cX12_beside 11 = .ok (.getfield 81, 3) := by decide +kernel
theorem dX12_beside_14 : decode cX12_beside 14 = .ok (.iconst 1, 1) := by decide +kernel
theorem dX12_beside_15 : decode cX12_beside 15 = .ok (.isub, 1) := by decide +kernel
theorem dX12_beside_16 : decode cX12_beside 16 = .ok (.i2l, 1) := by decide +kernel
theorem dX12_beside_17 : decode cX12_beside 17 = .ok (.invokestatic 84, 3) := by decide +kernel
theorem dX12_beside_20 : decode cX12_beside 20 = .ok (.ifCond .ne 5, 3) := by decide +kernel
theorem dX12_beside_23 : decode cX12_beside 23 = .ok (.iconst (-1), 1) := by decide +kernel
theorem dX12_beside_24 : decode cX12_beside 24 = .ok (.ireturn, 1) := by decide +kernel
theorem dX12_beside_25 : decode cX12_beside 25 = .ok (.iconst 0, 1) := by decide +kernel
theorem dX12_beside_26 : decode cX12_beside 26 = .ok (.istore_n 2, 1) := by decide +kernel
theorem dX12_beside_27 : decode cX12_beside 27 = .ok (.iconst (-1), 1) := by decide +kernel
theorem dX12_beside_28 : decode cX12_beside 28 = .ok (.istore_n 3, 1) := by decide +kernel
theorem dX12_beside_29 : decode cX12_beside 29 = .ok (.aload_n 0, 1) := by decide +kernel
theorem dX12_beside_30 : decode cX12_beside 30 = .ok (.getfield 81, 3) := by decide +kernel
theorem dX12_beside_33 : decode cX12_beside 33 = .ok (.invokestatic 285, 3) := by decide +kernel
theorem dX12_beside_36 : decode cX12_beside 36 = .ok (.istore 4, 2) := by decide +kernel
theorem dX12_beside_38 : decode cX12_beside 38 = .ok (.iconst 0, 1) := by decide +kernel
theorem dX12_beside_39 : decode cX12_beside 39 = .ok (.istore 5, 2) := by decide +kernel
theorem dX12_beside_41 : decode cX12_beside 41 = .ok (.iload 5, 2) := by decide +kernel
theorem dX12_beside_43 : decode cX12_beside 43 = .ok (.iload 4, 2) := by decide +kernel
theorem dX12_beside_45 : decode cX12_beside 45 = .ok (.if_icmp .ge 96, 3) := by decide +kernel
theorem dX12_beside_48 : decode cX12_beside 48 = .ok (.aload_n 0, 1) := by decide +kernel
theorem dX12_beside_49 : decode cX12_beside 49 = .ok (.iload 5, 2) := by decide +kernel
theorem dX12_beside_51 : decode cX12_beside 51 = .ok (.aload_n 0, 1) := by decide +kernel
theorem dX12_beside_52 : decode cX12_beside 52 = .ok (.getfield 81, 3) := by decide +kernel
theorem dX12_beside_55 : decode cX12_beside 55 = .ok (.invokevirtual 293, 3) := by decide +kernel
theorem dX12_beside_58 : decode cX12_beside 58 = .ok (.iconst 0, 1) := by decide +kernel
theorem dX12_beside_59 : decode cX12_beside 59 = .ok (.istore 6, 2) := by decide +kernel
theorem dX12_beside_61 : decode cX12_beside 61 = .ok (.iconst 1, 1) := by decide +kernel
theorem dX12_beside_62 : decode cX12_beside 62 = .ok (.istore 7, 2) := by decide +kernel
theorem dX12_beside_64 : decode cX12_beside 64 = .ok (.iload 7, 2) := by decide +kernel
theorem dX12_beside_66 : decode cX12_beside 66 = .ok (.aload_n 0, 1) := by decide +kernel
theorem dX12_beside_67 : decode cX12_beside 67 = .ok (.getfield 81, 3) := by decide +kernel
theorem dX12_beside_70 : decode cX12_beside 70 = .ok (.if_icmp .ge 39, 3) := by decide +kernel
theorem dX12_beside_73 : decode cX12_beside 73 = .ok (.iload 6, 2) := by decide +kernel
theorem dX12_beside_75 : decode cX12_beside 75 = .ok (.aload_n 0, 1) := by decide +kernel
theorem dX12_beside_76 : decode cX12_beside 76 = .ok (.aload_n 0, 1) := by decide +kernel
theorem dX12_beside_77 : decode cX12_beside 77 = .ok (.getfield 71, 3) := by decide +kernel
theorem dX12_beside_80 : decode cX12_beside 80 = .ok (.iload 7, 2) := by decide +kernel
theorem dX12_beside_82 : decode cX12_beside 82 = .ok (.iconst 1, 1) := by decide +kernel
theorem dX12_beside_83 : decode cX12_beside 83 = .ok (.isub, 1) := by decide +kernel
theorem dX12_beside_84 : decode cX12_beside 84 = .ok (.iaload, 1) := by decide +kernel
theorem dX12_beside_85 : decode cX12_beside 85 = .ok (.invokevirtual 106, 3) := by decide +kernel
theorem dX12_beside_88 : decode cX12_beside 88 = .ok (.aload_n 0, 1) := by decide +kernel
theorem dX12_beside_89 : decode cX12_beside 89 = .ok (.aload_n 0, 1) := by decide +kernel
theorem dX12_beside_90 : decode cX12_beside 90 = .ok (.getfield 71, 3) := by decide +kernel
theorem dX12_beside_93 : decode cX12_beside 93 = .ok (.iload 7, 2) := by decide +kernel
theorem dX12_beside_95 : decode cX12_beside 95 = .ok (.iaload, 1) := by decide +kernel
theorem dX12_beside_96 : decode cX12_beside 96 = .ok (.invokevirtual 106, 3) := by decide +kernel
theorem dX12_beside_99 : decode cX12_beside 99 = .ok (.imul, 1) := by decide +kernel
theorem dX12_beside_100 : decode cX12_beside 100 = .ok (.iadd, 1) := by decide +kernel
theorem dX12_beside_101 : decode cX12_beside 101 = .ok (.istore 6, 2) := by decide +kernel
theorem dX12_beside_103 : decode cX12_beside 103 = .ok (.iinc 7 1, 3) := by decide +kernel
theorem dX12_beside_106 : decode cX12_beside 106 = .ok (.goto (-42), 3) := by decide +kernel
theorem dX12_beside_109 : decode cX12_beside 109 = .ok (.iload 6, 2) := by decide +kernel
theorem dX12_beside_111 : decode cX12_beside 111 = .ok (.iload_n 3, 1) := by decide +kernel
theorem dX12_beside_112 : decode cX12_beside 112 = .ok (.if_icmp .le 8, 3) := by decide +kernel
theorem dX12_beside_115 : decode cX12_beside 115 = .ok (.iload 5, 2) := by decide +kernel
theorem dX12_beside_117 : decode cX12_beside 117 = .ok (.goto 4, 3) := by decide +kernel
theorem dX12_beside_120 : decode cX12_beside 120 = .ok (.iload_n 2, 1) := by decide +kernel
theorem dX12_beside_121 : decode cX12_beside 121 = .ok (.istore_n 2, 1) := by decide +kernel
theorem dX12_beside_122 : decode cX12_beside 122 = .ok (.iload 6, 2) := by decide +kernel
theorem dX12_beside_124 : decode cX12_beside 124 = .ok (.iload_n 3, 1) := by decide +kernel
theorem dX12_beside_125 : decode cX12_beside 125 = .ok (.if_icmp .le 8, 3) := by decide +kernel
theorem dX12_beside_128 : decode cX12_beside 128 = .ok (.iload 6, 2) := by decide +kernel
theorem dX12_beside_130 : decode cX12_beside 130 = .ok (.goto 4, 3) := by decide +kernel
theorem dX12_beside_133 : decode cX12_beside 133 = .ok (.iload_n 3, 1) := by decide +kernel
theorem dX12_beside_134 : decode cX12_beside 134 = .ok (.istore_n 3, 1) := by decide +kernel
theorem dX12_beside_135 : decode cX12_beside 135 = .ok (.iinc 5 1, 3) := by decide +kernel
theorem dX12_beside_138 : decode cX12_beside 138 = .ok (.goto (-97), 3) := by decide +kernel
theorem dX12_beside_141 : decode cX12_beside 141 = .ok (.aload_n 0, 1) := by decide +kernel
theorem dX12_beside_142 : decode cX12_beside 142 = .ok (.iload_n 2, 1) := by decide +kernel
theorem dX12_beside_143 : decode cX12_beside 143 = .ok (.aload_n 0, 1) := by decide +kernel
theorem dX12_beside_144 : decode cX12_beside 144 = .ok (.getfield 81, 3) := by decide +kernel
theorem dX12_beside_147 : decode cX12_beside 147 = .ok (.invokevirtual 293, 3) := by decide +kernel
theorem dX12_beside_150 : decode cX12_beside 150 = .ok (.iload_n 1, 1) := by decide +kernel
theorem dX12_beside_151 : decode cX12_beside 151 = .ok (.ifCond .ge 7, 3) := by decide +kernel
theorem dX12_beside_154 : decode cX12_beside 154 = .ok (.iload_n 3, 1) := by decide +kernel
theorem dX12_beside_155 : decode cX12_beside 155 = .ok (.goto 9, 3) := by decide +kernel
theorem dX12_beside_158 : decode cX12_beside 158 = .ok (.aload_n 0, 1) := by decide +kernel
theorem dX12_beside_159 : decode cX12_beside 159 = .ok (.getfield 71, 3) := by decide +kernel
theorem dX12_beside_162 : decode cX12_beside 162 = .ok (.iload_n 1, 1) := by decide +kernel
theorem dX12_beside_163 : decode cX12_beside 163 = .ok (.iaload, 1) := by decide +kernel
theorem dX12_beside_164 : decode cX12_beside 164 = .ok (.ireturn, 1) := by decide +kernel
theorem dX12_helps_0 : decode cX12_helps 0 = .ok (.aload_n 0, 1) := by decide +kernel
theorem dX12_helps_1 : decode cX12_helps 1 = .ok (.iconst 0, 1) := by decide +kernel
theorem dX12_helps_2 : decode cX12_helps 2 = .ok (.putfield 77, 3) := by decide +kernel
theorem dX12_helps_5 : decode cX12_helps 5 = .ok (.bipush (-4), 2) := by decide +kernel
theorem dX12_helps_7 : decode cX12_helps 7 = .ok (.istore_n 1, 1) := by decide +kernel
theorem dX12_helps_8 : decode cX12_helps 8 = .ok (.iconst (-1), 1) := by decide +kernel
theorem dX12_helps_9 : decode cX12_helps 9 = .ok (.istore_n 2, 1) := by decide +kernel
theorem dX12_helps_10 : decode cX12_helps 10 = .ok (.iconst 0, 1) := by decide +kernel
theorem dX12_helps_11 : decode cX12_helps 11 = .ok (.istore_n 3, 1) := by decide +kernel
theorem dX12_helps_12 : decode cX12_helps 12 = .ok (.iload_n 3, 1) := by decide +kernel
theorem dX12_helps_13 : decode cX12_helps 13 = .ok (.aload_n 0, 1) := by decide +kernel
theorem dX12_helps_14 : decode cX12_helps 14 = .ok (.getfield 81, 3) := by decide +kernel
theorem dX12_helps_17 : decode cX12_helps 17 = .ok (.if_icmp .ge 92, 3) := by decide +kernel
theorem dX12_helps_20 : decode cX12_helps 20 = .ok (.iload_n 3, 1) := by decide +kernel
theorem dX12_helps_21 : decode cX12_helps 21 = .ok (.ifCond .le 7, 3) := by decide +kernel
theorem dX12_helps_24 : decode cX12_helps 24 = .ok (.iconst 1, 1) := by decide +kernel
theorem dX12_helps_25 : decode cX12_helps 25 = .ok (.goto 4, 3) := by decide +kernel
theorem dX12_helps_28 : decode cX12_helps 28 = .ok (.iconst 0, 1) := by decide +kernel
theorem dX12_helps_29 : decode cX12_helps 29 = .ok (.iload_n 3, 1) := by decide +kernel
theorem dX12_helps_30 : decode cX12_helps 30 = .ok (.iconst 1, 1) := by decide +kernel
theorem dX12_helps_31 : decode cX12_helps 31 = .ok (.iadd, 1) := by decide +kernel
theorem dX12_helps_32 : decode cX12_helps 32 = .ok (.aload_n 0, 1) := by decide +kernel
theorem dX12_helps_33 : decode cX12_helps 33 = .ok (.getfield 81, 3) := by decide +kernel
theorem dX12_helps_36 : decode cX12_helps 36 = .ok (.if_icmp .ge 7, 3) := by decide +kernel
theorem dX12_helps_39 : decode cX12_helps 39 = .ok (.iconst 1, 1) := by decide +kernel
theorem dX12_helps_40 : decode cX12_helps 40 = .ok (.goto 4, 3) := by decide +kernel
theorem dX12_helps_43 : decode cX12_helps 43 = .ok (.iconst 0, 1) := by decide +kernel
theorem dX12_helps_44 : decode cX12_helps 44 = .ok (.iadd, 1) := by decide +kernel
theorem dX12_helps_45 : decode cX12_helps 45 = .ok (.istore 4, 2) := by decide +kernel
theorem dX12_helps_47 : decode cX12_helps 47 = .ok (.aload_n 0, 1) := by decide +kernel
theorem dX12_helps_48 : decode cX12_helps 48 = .ok (.iload_n 3, 1) := by decide +kernel
theorem dX12_helps_49 : decode cX12_helps 49 = .ok (.invokevirtual 109, 3) := by decide +kernel
theorem dX12_helps_52 : decode cX12_helps 52 = .ok (.ifCond .eq 19, 3) := by decide +kernel
theorem dX12_helps_55 : decode cX12_helps 55 = .ok (.aload_n 0, 1) := by decide +kernel
theorem dX12_helps_56 : decode cX12_helps 56 = .ok (.iload_n 3, 1) := by decide +kernel
theorem dX12_helps_57 : decode cX12_helps 57 = .ok (.invokevirtual 106, 3) := by decide +kernel
theorem dX12_helps_60 : decode cX12_helps 60 = .ok (.iload 4, 2) := by decide +kernel
theorem dX12_helps_62 : decode cX12_helps 62 = .ok (.imul, 1) := by decide +kernel
theorem dX12_helps_63 : decode cX12_helps 63 = .ok (.iload_n 2, 1) := by decide +kernel
theorem dX12_helps_64 : decode cX12_helps 64 = .ok (.if_icmp .le 7, 3) := by decide +kernel
theorem dX12_helps_67 : decode cX12_helps 67 = .ok (.iconst 1, 1) := by decide +kernel
theorem dX12_helps_68 : decode cX12_helps 68 = .ok (.goto 4, 3) := by decide +kernel
theorem dX12_helps_71 : decode cX12_helps 71 = .ok (.iconst 0, 1) := by decide +kernel
theorem dX12_helps_72 : decode cX12_helps 72 = .ok (.istore 5, 2) := by decide +kernel
theorem dX12_helps_74 : decode cX12_helps 74 = .ok (.iload 5, 2) := by decide +kernel
theorem dX12_helps_76 : decode cX12_helps 76 = .ok (.ifCond .eq 7, 3) := by decide +kernel
theorem dX12_helps_79 : decode cX12_helps 79 = .ok (.iload_n 3, 1) := by decide +kernel
theorem dX12_helps_80 : decode cX12_helps 80 = .ok (.goto 4, 3) := by decide +kernel
theorem dX12_helps_83 : decode cX12_helps 83 = .ok (.iload_n 1, 1) := by decide +kernel
theorem dX12_helps_84 : decode cX12_helps 84 = .ok (.istore_n 1, 1) := by decide +kernel
theorem dX12_helps_85 : decode cX12_helps 85 = .ok (.iload 5, 2) := by decide +kernel
theorem dX12_helps_87 : decode cX12_helps 87 = .ok (.ifCond .eq 14, 3) := by decide +kernel
theorem dX12_helps_90 : decode cX12_helps 90 = .ok (.aload_n 0, 1) := by decide +kernel
theorem dX12_helps_91 : decode cX12_helps 91 = .ok (.iload_n 3, 1) := by decide +kernel
theorem dX12_helps_92 : decode cX12_helps 92 = .ok (.invokevirtual 106, 3) := by decide +kernel
theorem dX12_helps_95 : decode cX12_helps 95 = .ok (.iload 4, 2) := by decide +kernel
theorem dX12_helps_97 : decode cX12_helps 97 = .ok (.imul, 1) := by decide +kernel
theorem dX12_helps_98 : decode cX12_helps 98 = .ok (.goto 4, 3) := by decide +kernel
theorem dX12_helps_101 : decode cX12_helps 101 = .ok (.iload_n 2, 1) := by decide +kernel
theorem dX12_helps_102 : decode cX12_helps 102 = .ok (.istore_n 2, 1) := by decide +kernel
theorem dX12_helps_103 : decode cX12_helps 103 = .ok (.iinc 3 1, 3) := by decide +kernel
theorem dX12_helps_106 : decode cX12_helps 106 = .ok (.goto (-94), 3) := by decide +kernel
theorem dX12_helps_109 : decode cX12_helps 109 = .ok (.iload_n 1, 1) := by decide +kernel
theorem dX12_helps_110 : decode cX12_helps 110 = .ok (.ireturn, 1) := by decide +kernel
theorem dX12_costs_0 : decode cX12_costs 0 = .ok (.aload_n 0, 1) := by decide +kernel
theorem dX12_costs_1 : decode cX12_costs 1 = .ok (.iconst 0, 1) := by decide +kernel
theorem dX12_costs_2 : decode cX12_costs 2 = .ok (.putfield 77, 3) := by decide +kernel
theorem dX12_costs_5 : decode cX12_costs 5 = .ok (.aload_n 0, 1) := by decide +kernel
theorem dX12_costs_6 : decode cX12_costs 6 = .ok (.iload_n 1, 1) := by decide +kernel
theorem dX12_costs_7 : decode cX12_costs 7 = .ok (.invokevirtual 99, 3) := by decide +kernel
theorem dX12_costs_10 : decode cX12_costs 10 = .ok (.ifCond .ne 5, 3) := by decide +kernel
theorem dX12_costs_13 : decode cX12_costs 13 = .ok (.iconst (-1), 1) := by decide +kernel
theorem dX12_costs_14 : decode cX12_costs 14 = .ok (.ireturn, 1) := by decide +kernel
theorem dX12_costs_15 : decode cX12_costs 15 = .ok (.aload_n 0, 1) := by decide +kernel
theorem dX12_costs_16 : decode cX12_costs 16 = .ok (.iload_n 1, 1) := by decide +kernel
theorem dX12_costs_17 : decode cX12_costs 17 = .ok (.iconst 0, 1) := by decide +kernel
theorem dX12_costs_18 : decode cX12_costs 18 = .ok (.invokevirtual 244, 3) := by decide +kernel
theorem dX12_costs_21 : decode cX12_costs 21 = .ok (.aload_n 0, 1) := by decide +kernel
theorem dX12_costs_22 : decode cX12_costs 22 = .ok (.iload_n 1, 1) := by decide +kernel
theorem dX12_costs_23 : decode cX12_costs 23 = .ok (.aload_n 0, 1) := by decide +kernel
theorem dX12_costs_24 : decode cX12_costs 24 = .ok (.getfield 16, 3) := by decide +kernel
theorem dX12_costs_27 : decode cX12_costs 27 = .ok (.iload_n 1, 1) := by decide +kernel
theorem dX12_costs_28 : decode cX12_costs 28 = .ok (.iaload, 1) := by decide +kernel
theorem dX12_costs_29 : decode cX12_costs 29 = .ok (.invokevirtual 247, 3) := by decide +kernel
theorem dX12_costs_32 : decode cX12_costs 32 = .ok (.istore_n 2, 1) := by decide +kernel
theorem dX12_costs_33 : decode cX12_costs 33 = .ok (.aload_n 0, 1) := by decide +kernel
theorem dX12_costs_34 : decode cX12_costs 34 = .ok (.iload_n 1, 1) := by decide +kernel
theorem dX12_costs_35 : decode cX12_costs 35 = .ok (.aload_n 0, 1) := by decide +kernel
theorem dX12_costs_36 : decode cX12_costs 36 = .ok (.getfield 16, 3) := by decide +kernel
theorem dX12_costs_39 : decode cX12_costs 39 = .ok (.iload_n 1, 1) := by decide +kernel
theorem dX12_costs_40 : decode cX12_costs 40 = .ok (.iaload, 1) := by decide +kernel
theorem dX12_costs_41 : decode cX12_costs 41 = .ok (.aload_n 0, 1) := by decide +kernel
theorem dX12_costs_42 : decode cX12_costs 42 = .ok (.iload_n 1, 1) := by decide +kernel
theorem dX12_costs_43 : decode cX12_costs 43 = .ok (.invokevirtual 116, 3) := by decide +kernel
theorem dX12_costs_46 : decode cX12_costs 46 = .ok (.isub, 1) := by decide +kernel
theorem dX12_costs_47 : decode cX12_costs 47 = .ok (.invokevirtual 247, 3) := by decide +kernel
theorem dX12_costs_50 : decode cX12_costs 50 = .ok (.istore_n 3, 1) := by decide +kernel
theorem dX12_costs_51 : decode cX12_costs 51 = .ok (.iload_n 2, 1) := by decide +kernel
theorem dX12_costs_52 : decode cX12_costs 52 = .ok (.ifCond .ge 8, 3) := by decide +kernel
theorem dX12_costs_55 : decode cX12_costs 55 = .ok (.bipush (-4), 2) := by decide +kernel
theorem dX12_costs_57 : decode cX12_costs 57 = .ok (.goto 15, 3) := by decide +kernel
theorem dX12_costs_60 : decode cX12_costs 60 = .ok (.iload_n 3, 1) := by decide +kernel
theorem dX12_costs_61 : decode cX12_costs 61 = .ok (.ifCond .ge 8, 3) := by decide +kernel
theorem dX12_costs_64 : decode cX12_costs 64 = .ok (.bipush 60, 2) := by decide +kernel
theorem dX12_costs_66 : decode cX12_costs 66 = .ok (.goto 4, 3) := by decide +kernel
theorem dX12_costs_69 : decode cX12_costs 69 = .ok (.iload_n 3, 1) := by decide +kernel
theorem dX12_costs_70 : decode cX12_costs 70 = .ok (.iload_n 2, 1) := by decide +kernel
theorem dX12_costs_71 : decode cX12_costs 71 = .ok (.isub, 1) := by decide +kernel
theorem dX12_costs_72 : decode cX12_costs 72 = .ok (.ireturn, 1) := by decide +kernel
theorem dX12_bands_0 : decode cX12_bands 0 = .ok (.aload_n 0, 1) := by decide +kernel
theorem dX12_bands_1 : decode cX12_bands 1 = .ok (.iconst 0, 1) := by decide +kernel
theorem dX12_bands_2 : decode cX12_bands 2 = .ok (.putfield 77, 3) := by decide +kernel
theorem dX12_bands_5 : decode cX12_bands 5 = .ok (.aload_n 0, 1) := by decide +kernel
theorem dX12_bands_6 : decode cX12_bands 6 = .ok (.iload_n 1, 1) := by decide +kernel
theorem dX12_bands_7 : decode cX12_bands 7 = .ok (.invokevirtual 99, 3) := by decide +kernel
theorem dX12_bands_10 : decode cX12_bands 10 = .ok (.ifCond .eq 27, 3) := by decide +kernel
theorem dX12_bands_13 : decode cX12_bands 13 = .ok (.iload_n 2, 1) := by decide +kernel
theorem dX12_bands_14 : decode cX12_bands 14 = .ok (.i2l, 1) := by decide +kernel
theorem dX12_bands_15 : decode cX12_bands 15 = .ok (.lconst 0, 1) := by decide +kernel
theorem dX12_bands_16 : decode cX12_bands 16 = .ok (.ldc2_w 232, 3) := by decide +kernel
theorem dX12_bands_19 : decode cX12_bands 19 = .ok (.invokestatic 84, 3) := by decide +kernel
theorem dX12_bands_22 : decode cX12_bands 22 = .ok (.ifCond .eq 15, 3) := by decide +kernel
theorem dX12_bands_25 : decode cX12_bands 25 = .ok (.iload_n 3, 1) := by decide +kernel
theorem dX12_bands_26 : decode cX12_bands 26 = .ok (.i2l, 1) := by decide +kernel
theorem dX12_bands_27 : decode cX12_bands 27 = .ok (.lconst 1, 1) := by decide +kernel
theorem dX12_bands_28 : decode cX12_bands 28 = .ok (.ldc2_w 232, 3) := by decide +kernel
theorem dX12_bands_31 : decode cX12_bands 31 = .ok (.invokestatic 84, 3) := by decide +kernel
theorem dX12_bands_34 : decode cX12_bands 34 = .ok (.ifCond .ne 5, 3) := by decide +kernel
theorem dX12_bands_37 : decode cX12_bands 37 = .ok (.iconst (-1), 1) := by decide +kernel
theorem dX12_bands_38 : decode cX12_bands 38 = .ok (.ireturn, 1) := by decide +kernel
theorem dX12_bands_39 : decode cX12_bands 39 = .ok (.aload_n 0, 1) := by decide +kernel
theorem dX12_bands_40 : decode cX12_bands 40 = .ok (.getfield 19, 3) := by decide +kernel
theorem dX12_bands_43 : decode cX12_bands 43 = .ok (.iload_n 1, 1) := by decide +kernel
theorem dX12_bands_44 : decode cX12_bands 44 = .ok (.iaload, 1) := by decide +kernel
theorem dX12_bands_45 : decode cX12_bands 45 = .ok (.bipush 7, 2) := by decide +kernel
theorem dX12_bands_47 : decode cX12_bands 47 = .ok (.if_icmp .ne 6, 3) := by decide +kernel
theorem dX12_bands_50 : decode cX12_bands 50 = .ok (.bipush (-3), 2) := by decide +kernel
theorem dX12_bands_52 : decode cX12_bands 52 = .ok (.ireturn, 1) := by decide +kernel
theorem dX12_bands_53 : decode cX12_bands 53 = .ok (.iload_n 2, 1) := by decide +kernel
theorem dX12_bands_54 : decode cX12_bands 54 = .ok (.istore 4, 2) := by decide +kernel
theorem dX12_bands_56 : decode cX12_bands 56 = .ok (.iconst 0, 1) := by decide +kernel
theorem dX12_bands_57 : decode cX12_bands 57 = .ok (.istore 5, 2) := by decide +kernel
theorem dX12_bands_59 : decode cX12_bands 59 = .ok (.iload 5, 2) := by decide +kernel
theorem dX12_bands_61 : decode cX12_bands 61 = .ok (.bipush 12, 2) := by decide +kernel
theorem dX12_bands_63 : decode cX12_bands 63 = .ok (.if_icmp .ge 61, 3) := by decide +kernel
theorem dX12_bands_66 : decode cX12_bands 66 = .ok (.aload_n 0, 1) := by decide +kernel
theorem dX12_bands_67 : decode cX12_bands 67 = .ok (.getfield 16, 3) := by decide +kernel
theorem dX12_bands_70 : decode cX12_bands 70 = .ok (.iload_n 1, 1) := by decide +kernel
theorem dX12_bands_71 : decode cX12_bands 71 = .ok (.iaload, 1) := by decide +kernel
theorem dX12_bands_72 : decode cX12_bands 72 = .ok (.iload 5, 2) := by decide +kernel
theorem dX12_bands_74 : decode cX12_bands 74 = .ok (.iadd, 1) := by decide +kernel
theorem dX12_bands_75 : decode cX12_bands 75 = .ok (.bipush 20, 2) := by decide +kernel
theorem dX12_bands_77 : decode cX12_bands 77 = .ok (.invokestatic 103, 3) := by decide +kernel
theorem dX12_bands_80 : decode cX12_bands 80 = .ok (.aload_n 0, 1) := by decide +kernel
theorem dX12_bands_81 : decode cX12_bands 81 = .ok (.iload_n 1, 1) := by decide +kernel
theorem dX12_bands_82 : decode cX12_bands 82 = .ok (.invokevirtual 95, 3) := by decide +kernel
theorem dX12_bands_85 : decode cX12_bands 85 = .ok (.iload 4, 2) := by decide +kernel
theorem dX12_bands_87 : decode cX12_bands 87 = .ok (.isub, 1) := by decide +kernel
theorem dX12_bands_88 : decode cX12_bands 88 = .ok (.bipush 99, 2) := by decide +kernel
theorem dX12_bands_90 : decode cX12_bands 90 = .ok (.invokestatic 103, 3) := by decide +kernel
theorem dX12_bands_93 : decode cX12_bands 93 = .ok (.if_icmp .ge 6, 3) := by decide +kernel
theorem dX12_bands_96 : decode cX12_bands 96 = .ok (.iload 5, 2) := by decide +kernel
theorem dX12_bands_98 : decode cX12_bands 98 = .ok (.ireturn, 1) := by decide +kernel
theorem dX12_bands_99 : decode cX12_bands 99 = .ok (.iload 4, 2) := by decide +kernel
theorem dX12_bands_101 : decode cX12_bands 101 = .ok (.ifCond .ne 6, 3) := by decide +kernel
theorem dX12_bands_104 : decode cX12_bands 104 = .ok (.bipush (-4), 2) := by decide +kernel
theorem dX12_bands_106 : decode cX12_bands 106 = .ok (.ireturn, 1) := by decide +kernel
theorem dX12_bands_107 : decode cX12_bands 107 = .ok (.iload 4, 2) := by decide +kernel
theorem dX12_bands_109 : decode cX12_bands 109 = .ok (.iload_n 3, 1) := by decide +kernel
theorem dX12_bands_110 : decode cX12_bands 110 = .ok (.isub, 1) := by decide +kernel
theorem dX12_bands_111 : decode cX12_bands 111 = .ok (.bipush 9, 2) := by decide +kernel
theorem dX12_bands_113 : decode cX12_bands 113 = .ok (.invokestatic 103, 3) := by decide +kernel
theorem dX12_bands_116 : decode cX12_bands 116 = .ok (.istore 4, 2) := by decide +kernel
theorem dX12_bands_118 : decode cX12_bands 118 = .ok (.iinc 5 1, 3) := by decide +kernel
theorem dX12_bands_121 : decode cX12_bands 121 = .ok (.goto (-62), 3) := by decide +kernel
theorem dX12_bands_124 : decode cX12_bands 124 = .ok (.bipush (-4), 2) := by decide +kernel
theorem dX12_bands_126 : decode cX12_bands 126 = .ok (.ireturn, 1) := by decide +kernel
theorem dX12_divisor_0 : decode cX12_divisor 0 = .ok (.lload_n 0, 1) := by decide +kernel
theorem dX12_divisor_1 : decode cX12_divisor 1 = .ok (.lstore 4, 2) := by decide +kernel
theorem dX12_divisor_3 : decode cX12_divisor 3 = .ok (.lload_n 2, 1) := by decide +kernel
theorem dX12_divisor_4 : decode cX12_divisor 4 = .ok (.lstore 6, 2) := by decide +kernel
theorem dX12_divisor_6 : decode cX12_divisor 6 = .ok (.lload 6, 2) := by decide +kernel
theorem dX12_divisor_8 : decode cX12_divisor 8 = .ok (.lconst 0, 1) := by decide +kernel
theorem dX12_divisor_9 : decode cX12_divisor 9 = .ok (.lcmp, 1) := by decide +kernel
theorem dX12_divisor_10 : decode cX12_divisor 10 = .ok (.ifCond .eq 21, 3) := by decide +kernel
theorem dX12_divisor_13 : decode cX12_divisor 13 = .ok (.lload 4, 2) := by decide +kernel
theorem dX12_divisor_15 : decode cX12_divisor 15 = .ok (.lload 6, 2) := by decide +kernel
theorem dX12_divisor_17 : decode cX12_divisor 17 = .ok (.lrem, 1) := by decide +kernel
theorem dX12_divisor_18 : decode cX12_divisor 18 = .ok (.lstore 8, 2) := by decide +kernel
theorem dX12_divisor_20 : decode cX12_divisor 20 = .ok (.lload 6, 2) := by decide +kernel
theorem dX12_divisor_22 : decode cX12_divisor 22 = .ok (.lstore 4, 2) := by decide +kernel
theorem dX12_divisor_24 : decode cX12_divisor 24 = .ok (.lload 8, 2) := by decide +kernel
theorem dX12_divisor_26 : decode cX12_divisor 26 = .ok (.lstore 6, 2) := by decide +kernel
theorem dX12_divisor_28 : decode cX12_divisor 28 = .ok (.goto (-22), 3) := by decide +kernel
theorem dX12_divisor_31 : decode cX12_divisor 31 = .ok (.lload 4, 2) := by decide +kernel
theorem dX12_divisor_33 : decode cX12_divisor 33 = .ok (.lreturn, 1) := by decide +kernel
theorem dX12_partOf_0 : decode cX12_partOf 0 = .ok (.lload_n 0, 1) := by decide +kernel
theorem dX12_partOf_1 : decode cX12_partOf 1 = .ok (.lconst 0, 1) := by decide +kernel
theorem dX12_partOf_2 : decode cX12_partOf 2 = .ok (.lcmp, 1) := by decide +kernel
theorem dX12_partOf_3 : decode cX12_partOf 3 = .ok (.ifCond .ne 7, 3) := by decide +kernel
theorem dX12_partOf_6 : decode cX12_partOf 6 = .ok (.iload 4, 2) := by decide +kernel
theorem dX12_partOf_8 : decode cX12_partOf 8 = .ok (.i2l, 1) := by decide +kernel
theorem dX12_partOf_9 : decode cX12_partOf 9 = .ok (.lreturn, 1) := by decide +kernel
theorem dX12_partOf_10 : decode cX12_partOf 10 = .ok (.lload_n 0, 1) := by decide +kernel
theorem dX12_partOf_11 : decode cX12_partOf 11 = .ok (.lload_n 2, 1) := by decide +kernel
theorem dX12_partOf_12 : decode cX12_partOf 12 = .ok (.invokestatic 296, 3) := by decide +kernel
theorem dX12_partOf_15 : decode cX12_partOf 15 = .ok (.lstore 5, 2) := by decide +kernel
theorem dX12_partOf_17 : decode cX12_partOf 17 = .ok (.iload 4, 2) := by decide +kernel
theorem dX12_partOf_19 : decode cX12_partOf 19 = .ok (.ifCond .ne 10, 3) := by decide +kernel
theorem dX12_partOf_22 : decode cX12_partOf 22 = .ok (.lload_n 0, 1) := by decide +kernel
theorem dX12_partOf_23 : decode cX12_partOf 23 = .ok (.lload 5, 2) := by decide +kernel
theorem dX12_partOf_25 : decode cX12_partOf 25 = .ok (.ldiv, 1) := by decide +kernel
theorem dX12_partOf_26 : decode cX12_partOf 26 = .ok (.goto 7, 3) := by decide +kernel
theorem dX12_partOf_29 : decode cX12_partOf 29 = .ok (.lload_n 2, 1) := by decide +kernel
theorem dX12_partOf_30 : decode cX12_partOf 30 = .ok (.lload 5, 2) := by decide +kernel
theorem dX12_partOf_32 : decode cX12_partOf 32 = .ok (.ldiv, 1) := by decide +kernel
theorem dX12_partOf_33 : decode cX12_partOf 33 = .ok (.lreturn, 1) := by decide +kernel
theorem dX12_frights_0 : decode cX12_frights 0 = .ok (.aload_n 0, 1) := by decide +kernel
theorem dX12_frights_1 : decode cX12_frights 1 = .ok (.iconst 0, 1) := by decide +kernel
theorem dX12_frights_2 : decode cX12_frights 2 = .ok (.putfield 77, 3) := by decide +kernel
theorem dX12_frights_5 : decode cX12_frights 5 = .ok (.aload_n 0, 1) := by decide +kernel
theorem dX12_frights_6 : decode cX12_frights 6 = .ok (.iload_n 1, 1) := by decide +kernel
theorem dX12_frights_7 : decode cX12_frights 7 = .ok (.invokevirtual 99, 3) := by decide +kernel
theorem dX12_frights_10 : decode cX12_frights 10 = .ok (.ifCond .eq 53, 3) := by decide +kernel
theorem dX12_frights_13 : decode cX12_frights 13 = .ok (.iload_n 2, 1) := by decide +kernel
theorem dX12_frights_14 : decode cX12_frights 14 = .ok (.i2l, 1) := by decide +kernel
theorem dX12_frights_15 : decode cX12_frights 15 = .ok (.lconst 0, 1) := by decide +kernel
theorem dX12_frights_16 : decode cX12_frights 16 = .ok (.ldc2_w 300, 3) := by decide +kernel
theorem dX12_frights_19 : decode cX12_frights 19 = .ok (.invokestatic 84, 3) := by decide +kernel
theorem dX12_frights_22 : decode cX12_frights 22 = .ok (.ifCond .eq 41, 3) := by decide +kernel
theorem dX12_frights_25 : decode cX12_frights 25 = .ok (.iload_n 3, 1) := by decide +kernel
theorem dX12_frights_26 : decode cX12_frights 26 = .ok (.i2l, 1) := by decide +kernel
theorem dX12_frights_27 : decode cX12_frights 27 = .ok (.lconst 0, 1) := by decide +kernel
theorem dX12_frights_28 : decode cX12_frights 28 = .ok (.ldc2_w 223, 3) := by decide +kernel
theorem dX12_frights_31 : decode cX12_frights 31 = .ok (.invokestatic 84, 3) := by decide +kernel
theorem dX12_frights_34 : decode cX12_frights 34 = .ok (.ifCond .eq 29, 3) := by decide +kernel
theorem dX12_frights_37 : decode cX12_frights 37 = .ok (.iload 4, 2) := by decide +kernel
theorem dX12_frights_39 : decode cX12_frights 39 = .ok (.i2l, 1) := by decide +kernel
theorem dX12_frights_40 : decode cX12_frights 40 = .ok (.ldc2_w 302, 3) := by decide +kernel
theorem dX12_frights_43 : decode cX12_frights 43 = .ok (.ldc2_w 225, 3) := by decide +kernel
theorem dX12_frights_46 : decode cX12_frights 46 = .ok (.invokestatic 84, 3) := by decide +kernel
theorem dX12_frights_49 : decode cX12_frights 49 = .ok (.ifCond .eq 14, 3) := by decide +kernel
theorem dX12_frights_52 : decode cX12_frights 52 = .ok (.iload 5, 2) := by decide +kernel
theorem dX12_frights_54 : decode cX12_frights 54 = .ok (.i2l, 1) := by decide +kernel
theorem dX12_frights_55 : decode cX12_frights 55 = .ok (.lconst 0, 1) := by decide +kernel
theorem dX12_frights_56 : decode cX12_frights 56 = .ok (.lconst 1, 1) := by decide +kernel
theorem dX12_frights_57 : decode cX12_frights 57 = .ok (.invokestatic 84, 3) := by decide +kernel
theorem dX12_frights_60 : decode cX12_frights 60 = .ok (.ifCond .ne 7, 3) := by decide +kernel
theorem dX12_frights_63 : decode cX12_frights 63 = .ok (.ldc2_w 304, 3) := by decide +kernel
theorem dX12_frights_66 : decode cX12_frights 66 = .ok (.lreturn, 1) := by decide +kernel
theorem dX12_frights_67 : decode cX12_frights 67 = .ok (.lconst 0, 1) := by decide +kernel
theorem dX12_frights_68 : decode cX12_frights 68 = .ok (.lstore 6, 2) := by decide +kernel
theorem dX12_frights_70 : decode cX12_frights 70 = .ok (.lconst 1, 1) := by decide +kernel
theorem dX12_frights_71 : decode cX12_frights 71 = .ok (.lstore 8, 2) := by decide +kernel
theorem dX12_frights_73 : decode cX12_frights 73 = .ok (.iconst 0, 1) := by decide +kernel
theorem dX12_frights_74 : decode cX12_frights 74 = .ok (.istore 10, 2) := by decide +kernel
theorem dX12_frights_76 : decode cX12_frights 76 = .ok (.iload 10, 2) := by decide +kernel
theorem dX12_frights_78 : decode cX12_frights 78 = .ok (.iload_n 2, 1) := by decide +kernel
theorem dX12_frights_79 : decode cX12_frights 79 = .ok (.if_icmp .ge 17, 3) := by decide +kernel
theorem dX12_frights_82 : decode cX12_frights 82 = .ok (.lload 8, 2) := by decide +kernel
theorem dX12_frights_84 : decode cX12_frights 84 = .ok (.iload 4, 2) := by decide +kernel
theorem dX12_frights_86 : decode cX12_frights 86 = .ok (.i2l, 1) := by decide +kernel
theorem dX12_frights_87 : decode cX12_frights 87 = .ok (.lmul, 1) := by decide +kernel
theorem dX12_frights_88 : decode cX12_frights 88 = .ok (.lstore 8, 2) := by decide +kernel
theorem dX12_frights_90 : decode cX12_frights 90 = .ok (.iinc 10 1, 3) := by decide +kernel
theorem dX12_frights_93 : decode cX12_frights 93 = .ok (.goto (-17), 3) := by decide +kernel
theorem dX12_frights_96 : decode cX12_frights 96 = .ok (.iconst 0, 1) := by decide +kernel
theorem dX12_frights_97 : decode cX12_frights 97 = .ok (.istore 10, 2) := by decide +kernel
theorem dX12_frights_99 : decode cX12_frights 99 = .ok (.iload 10, 2) := by decide +kernel
theorem dX12_frights_101 : decode cX12_frights 101 = .ok (.iconst 1, 1) := by decide +kernel
theorem dX12_frights_102 : decode cX12_frights 102 = .ok (.iload_n 2, 1) := by decide +kernel
theorem dX12_frights_103 : decode cX12_frights 103 = .ok (.ishl, 1) := by decide +kernel
theorem dX12_frights_104 : decode cX12_frights 104 = .ok (.if_icmp .ge 160, 3) := by decide +kernel
theorem dX12_frights_107 : decode cX12_frights 107 = .ok (.lconst 1, 1) := by decide +kernel
theorem dX12_frights_108 : decode cX12_frights 108 = .ok (.lstore 11, 2) := by decide +kernel
theorem dX12_frights_110 : decode cX12_frights 110 = .ok (.aload_n 0, 1) := by decide +kernel
theorem dX12_frights_111 : decode cX12_frights 111 = .ok (.getfield 19, 3) := by decide +kernel
theorem dX12_frights_114 : decode cX12_frights 114 = .ok (.iload_n 1, 1) := by decide +kernel
theorem dX12_frights_115 : decode cX12_frights 115 = .ok (.iaload, 1) := by decide +kernel
theorem dX12_frights_116 : decode cX12_frights 116 = .ok (.istore 13, 2) := by decide +kernel
theorem dX12_frights_118 : decode cX12_frights 118 = .ok (.aload_n 0, 1) := by decide +kernel
theorem dX12_frights_119 : decode cX12_frights 119 = .ok (.getfield 16, 3) := by decide +kernel
theorem dX12_frights_122 : decode cX12_frights 122 = .ok (.iload_n 1, 1) := by decide +kernel
theorem dX12_frights_123 : decode cX12_frights 123 = .ok (.iaload, 1) := by decide +kernel
theorem dX12_frights_124 : decode cX12_frights 124 = .ok (.istore 14, 2) := by decide +kernel
theorem dX12_frights_126 : decode cX12_frights 126 = .ok (.iconst 0, 1) := by decide +kernel
theorem dX12_frights_127 : decode cX12_frights 127 = .ok (.istore 15, 2) := by decide +kernel
theorem dX12_frights_129 : decode cX12_frights 129 = .ok (.iload 15, 2) := by decide +kernel
theorem dX12_frights_131 : decode cX12_frights 131 = .ok (.iload_n 2, 1) := by decide +kernel
theorem dX12_frights_132 : decode cX12_frights 132 = .ok (.if_icmp .ge 102, 3) := by decide +kernel
theorem dX12_frights_135 : decode cX12_frights 135 = .ok (.lload 11, 2) := by decide +kernel
theorem dX12_frights_137 : decode cX12_frights 137 = .ok (.iload 10, 2) := by decide +kernel
theorem dX12_frights_139 : decode cX12_frights 139 = .ok (.iload 15, 2) := by decide +kernel
theorem dX12_frights_141 : decode cX12_frights 141 = .ok (.invokestatic 288, 3) := by decide +kernel
theorem dX12_frights_144 : decode cX12_frights 144 = .ok (.ifCond .eq 7, 3) := by decide +kernel
theorem dX12_frights_147 : decode cX12_frights 147 = .ok (.lconst 1, 1) := by decide +kernel
theorem dX12_frights_148 : decode cX12_frights 148 = .ok (.goto 8, 3) := by decide +kernel
theorem dX12_frights_151 : decode cX12_frights 151 = .ok (.iload 4, 2) := by decide +kernel
theorem dX12_frights_153 : decode cX12_frights 153 = .ok (.iconst 1, 1) := by decide +kernel
theorem dX12_frights_154 : decode cX12_frights 154 = .ok (.isub, 1) := by decide +kernel
theorem dX12_frights_155 : decode cX12_frights 155 = .ok (.i2l, 1) := by decide +kernel
theorem dX12_frights_156 : decode cX12_frights 156 = .ok (.lmul, 1) := by decide +kernel
theorem dX12_frights_157 : decode cX12_frights 157 = .ok (.lstore 11, 2) := by decide +kernel
theorem dX12_frights_159 : decode cX12_frights 159 = .ok (.iload 13, 2) := by decide +kernel
theorem dX12_frights_161 : decode cX12_frights 161 = .ok (.bipush 7, 2) := by decide +kernel
theorem dX12_frights_163 : decode cX12_frights 163 = .ok (.if_icmp .ge 19, 3) := by decide +kernel
theorem dX12_frights_166 : decode cX12_frights 166 = .ok (.iload 14, 2) := by decide +kernel
theorem dX12_frights_168 : decode cX12_frights 168 = .ok (.aload_n 0, 1) := by decide +kernel
theorem dX12_frights_169 : decode cX12_frights 169 = .ok (.iload_n 1, 1) := by decide +kernel
theorem dX12_frights_170 : decode cX12_frights 170 = .ok (.iload 13, 2) := by decide +kernel
theorem dX12_frights_172 : decode cX12_frights 172 = .ok (.invokevirtual 92, 3) := by decide +kernel
theorem dX12_frights_175 : decode cX12_frights 175 = .ok (.if_icmp .lt 7, 3) := by decide +kernel
theorem dX12_frights_178 : decode cX12_frights 178 = .ok (.iconst 1, 1) := by decide +kernel
theorem dX12_frights_179 : decode cX12_frights 179 = .ok (.goto 4, 3) := by decide +kernel
theorem dX12_frights_182 : decode cX12_frights 182 = .ok (.iconst 0, 1) := by decide +kernel
theorem dX12_frights_183 : decode cX12_frights 183 = .ok (.istore 16, 2) := by decide +kernel
theorem dX12_frights_185 : decode cX12_frights 185 = .ok (.iload 16, 2) := by decide +kernel
theorem dX12_frights_187 : decode cX12_frights 187 = .ok (.ifCond .eq 19, 3) := by decide +kernel
theorem dX12_frights_190 : decode cX12_frights 190 = .ok (.iload 10, 2) := by decide +kernel
theorem dX12_frights_192 : decode cX12_frights 192 = .ok (.iload 15, 2) := by decide +kernel
theorem dX12_frights_194 : decode cX12_frights 194 = .ok (.invokestatic 288, 3) := by decide +kernel
theorem dX12_frights_197 : decode cX12_frights 197 = .ok (.ifCond .ne 9, 3) := by decide +kernel
theorem dX12_frights_200 : decode cX12_frights 200 = .ok (.iinc 13 1, 3) := by decide +kernel
theorem dX12_frights_203 : decode cX12_frights 203 = .ok (.goto 25, 3) := by decide +kernel
theorem dX12_frights_206 : decode cX12_frights 206 = .ok (.iload 13, 2) := by decide +kernel
theorem dX12_frights_208 : decode cX12_frights 208 = .ok (.bipush 7, 2) := by decide +kernel
theorem dX12_frights_210 : decode cX12_frights 210 = .ok (.if_icmp .ge 18, 3) := by decide +kernel
theorem dX12_frights_213 : decode cX12_frights 213 = .ok (.iload 14, 2) := by decide +kernel
theorem dX12_frights_215 : decode cX12_frights 215 = .ok (.aload_n 0, 1) := by decide +kernel
theorem dX12_frights_216 : decode cX12_frights 216 = .ok (.iload_n 1, 1) := by decide +kernel
theorem dX12_frights_217 : decode cX12_frights 217 = .ok (.invokevirtual 116, 3) := by decide +kernel
theorem dX12_frights_220 : decode cX12_frights 220 = .ok (.isub, 1) := by decide +kernel
theorem dX12_frights_221 : decode cX12_frights 221 = .ok (.bipush 20, 2) := by decide +kernel
theorem dX12_frights_223 : decode cX12_frights 223 = .ok (.invokestatic 103, 3) := by decide +kernel
theorem dX12_frights_226 : decode cX12_frights 226 = .ok (.istore 14, 2) := by decide +kernel
theorem dX12_frights_228 : decode cX12_frights 228 = .ok (.iinc 15 1, 3) := by decide +kernel
theorem dX12_frights_231 : decode cX12_frights 231 = .ok (.goto (-102), 3) := by decide +kernel
theorem dX12_frights_234 : decode cX12_frights 234 = .ok (.lload 6, 2) := by decide +kernel
theorem dX12_frights_236 : decode cX12_frights 236 = .ok (.iload 13, 2) := by decide +kernel
theorem dX12_frights_238 : decode cX12_frights 238 = .ok (.aload_n 0, 1) := by decide +kernel
theorem dX12_frights_239 : decode cX12_frights 239 = .ok (.getfield 19, 3) := by decide +kernel
theorem dX12_frights_242 : decode cX12_frights 242 = .ok (.iload_n 1, 1) := by decide +kernel
theorem dX12_frights_243 : decode cX12_frights 243 = .ok (.iaload, 1) := by decide +kernel
theorem dX12_frights_244 : decode cX12_frights 244 = .ok (.isub, 1) := by decide +kernel
theorem dX12_frights_245 : decode cX12_frights 245 = .ok (.iload_n 3, 1) := by decide +kernel
theorem dX12_frights_246 : decode cX12_frights 246 = .ok (.if_icmp .lt 8, 3) := by decide +kernel
theorem dX12_frights_249 : decode cX12_frights 249 = .ok (.lload 11, 2) := by decide +kernel
theorem dX12_frights_251 : decode cX12_frights 251 = .ok (.goto 4, 3) := by decide +kernel
theorem dX12_frights_254 : decode cX12_frights 254 = .ok (.lconst 0, 1) := by decide +kernel
theorem dX12_frights_255 : decode cX12_frights 255 = .ok (.ladd, 1) := by decide +kernel
theorem dX12_frights_256 : decode cX12_frights 256 = .ok (.lstore 6, 2) := by decide +kernel
theorem dX12_frights_258 : decode cX12_frights 258 = .ok (.iinc 10 1, 3) := by decide +kernel
theorem dX12_frights_261 : decode cX12_frights 261 = .ok (.goto (-162), 3) := by decide +kernel
theorem dX12_frights_264 : decode cX12_frights 264 = .ok (.lload 6, 2) := by decide +kernel
theorem dX12_frights_266 : decode cX12_frights 266 = .ok (.lload 8, 2) := by decide +kernel
theorem dX12_frights_268 : decode cX12_frights 268 = .ok (.iload 5, 2) := by decide +kernel
theorem dX12_frights_270 : decode cX12_frights 270 = .ok (.invokestatic 306, 3) := by decide +kernel
theorem dX12_frights_273 : decode cX12_frights 273 = .ok (.lreturn, 1) := by decide +kernel
theorem dX12_was_0 : decode cX12_was 0 = .ok (.aload_n 0, 1) := by decide +kernel
theorem dX12_was_1 : decode cX12_was 1 = .ok (.iconst 0, 1) := by decide +kernel
theorem dX12_was_2 : decode cX12_was 2 = .ok (.putfield 77, 3) := by decide +kernel
theorem dX12_was_5 : decode cX12_was 5 = .ok (.iload_n 2, 1) := by decide +kernel
theorem dX12_was_6 : decode cX12_was 6 = .ok (.i2l, 1) := by decide +kernel
theorem dX12_was_7 : decode cX12_was 7 = .ok (.lconst 0, 1) := by decide +kernel
theorem dX12_was_8 : decode cX12_was 8 = .ok (.ldc2_w 225, 3) := by decide +kernel
theorem dX12_was_11 : decode cX12_was 11 = .ok (.invokestatic 84, 3) := by decide +kernel
theorem dX12_was_14 : decode cX12_was 14 = .ok (.ifCond .eq 34, 3) := by decide +kernel
theorem dX12_was_17 : decode cX12_was 17 = .ok (.iload_n 3, 1) := by decide +kernel
theorem dX12_was_18 : decode cX12_was 18 = .ok (.i2l, 1) := by decide +kernel
theorem dX12_was_19 : decode cX12_was 19 = .ok (.lconst 0, 1) := by decide +kernel
theorem dX12_was_20 : decode cX12_was 20 = .ok (.ldc2_w 232, 3) := by decide +kernel
theorem dX12_was_23 : decode cX12_was 23 = .ok (.invokestatic 84, 3) := by decide +kernel
theorem dX12_was_26 : decode cX12_was 26 = .ok (.ifCond .eq 22, 3) := by decide +kernel
theorem dX12_was_29 : decode cX12_was 29 = .ok (.iload 4, 2) := by decide +kernel
theorem dX12_was_31 : decode cX12_was 31 = .ok (.i2l, 1) := by decide +kernel
theorem dX12_was_32 : decode cX12_was 32 = .ok (.lconst 0, 1) := by decide +kernel
theorem dX12_was_33 : decode cX12_was 33 = .ok (.lconst 1, 1) := by decide +kernel
theorem dX12_was_34 : decode cX12_was 34 = .ok (.invokestatic 84, 3) := by decide +kernel
theorem dX12_was_37 : decode cX12_was 37 = .ok (.ifCond .eq 11, 3) := by decide +kernel
theorem dX12_was_40 : decode cX12_was 40 = .ok (.aload_n 0, 1) := by decide +kernel
theorem dX12_was_41 : decode cX12_was 41 = .ok (.iload_n 1, 1) := by decide +kernel
theorem dX12_was_42 : decode cX12_was 42 = .ok (.invokevirtual 189, 3) := by decide +kernel
theorem dX12_was_45 : decode cX12_was 45 = .ok (.goto 4, 3) := by decide +kernel
theorem dX12_was_48 : decode cX12_was 48 = .ok (.iconst (-1), 1) := by decide +kernel
theorem dX12_was_49 : decode cX12_was 49 = .ok (.istore 5, 2) := by decide +kernel
theorem dX12_was_51 : decode cX12_was 51 = .ok (.iload 5, 2) := by decide +kernel
theorem dX12_was_53 : decode cX12_was 53 = .ok (.ifCond .ge 6, 3) := by decide +kernel
theorem dX12_was_56 : decode cX12_was 56 = .ok (.iload 5, 2) := by decide +kernel
theorem dX12_was_58 : decode cX12_was 58 = .ok (.ireturn, 1) := by decide +kernel
theorem dX12_was_59 : decode cX12_was 59 = .ok (.iconst 0, 1) := by decide +kernel
theorem dX12_was_60 : decode cX12_was 60 = .ok (.istore 6, 2) := by decide +kernel
theorem dX12_was_62 : decode cX12_was 62 = .ok (.iconst 0, 1) := by decide +kernel
theorem dX12_was_63 : decode cX12_was 63 = .ok (.istore 7, 2) := by decide +kernel
theorem dX12_was_65 : decode cX12_was 65 = .ok (.iload 7, 2) := by decide +kernel
theorem dX12_was_67 : decode cX12_was 67 = .ok (.bipush 8, 2) := by decide +kernel
theorem dX12_was_69 : decode cX12_was 69 = .ok (.if_icmp .ge 95, 3) := by decide +kernel
theorem dX12_was_72 : decode cX12_was 72 = .ok (.iconst 1, 1) := by decide +kernel
theorem dX12_was_73 : decode cX12_was 73 = .ok (.istore 8, 2) := by decide +kernel
theorem dX12_was_75 : decode cX12_was 75 = .ok (.iconst 0, 1) := by decide +kernel
theorem dX12_was_76 : decode cX12_was 76 = .ok (.istore 9, 2) := by decide +kernel
theorem dX12_was_78 : decode cX12_was 78 = .ok (.iload 9, 2) := by decide +kernel
theorem dX12_was_80 : decode cX12_was 80 = .ok (.aload_n 0, 1) := by decide +kernel
theorem dX12_was_81 : decode cX12_was 81 = .ok (.getfield 37, 3) := by decide +kernel
theorem dX12_was_84 : decode cX12_was 84 = .ok (.iload_n 1, 1) := by decide +kernel
theorem dX12_was_85 : decode cX12_was 85 = .ok (.iaload, 1) := by decide +kernel
theorem dX12_was_86 : decode cX12_was 86 = .ok (.if_icmp .ge 54, 3) := by decide +kernel
theorem dX12_was_89 : decode cX12_was 89 = .ok (.iload 8, 2) := by decide +kernel
theorem dX12_was_91 : decode cX12_was 91 = .ok (.ifCond .eq 40, 3) := by decide +kernel
theorem dX12_was_94 : decode cX12_was 94 = .ok (.aload_n 0, 1) := by decide +kernel
theorem dX12_was_95 : decode cX12_was 95 = .ok (.getfield 40, 3) := by decide +kernel
theorem dX12_was_98 : decode cX12_was 98 = .ok (.bipush 100, 2) := by decide +kernel
theorem dX12_was_100 : decode cX12_was 100 = .ok (.iload_n 1, 1) := by decide +kernel
theorem dX12_was_101 : decode cX12_was 101 = .ok (.imul, 1) := by decide +kernel
theorem dX12_was_102 : decode cX12_was 102 = .ok (.iload 9, 2) := by decide +kernel
theorem dX12_was_104 : decode cX12_was 104 = .ok (.iadd, 1) := by decide +kernel
theorem dX12_was_105 : decode cX12_was 105 = .ok (.laload, 1) := by decide +kernel
theorem dX12_was_106 : decode cX12_was 106 = .ok (.iload_n 2, 1) := by decide +kernel
theorem dX12_was_107 : decode cX12_was 107 = .ok (.iload 9, 2) := by decide +kernel
theorem dX12_was_109 : decode cX12_was 109 = .ok (.iload 7, 2) := by decide +kernel
theorem dX12_was_111 : decode cX12_was 111 = .ok (.iload_n 3, 1) := by decide +kernel
theorem dX12_was_112 : decode cX12_was 112 = .ok (.invokestatic 88, 3) := by decide +kernel
theorem dX12_was_115 : decode cX12_was 115 = .ok (.imul, 1) := by decide +kernel
theorem dX12_was_116 : decode cX12_was 116 = .ok (.iadd, 1) := by decide +kernel
theorem dX12_was_117 : decode cX12_was 117 = .ok (.bipush 20, 2) := by decide +kernel
theorem dX12_was_119 : decode cX12_was 119 = .ok (.invokestatic 103, 3) := by decide +kernel
theorem dX12_was_122 : decode cX12_was 122 = .ok (.i2l, 1) := by decide +kernel
theorem dX12_was_123 : decode cX12_was 123 = .ok (.lcmp, 1) := by decide +kernel
theorem dX12_was_124 : decode cX12_was 124 = .ok (.ifCond .ne 7, 3) := by decide +kernel
theorem dX12_was_127 : decode cX12_was 127 = .ok (.iconst 1, 1) := by decide +kernel
theorem dX12_was_128 : decode cX12_was 128 = .ok (.goto 4, 3) := by decide +kernel
theorem dX12_was_131 : decode cX12_was 131 = .ok (.iconst 0, 1) := by decide +kernel
theorem dX12_was_132 : decode cX12_was 132 = .ok (.istore 8, 2) := by decide +kernel
theorem dX12_was_134 : decode cX12_was 134 = .ok (.iinc 9 1, 3) := by decide +kernel
theorem dX12_was_137 : decode cX12_was 137 = .ok (.goto (-59), 3) := by decide +kernel
theorem dX12_was_140 : decode cX12_was 140 = .ok (.iload 6, 2) := by decide +kernel
theorem dX12_was_142 : decode cX12_was 142 = .ok (.iload 8, 2) := by decide +kernel
theorem dX12_was_144 : decode cX12_was 144 = .ok (.ifCond .eq 10, 3) := by decide +kernel
theorem dX12_was_147 : decode cX12_was 147 = .ok (.iconst 1, 1) := by decide +kernel
theorem dX12_was_148 : decode cX12_was 148 = .ok (.iload 7, 2) := by decide +kernel
theorem dX12_was_150 : decode cX12_was 150 = .ok (.ishl, 1) := by decide +kernel
theorem dX12_was_151 : decode cX12_was 151 = .ok (.goto 4, 3) := by decide +kernel
theorem dX12_was_154 : decode cX12_was 154 = .ok (.iconst 0, 1) := by decide +kernel
theorem dX12_was_155 : decode cX12_was 155 = .ok (.ior, 1) := by decide +kernel
theorem dX12_was_156 : decode cX12_was 156 = .ok (.istore 6, 2) := by decide +kernel
theorem dX12_was_158 : decode cX12_was 158 = .ok (.iinc 7 1, 3) := by decide +kernel
theorem dX12_was_161 : decode cX12_was 161 = .ok (.goto (-96), 3) := by decide +kernel
theorem dX12_was_164 : decode cX12_was 164 = .ok (.iload 4, 2) := by decide +kernel
theorem dX12_was_166 : decode cX12_was 166 = .ok (.ifCond .ne 8, 3) := by decide +kernel
theorem dX12_was_169 : decode cX12_was 169 = .ok (.iload 6, 2) := by decide +kernel
theorem dX12_was_171 : decode cX12_was 171 = .ok (.goto 8, 3) := by decide +kernel
theorem dX12_was_174 : decode cX12_was 174 = .ok (.iload 6, 2) := by decide +kernel
theorem dX12_was_176 : decode cX12_was 176 = .ok (.invokestatic 282, 3) := by decide +kernel
theorem dX12_was_179 : decode cX12_was 179 = .ok (.ireturn, 1) := by decide +kernel
theorem dX12_daresOf_0 : decode cX12_daresOf 0 = .ok (.iload_n 2, 1) := by decide +kernel
theorem dX12_daresOf_1 : decode cX12_daresOf 1 = .ok (.ifCond .ne 14, 3) := by decide +kernel
theorem dX12_daresOf_4 : decode cX12_daresOf 4 = .ok (.iload_n 3, 1) := by decide +kernel
theorem dX12_daresOf_5 : decode cX12_daresOf 5 = .ok (.iconst 1, 1) := by decide +kernel
theorem dX12_daresOf_6 : decode cX12_daresOf 6 = .ok (.if_icmp .ne 7, 3) := by decide +kernel
theorem dX12_daresOf_9 : decode cX12_daresOf 9 = .ok (.iconst (-1), 1) := by decide +kernel
theorem dX12_daresOf_10 : decode cX12_daresOf 10 = .ok (.goto 4, 3) := by decide +kernel
theorem dX12_daresOf_13 : decode cX12_daresOf 13 = .ok (.iconst 0, 1) := by decide +kernel
theorem dX12_daresOf_14 : decode cX12_daresOf 14 = .ok (.ireturn, 1) := by decide +kernel
theorem dX12_daresOf_15 : decode cX12_daresOf 15 = .ok (.aload_n 0, 1) := by decide +kernel
theorem dX12_daresOf_16 : decode cX12_daresOf 16 = .ok (.getfield 19, 3) := by decide +kernel
theorem dX12_daresOf_19 : decode cX12_daresOf 19 = .ok (.iload_n 1, 1) := by decide +kernel
theorem dX12_daresOf_20 : decode cX12_daresOf 20 = .ok (.iaload, 1) := by decide +kernel
theorem dX12_daresOf_21 : decode cX12_daresOf 21 = .ok (.bipush 7, 2) := by decide +kernel
theorem dX12_daresOf_23 : decode cX12_daresOf 23 = .ok (.if_icmp .eq 11, 3) := by decide +kernel
theorem dX12_daresOf_26 : decode cX12_daresOf 26 = .ok (.aload_n 0, 1) := by decide +kernel
theorem dX12_daresOf_27 : decode cX12_daresOf 27 = .ok (.iload_n 1, 1) := by decide +kernel
theorem dX12_daresOf_28 : decode cX12_daresOf 28 = .ok (.invokevirtual 109, 3) := by decide +kernel
theorem dX12_daresOf_31 : decode cX12_daresOf 31 = .ok (.ifCond .eq 7, 3) := by decide +kernel
theorem dX12_daresOf_34 : decode cX12_daresOf 34 = .ok (.iconst 1, 1) := by decide +kernel
theorem dX12_daresOf_35 : decode cX12_daresOf 35 = .ok (.goto 4, 3) := by decide +kernel
theorem dX12_daresOf_38 : decode cX12_daresOf 38 = .ok (.iconst 0, 1) := by decide +kernel
theorem dX12_daresOf_39 : decode cX12_daresOf 39 = .ok (.istore 4, 2) := by decide +kernel
theorem dX12_daresOf_41 : decode cX12_daresOf 41 = .ok (.iload_n 3, 1) := by decide +kernel
theorem dX12_daresOf_42 : decode cX12_daresOf 42 = .ok (.iconst 1, 1) := by decide +kernel
theorem dX12_daresOf_43 : decode cX12_daresOf 43 = .ok (.if_icmp .ne 7, 3) := by decide +kernel
theorem dX12_daresOf_46 : decode cX12_daresOf 46 = .ok (.iconst 2, 1) := by decide +kernel
theorem dX12_daresOf_47 : decode cX12_daresOf 47 = .ok (.goto 4, 3) := by decide +kernel
theorem dX12_daresOf_50 : decode cX12_daresOf 50 = .ok (.iconst 1, 1) := by decide +kernel
theorem dX12_daresOf_51 : decode cX12_daresOf 51 = .ok (.iload 4, 2) := by decide +kernel
theorem dX12_daresOf_53 : decode cX12_daresOf 53 = .ok (.ifCond .eq 7, 3) := by decide +kernel
theorem dX12_daresOf_56 : decode cX12_daresOf 56 = .ok (.iconst 0, 1) := by decide +kernel
theorem dX12_daresOf_57 : decode cX12_daresOf 57 = .ok (.goto 8, 3) := by decide +kernel
theorem dX12_daresOf_60 : decode cX12_daresOf 60 = .ok (.aload_n 0, 1) := by decide +kernel
theorem dX12_daresOf_61 : decode cX12_daresOf 61 = .ok (.iload_n 1, 1) := by decide +kernel
theorem dX12_daresOf_62 : decode cX12_daresOf 62 = .ok (.invokevirtual 116, 3) := by decide +kernel
theorem dX12_daresOf_65 : decode cX12_daresOf 65 = .ok (.isub, 1) := by decide +kernel
theorem dX12_daresOf_66 : decode cX12_daresOf 66 = .ok (.ireturn, 1) := by decide +kernel
theorem dX12_dare_0 : decode cX12_dare 0 = .ok (.aload_n 0, 1) := by decide +kernel
theorem dX12_dare_1 : decode cX12_dare 1 = .ok (.iconst 0, 1) := by decide +kernel
theorem dX12_dare_2 : decode cX12_dare 2 = .ok (.putfield 77, 3) := by decide +kernel
theorem dX12_dare_5 : decode cX12_dare 5 = .ok (.aload_n 0, 1) := by decide +kernel
theorem dX12_dare_6 : decode cX12_dare 6 = .ok (.iload_n 1, 1) := by decide +kernel
theorem dX12_dare_7 : decode cX12_dare 7 = .ok (.invokevirtual 99, 3) := by decide +kernel
theorem dX12_dare_10 : decode cX12_dare 10 = .ok (.ifCond .eq 16, 3) := by decide +kernel
theorem dX12_dare_13 : decode cX12_dare 13 = .ok (.aload_n 0, 1) := by decide +kernel
theorem dX12_dare_14 : decode cX12_dare 14 = .ok (.iload_n 2, 1) := by decide +kernel
theorem dX12_dare_15 : decode cX12_dare 15 = .ok (.invokevirtual 99, 3) := by decide +kernel
theorem dX12_dare_18 : decode cX12_dare 18 = .ok (.ifCond .eq 8, 3) := by decide +kernel
theorem dX12_dare_21 : decode cX12_dare 21 = .ok (.iload_n 1, 1) := by decide +kernel
theorem dX12_dare_22 : decode cX12_dare 22 = .ok (.iload_n 2, 1) := by decide +kernel
theorem dX12_dare_23 : decode cX12_dare 23 = .ok (.if_icmp .ne 5, 3) := by decide +kernel
theorem dX12_dare_26 : decode cX12_dare 26 = .ok (.iconst (-1), 1) := by decide +kernel
theorem dX12_dare_27 : decode cX12_dare 27 = .ok (.ireturn, 1) := by decide +kernel
theorem dX12_dare_28 : decode cX12_dare 28 = .ok (.iconst 0, 1) := by decide +kernel
theorem dX12_dare_29 : decode cX12_dare 29 = .ok (.istore_n 3, 1) := by decide +kernel
theorem dX12_dare_30 : decode cX12_dare 30 = .ok (.iload_n 3, 1) := by decide +kernel
theorem dX12_dare_31 : decode cX12_dare 31 = .ok (.iconst 4, 1) := by decide +kernel
theorem dX12_dare_32 : decode cX12_dare 32 = .ok (.if_icmp .ge 86, 3) := by decide +kernel
theorem dX12_dare_35 : decode cX12_dare 35 = .ok (.iload_n 3, 1) := by decide +kernel
theorem dX12_dare_36 : decode cX12_dare 36 = .ok (.iconst 2, 1) := by decide +kernel
theorem dX12_dare_37 : decode cX12_dare 37 = .ok (.idiv, 1) := by decide +kernel
theorem dX12_dare_38 : decode cX12_dare 38 = .ok (.istore 4, 2) := by decide +kernel
theorem dX12_dare_40 : decode cX12_dare 40 = .ok (.iload_n 3, 1) := by decide +kernel
theorem dX12_dare_41 : decode cX12_dare 41 = .ok (.iconst 2, 1) := by decide +kernel
theorem dX12_dare_42 : decode cX12_dare 42 = .ok (.irem, 1) := by decide +kernel
theorem dX12_dare_43 : decode cX12_dare 43 = .ok (.istore 5, 2) := by decide +kernel
theorem dX12_dare_45 : decode cX12_dare 45 = .ok (.aload_n 0, 1) := by decide +kernel
theorem dX12_dare_46 : decode cX12_dare 46 = .ok (.iload_n 1, 1) := by decide +kernel
theorem dX12_dare_47 : decode cX12_dare 47 = .ok (.iconst 1, 1) := by decide +kernel
theorem dX12_dare_48 : decode cX12_dare 48 = .ok (.iload 4, 2) := by decide +kernel
theorem dX12_dare_50 : decode cX12_dare 50 = .ok (.isub, 1) := by decide +kernel
theorem dX12_dare_51 : decode cX12_dare 51 = .ok (.iload 5, 2) := by decide +kernel
theorem dX12_dare_53 : decode cX12_dare 53 = .ok (.invokevirtual 310, 3) := by decide +kernel
theorem dX12_dare_56 : decode cX12_dare 56 = .ok (.aload_n 0, 1) := by decide +kernel
theorem dX12_dare_57 : decode cX12_dare 57 = .ok (.iload_n 1, 1) := by decide +kernel
theorem dX12_dare_58 : decode cX12_dare 58 = .ok (.iload 4, 2) := by decide +kernel
theorem dX12_dare_60 : decode cX12_dare 60 = .ok (.iload 5, 2) := by decide +kernel
theorem dX12_dare_62 : decode cX12_dare 62 = .ok (.invokevirtual 310, 3) := by decide +kernel
theorem dX12_dare_65 : decode cX12_dare 65 = .ok (.if_icmp .gt 30, 3) := by decide +kernel
theorem dX12_dare_68 : decode cX12_dare 68 = .ok (.aload_n 0, 1) := by decide +kernel
theorem dX12_dare_69 : decode cX12_dare 69 = .ok (.iload_n 2, 1) := by decide +kernel
theorem dX12_dare_70 : decode cX12_dare 70 = .ok (.iconst 1, 1) := by decide +kernel
theorem dX12_dare_71 : decode cX12_dare 71 = .ok (.iload 5, 2) := by decide +kernel
theorem dX12_dare_73 : decode cX12_dare 73 = .ok (.isub, 1) := by decide +kernel
theorem dX12_dare_74 : decode cX12_dare 74 = .ok (.iload 4, 2) := by decide +kernel
theorem dX12_dare_76 : decode cX12_dare 76 = .ok (.invokevirtual 310, 3) := by decide +kernel
theorem dX12_dare_79 : decode cX12_dare 79 = .ok (.aload_n 0, 1) := by decide +kernel
theorem dX12_dare_80 : decode cX12_dare 80 = .ok (.iload_n 2, 1) := by decide +kernel
theorem dX12_dare_81 : decode cX12_dare 81 = .ok (.iload 5, 2) := by decide +kernel
theorem dX12_dare_83 : decode cX12_dare 83 = .ok (.iload 4, 2) := by decide +kernel
theorem dX12_dare_85 : decode cX12_dare 85 = .ok (.invokevirtual 310, 3) := by decide +kernel
theorem dX12_dare_88 : decode cX12_dare 88 = .ok (.if_icmp .gt 7, 3) := by decide +kernel
theorem dX12_dare_91 : decode cX12_dare 91 = .ok (.iconst 1, 1) := by decide +kernel
theorem dX12_dare_92 : decode cX12_dare 92 = .ok (.goto 4, 3) := by decide +kernel
theorem dX12_dare_95 : decode cX12_dare 95 = .ok (.iconst 0, 1) := by decide +kernel
theorem dX12_dare_96 : decode cX12_dare 96 = .ok (.istore 6, 2) := by decide +kernel
theorem dX12_dare_98 : decode cX12_dare 98 = .ok (.iload 6, 2) := by decide +kernel
theorem dX12_dare_100 : decode cX12_dare 100 = .ok (.ifCond .eq 12, 3) := by decide +kernel
theorem dX12_dare_103 : decode cX12_dare 103 = .ok (.bipush 10, 2) := by decide +kernel
theorem dX12_dare_105 : decode cX12_dare 105 = .ok (.iload 4, 2) := by decide +kernel
theorem dX12_dare_107 : decode cX12_dare 107 = .ok (.imul, 1) := by decide +kernel
theorem dX12_dare_108 : decode cX12_dare 108 = .ok (.iload 5, 2) := by decide +kernel
theorem dX12_dare_110 : decode cX12_dare 110 = .ok (.iadd, 1) := by decide +kernel
theorem dX12_dare_111 : decode cX12_dare 111 = .ok (.ireturn, 1) := by decide +kernel
theorem dX12_dare_112 : decode cX12_dare 112 = .ok (.iinc 3 1, 3) := by decide +kernel
theorem dX12_dare_115 : decode cX12_dare 115 = .ok (.goto (-85), 3) := by decide +kernel
theorem dX12_dare_118 : decode cX12_dare 118 = .ok (.bipush (-4), 2) := by decide +kernel
theorem dX12_dare_120 : decode cX12_dare 120 = .ok (.ireturn, 1) := by decide +kernel
theorem dX12_group_0 : decode cX12_group 0 = .ok (.aload_n 0, 1) := by decide +kernel
theorem dX12_group_1 : decode cX12_group 1 = .ok (.iconst 0, 1) := by decide +kernel
theorem dX12_group_2 : decode cX12_group 2 = .ok (.putfield 77, 3) := by decide +kernel
theorem dX12_group_5 : decode cX12_group 5 = .ok (.iload_n 1, 1) := by decide +kernel
theorem dX12_group_6 : decode cX12_group 6 = .ok (.i2l, 1) := by decide +kernel
theorem dX12_group_7 : decode cX12_group 7 = .ok (.lconst 0, 1) := by decide +kernel
theorem dX12_group_8 : decode cX12_group 8 = .ok (.ldc2_w 313, 3) := by decide +kernel
theorem dX12_group_11 : decode cX12_group 11 = .ok (.invokestatic 84, 3) := by decide +kernel
theorem dX12_group_14 : decode cX12_group 14 = .ok (.ifCond .eq 13, 3) := by decide +kernel
theorem dX12_group_17 : decode cX12_group 17 = .ok (.iload_n 2, 1) := by decide +kernel
theorem dX12_group_18 : decode cX12_group 18 = .ok (.i2l, 1) := by decide +kernel
theorem dX12_group_19 : decode cX12_group 19 = .ok (.lconst 0, 1) := by decide +kernel
theorem dX12_group_20 : decode cX12_group 20 = .ok (.lconst 1, 1) := by decide +kernel
theorem dX12_group_21 : decode cX12_group 21 = .ok (.invokestatic 84, 3) := by decide +kernel
theorem dX12_group_24 : decode cX12_group 24 = .ok (.ifCond .ne 5, 3) := by decide +kernel
theorem dX12_group_27 : decode cX12_group 27 = .ok (.iconst (-1), 1) := by decide +kernel
theorem dX12_group_28 : decode cX12_group 28 = .ok (.ireturn, 1) := by decide +kernel
theorem dX12_group_29 : decode cX12_group 29 = .ok (.iconst 0, 1) := by decide +kernel
theorem dX12_group_30 : decode cX12_group 30 = .ok (.istore_n 3, 1) := by decide +kernel
theorem dX12_group_31 : decode cX12_group 31 = .ok (.iconst 1, 1) := by decide +kernel
theorem dX12_group_32 : decode cX12_group 32 = .ok (.istore 4, 2) := by decide +kernel
theorem dX12_group_34 : decode cX12_group 34 = .ok (.iload 4, 2) := by decide +kernel
theorem dX12_group_36 : decode cX12_group 36 = .ok (.iconst 1, 1) := by decide +kernel
theorem dX12_group_37 : decode cX12_group 37 = .ok (.aload_n 0, 1) := by decide +kernel
theorem dX12_group_38 : decode cX12_group 38 = .ok (.getfield 81, 3) := by decide +kernel
theorem dX12_group_41 : decode cX12_group 41 = .ok (.ishl, 1) := by decide +kernel
theorem dX12_group_42 : decode cX12_group 42 = .ok (.if_icmp .ge 80, 3) := by decide +kernel
theorem dX12_group_45 : decode cX12_group 45 = .ok (.iconst 0, 1) := by decide +kernel
theorem dX12_group_46 : decode cX12_group 46 = .ok (.istore 5, 2) := by decide +kernel
theorem dX12_group_48 : decode cX12_group 48 = .ok (.iconst 0, 1) := by decide +kernel
theorem dX12_group_49 : decode cX12_group 49 = .ok (.istore 6, 2) := by decide +kernel
theorem dX12_group_51 : decode cX12_group 51 = .ok (.iload 6, 2) := by decide +kernel
theorem dX12_group_53 : decode cX12_group 53 = .ok (.aload_n 0, 1) := by decide +kernel
theorem dX12_group_54 : decode cX12_group 54 = .ok (.getfield 81, 3) := by decide +kernel
theorem dX12_group_57 : decode cX12_group 57 = .ok (.if_icmp .ge 34, 3) := by decide +kernel
theorem dX12_group_60 : decode cX12_group 60 = .ok (.iload 5, 2) := by decide +kernel
theorem dX12_group_62 : decode cX12_group 62 = .ok (.iload 4, 2) := by decide +kernel
theorem dX12_group_64 : decode cX12_group 64 = .ok (.iload 6, 2) := by decide +kernel
theorem dX12_group_66 : decode cX12_group 66 = .ok (.invokestatic 288, 3) := by decide +kernel
theorem dX12_group_69 : decode cX12_group 69 = .ok (.ifCond .eq 12, 3) := by decide +kernel
theorem dX12_group_72 : decode cX12_group 72 = .ok (.aload_n 0, 1) := by decide +kernel
theorem dX12_group_73 : decode cX12_group 73 = .ok (.iload 6, 2) := by decide +kernel
theorem dX12_group_75 : decode cX12_group 75 = .ok (.invokevirtual 122, 3) := by decide +kernel
theorem dX12_group_78 : decode cX12_group 78 = .ok (.goto 4, 3) := by decide +kernel
theorem dX12_group_81 : decode cX12_group 81 = .ok (.iconst 0, 1) := by decide +kernel
theorem dX12_group_82 : decode cX12_group 82 = .ok (.iadd, 1) := by decide +kernel
theorem dX12_group_83 : decode cX12_group 83 = .ok (.istore 5, 2) := by decide +kernel
theorem dX12_group_85 : decode cX12_group 85 = .ok (.iinc 6 1, 3) := by decide +kernel
theorem dX12_group_88 : decode cX12_group 88 = .ok (.goto (-37), 3) := by decide +kernel
theorem dX12_group_91 : decode cX12_group 91 = .ok (.iload 5, 2) := by decide +kernel
theorem dX12_group_93 : decode cX12_group 93 = .ok (.iload_n 1, 1) := by decide +kernel
theorem dX12_group_94 : decode cX12_group 94 = .ok (.if_icmp .gt 20, 3) := by decide +kernel
theorem dX12_group_97 : decode cX12_group 97 = .ok (.iload 4, 2) := by decide +kernel
theorem dX12_group_99 : decode cX12_group 99 = .ok (.invokestatic 282, 3) := by decide +kernel
theorem dX12_group_102 : decode cX12_group 102 = .ok (.iload_n 3, 1) := by decide +kernel
theorem dX12_group_103 : decode cX12_group 103 = .ok (.invokestatic 282, 3) := by decide +kernel
theorem dX12_group_106 : decode cX12_group 106 = .ok (.if_icmp .le 8, 3) := by decide +kernel
theorem dX12_group_109 : decode cX12_group 109 = .ok (.iload 4, 2) := by decide +kernel
theorem dX12_group_111 : decode cX12_group 111 = .ok (.goto 4, 3) := by decide +kernel
theorem dX12_group_114 : decode cX12_group 114 = .ok (.iload_n 3, 1) := by decide +kernel
theorem dX12_group_115 : decode cX12_group 115 = .ok (.istore_n 3, 1) := by decide +kernel
theorem dX12_group_116 : decode cX12_group 116 = .ok (.iinc 4 1, 3) := by decide +kernel
theorem dX12_group_119 : decode cX12_group 119 = .ok (.goto (-85), 3) := by decide +kernel
theorem dX12_group_122 : decode cX12_group 122 = .ok (.iload_n 2, 1) := by decide +kernel
theorem dX12_group_123 : decode cX12_group 123 = .ok (.ifCond .ne 7, 3) := by decide +kernel
theorem dX12_group_126 : decode cX12_group 126 = .ok (.iload_n 3, 1) := by decide +kernel
theorem dX12_group_127 : decode cX12_group 127 = .ok (.goto 7, 3) := by decide +kernel
theorem dX12_group_130 : decode cX12_group 130 = .ok (.iload_n 3, 1) := by decide +kernel
theorem dX12_group_131 : decode cX12_group 131 = .ok (.invokestatic 282, 3) := by decide +kernel
theorem dX12_group_134 : decode cX12_group 134 = .ok (.ireturn, 1) := by decide +kernel
theorem dX12_forget_0 : decode cX12_forget 0 = .ok (.aload_n 0, 1) := by decide +kernel
theorem dX12_forget_1 : decode cX12_forget 1 = .ok (.iconst 0, 1) := by decide +kernel
theorem dX12_forget_2 : decode cX12_forget 2 = .ok (.putfield 77, 3) := by decide +kernel
theorem dX12_forget_5 : decode cX12_forget 5 = .ok (.bipush (-4), 2) := by decide +kernel
theorem dX12_forget_7 : decode cX12_forget 7 = .ok (.istore_n 1, 1) := by decide +kernel
theorem dX12_forget_8 : decode cX12_forget 8 = .ok (.bipush 9, 2) := by decide +kernel
theorem dX12_forget_10 : decode cX12_forget 10 = .ok (.istore_n 2, 1) := by decide +kernel
theorem dX12_forget_11 : decode cX12_forget 11 = .ok (.iload_n 2, 1) := by decide +kernel
theorem dX12_forget_12 : decode cX12_forget 12 = .ok (.ifCond .lt 35, 3) := by decide +kernel
theorem dX12_forget_15 : decode cX12_forget 15 = .ok (.aload_n 0, 1) := by decide +kernel
theorem dX12_forget_16 : decode cX12_forget 16 = .ok (.invokevirtual 195, 3) := by decide +kernel
theorem dX12_forget_19 : decode cX12_forget 19 = .ok (.aload_n 0, 1) := by decide +kernel
theorem dX12_forget_20 : decode cX12_forget 20 = .ok (.iload_n 2, 1) := by decide +kernel
theorem dX12_forget_21 : decode cX12_forget 21 = .ok (.invokevirtual 183, 3) := by decide +kernel
theorem dX12_forget_24 : decode cX12_forget 24 = .ok (.aload_n 0, 1) := by decide +kernel
theorem dX12_forget_25 : decode cX12_forget 25 = .ok (.invokevirtual 237, 3) := by decide +kernel
theorem dX12_forget_28 : decode cX12_forget 28 = .ok (.ifCond .ne 7, 3) := by decide +kernel
theorem dX12_forget_31 : decode cX12_forget 31 = .ok (.iload_n 2, 1) := by decide +kernel
theorem dX12_forget_32 : decode cX12_forget 32 = .ok (.goto 4, 3) := by decide +kernel
theorem dX12_forget_35 : decode cX12_forget 35 = .ok (.iload_n 1, 1) := by decide +kernel
theorem dX12_forget_36 : decode cX12_forget 36 = .ok (.istore_n 1, 1) := by decide +kernel
theorem dX12_forget_37 : decode cX12_forget 37 = .ok (.aload_n 0, 1) := by decide +kernel
theorem dX12_forget_38 : decode cX12_forget 38 = .ok (.invokevirtual 201, 3) := by decide +kernel
theorem dX12_forget_41 : decode cX12_forget 41 = .ok (.iinc 2 (-1), 3) := by decide +kernel
theorem dX12_forget_44 : decode cX12_forget 44 = .ok (.goto (-33), 3) := by decide +kernel
theorem dX12_forget_47 : decode cX12_forget 47 = .ok (.iload_n 1, 1) := by decide +kernel
theorem dX12_forget_48 : decode cX12_forget 48 = .ok (.ireturn, 1) := by decide +kernel
theorem dX12_coldest_0 : decode cX12_coldest 0 = .ok (.aload_n 0, 1) := by decide +kernel
theorem dX12_coldest_1 : decode cX12_coldest 1 = .ok (.iconst 0, 1) := by decide +kernel
theorem dX12_coldest_2 : decode cX12_coldest 2 = .ok (.putfield 77, 3) := by decide +kernel
theorem dX12_coldest_5 : decode cX12_coldest 5 = .ok (.aload_n 0, 1) := by decide +kernel
theorem dX12_coldest_6 : decode cX12_coldest 6 = .ok (.iload_n 1, 1) := by decide +kernel
theorem dX12_coldest_7 : decode cX12_coldest 7 = .ok (.invokevirtual 99, 3) := by decide +kernel
theorem dX12_coldest_10 : decode cX12_coldest 10 = .ok (.ifCond .eq 15, 3) := by decide +kernel
theorem dX12_coldest_13 : decode cX12_coldest 13 = .ok (.iload_n 2, 1) := by decide +kernel
theorem dX12_coldest_14 : decode cX12_coldest 14 = .ok (.i2l, 1) := by decide +kernel
theorem dX12_coldest_15 : decode cX12_coldest 15 = .ok (.lconst 0, 1) := by decide +kernel
theorem dX12_coldest_16 : decode cX12_coldest 16 = .ok (.ldc2_w 315, 3) := by decide +kernel
theorem dX12_coldest_19 : decode cX12_coldest 19 = .ok (.invokestatic 84, 3) := by decide +kernel
theorem dX12_coldest_22 : decode cX12_coldest 22 = .ok (.ifCond .ne 5, 3) := by decide +kernel
theorem dX12_coldest_25 : decode cX12_coldest 25 = .ok (.iconst (-1), 1) := by decide +kernel
theorem dX12_coldest_26 : decode cX12_coldest 26 = .ok (.ireturn, 1) := by decide +kernel
theorem dX12_coldest_27 : decode cX12_coldest 27 = .ok (.iconst 0, 1) := by decide +kernel
theorem dX12_coldest_28 : decode cX12_coldest 28 = .ok (.istore_n 3, 1) := by decide +kernel
theorem dX12_coldest_29 : decode cX12_coldest 29 = .ok (.iconst 0, 1) := by decide +kernel
theorem dX12_coldest_30 : decode cX12_coldest 30 = .ok (.istore 4, 2) := by decide +kernel
theorem dX12_coldest_32 : decode cX12_coldest 32 = .ok (.iload 4, 2) := by decide +kernel
theorem dX12_coldest_34 : decode cX12_coldest 34 = .ok (.aload_n 0, 1) := by decide +kernel
theorem dX12_coldest_35 : decode cX12_coldest 35 = .ok (.getfield 81, 3) := by decide +kernel
theorem dX12_coldest_38 : decode cX12_coldest 38 = .ok (.if_icmp .ge 58, 3) := by decide +kernel
theorem dX12_coldest_41 : decode cX12_coldest 41 = .ok (.iload_n 3, 1) := by decide +kernel
theorem dX12_coldest_42 : decode cX12_coldest 42 = .ok (.iload 4, 2) := by decide +kernel
theorem dX12_coldest_44 : decode cX12_coldest 44 = .ok (.iload_n 1, 1) := by decide +kernel
theorem dX12_coldest_45 : decode cX12_coldest 45 = .ok (.if_icmp .eq 42, 3) := by decide +kernel
theorem dX12_coldest_48 : decode cX12_coldest 48 = .ok (.aload_n 0, 1) := by decide +kernel
theorem dX12_coldest_49 : decode cX12_coldest 49 = .ok (.getfield 19, 3) := by decide +kernel
theorem dX12_coldest_52 : decode cX12_coldest 52 = .ok (.iload 4, 2) := by decide +kernel
theorem dX12_coldest_54 : decode cX12_coldest 54 = .ok (.iaload, 1) := by decide +kernel
theorem dX12_coldest_55 : decode cX12_coldest 55 = .ok (.bipush 7, 2) := by decide +kernel
theorem dX12_coldest_57 : decode cX12_coldest 57 = .ok (.if_icmp .ge 30, 3) := by decide +kernel
theorem dX12_coldest_60 : decode cX12_coldest 60 = .ok (.aload_n 0, 1) := by decide +kernel
theorem dX12_coldest_61 : decode cX12_coldest 61 = .ok (.getfield 22, 3) := by decide +kernel
theorem dX12_coldest_64 : decode cX12_coldest 64 = .ok (.iload 4, 2) := by decide +kernel
theorem dX12_coldest_66 : decode cX12_coldest 66 = .ok (.iaload, 1) := by decide +kernel
theorem dX12_coldest_67 : decode cX12_coldest 67 = .ok (.iload_n 2, 1) := by decide +kernel
theorem dX12_coldest_68 : decode cX12_coldest 68 = .ok (.iadd, 1) := by decide +kernel
theorem dX12_coldest_69 : decode cX12_coldest 69 = .ok (.bipush 20, 2) := by decide +kernel
theorem dX12_coldest_71 : decode cX12_coldest 71 = .ok (.invokestatic 103, 3) := by decide +kernel
theorem dX12_coldest_74 : decode cX12_coldest 74 = .ok (.aload_n 0, 1) := by decide +kernel
theorem dX12_coldest_75 : decode cX12_coldest 75 = .ok (.iload 4, 2) := by decide +kernel
theorem dX12_coldest_77 : decode cX12_coldest 77 = .ok (.invokevirtual 119, 3) := by decide +kernel
theorem dX12_coldest_80 : decode cX12_coldest 80 = .ok (.if_icmp .le 7, 3) := by decide +kernel
theorem dX12_coldest_83 : decode cX12_coldest 83 = .ok (.iconst 1, 1) := by decide +kernel
theorem dX12_coldest_84 : decode cX12_coldest 84 = .ok (.goto 4, 3) := by decide +kernel
theorem dX12_coldest_87 : decode cX12_coldest 87 = .ok (.iconst 0, 1) := by decide +kernel
theorem dX12_coldest_88 : decode cX12_coldest 88 = .ok (.iadd, 1) := by decide +kernel
theorem dX12_coldest_89 : decode cX12_coldest 89 = .ok (.istore_n 3, 1) := by decide +kernel
theorem dX12_coldest_90 : decode cX12_coldest 90 = .ok (.iinc 4 1, 3) := by decide +kernel
theorem dX12_coldest_93 : decode cX12_coldest 93 = .ok (.goto (-61), 3) := by decide +kernel
theorem dX12_coldest_96 : decode cX12_coldest 96 = .ok (.iload_n 3, 1) := by decide +kernel
theorem dX12_coldest_97 : decode cX12_coldest 97 = .ok (.ireturn, 1) := by decide +kernel
theorem dX12_last_0 : decode cX12_last 0 = .ok (.aload_n 0, 1) := by decide +kernel
theorem dX12_last_1 : decode cX12_last 1 = .ok (.iconst 0, 1) := by decide +kernel
theorem dX12_last_2 : decode cX12_last 2 = .ok (.putfield 77, 3) := by decide +kernel
theorem dX12_last_5 : decode cX12_last 5 = .ok (.bipush (-4), 2) := by decide +kernel
theorem dX12_last_7 : decode cX12_last 7 = .ok (.istore_n 1, 1) := by decide +kernel
theorem dX12_last_8 : decode cX12_last 8 = .ok (.iconst 0, 1) := by decide +kernel
theorem dX12_last_9 : decode cX12_last 9 = .ok (.istore_n 2, 1) := by decide +kernel
theorem dX12_last_10 : decode cX12_last 10 = .ok (.iload_n 2, 1) := by decide +kernel
theorem dX12_last_11 : decode cX12_last 11 = .ok (.aload_n 0, 1) := by decide +kernel
theorem dX12_last_12 : decode cX12_last 12 = .ok (.getfield 81, 3) := by decide +kernel
theorem dX12_last_15 : decode cX12_last 15 = .ok (.if_icmp .ge 74, 3) := by decide +kernel
theorem dX12_last_18 : decode cX12_last 18 = .ok (.iload_n 1, 1) := by decide +kernel
theorem dX12_last_19 : decode cX12_last 19 = .ok (.ifCond .lt 18, 3) := by decide +kernel
theorem dX12_last_22 : decode cX12_last 22 = .ok (.aload_n 0, 1) := by decide +kernel
theorem dX12_last_23 : decode cX12_last 23 = .ok (.getfield 19, 3) := by decide +kernel
theorem dX12_last_26 : decode cX12_last 26 = .ok (.iload_n 2, 1) := by decide +kernel
theorem dX12_last_27 : decode cX12_last 27 = .ok (.iaload, 1) := by decide +kernel
theorem dX12_last_28 : decode cX12_last 28 = .ok (.aload_n 0, 1) := by decide +kernel
theorem dX12_last_29 : decode cX12_last 29 = .ok (.getfield 19, 3) := by decide +kernel
theorem dX12_last_32 : decode cX12_last 32 = .ok (.iload_n 1, 1) := by decide +kernel
theorem dX12_last_33 : decode cX12_last 33 = .ok (.iaload, 1) := by decide +kernel
theorem dX12_last_34 : decode cX12_last 34 = .ok (.if_icmp .ge 7, 3) := by decide +kernel
theorem dX12_last_37 : decode cX12_last 37 = .ok (.iconst 1, 1) := by decide +kernel
theorem dX12_last_38 : decode cX12_last 38 = .ok (.goto 4, 3) := by decide +kernel
theorem dX12_last_41 : decode cX12_last 41 = .ok (.iconst 0, 1) := by decide +kernel
theorem dX12_last_42 : decode cX12_last 42 = .ok (.istore_n 3, 1) := by decide +kernel
theorem dX12_last_43 : decode cX12_last 43 = .ok (.iload_n 3, 1) := by decide +kernel
theorem dX12_last_44 : decode cX12_last 44 = .ok (.ifCond .ne 33, 3) := by decide +kernel
theorem dX12_last_47 : decode cX12_last 47 = .ok (.aload_n 0, 1) := by decide +kernel
theorem dX12_last_48 : decode cX12_last 48 = .ok (.getfield 19, 3) := by decide +kernel
theorem dX12_last_51 : decode cX12_last 51 = .ok (.iload_n 2, 1) := by decide +kernel
theorem dX12_last_52 : decode cX12_last 52 = .ok (.iaload, 1) := by decide +kernel
theorem dX12_last_53 : decode cX12_last 53 = .ok (.aload_n 0, 1) := by decide +kernel
theorem dX12_last_54 : decode cX12_last 54 = .ok (.getfield 19, 3) := by decide +kernel
theorem dX12_last_57 : decode cX12_last 57 = .ok (.iload_n 1, 1) := by decide +kernel
theorem dX12_last_58 : decode cX12_last 58 = .ok (.iaload, 1) := by decide +kernel
theorem dX12_last_59 : decode cX12_last 59 = .ok (.if_icmp .ne 22, 3) := by decide +kernel
theorem dX12_last_62 : decode cX12_last 62 = .ok (.aload_n 0, 1) := by decide +kernel
theorem dX12_last_63 : decode cX12_last 63 = .ok (.getfield 16, 3) := by decide +kernel
theorem dX12_last_66 : decode cX12_last 66 = .ok (.iload_n 2, 1) := by decide +kernel
theorem dX12_last_67 : decode cX12_last 67 = .ok (.iaload, 1) := by decide +kernel
theorem dX12_last_68 : decode cX12_last 68 = .ok (.aload_n 0, 1) := by decide +kernel
theorem dX12_last_69 : decode cX12_last 69 = .ok (.getfield 16, 3) := by decide +kernel
theorem dX12_last_72 : decode cX12_last 72 = .ok (.iload_n 1, 1) := by decide +kernel
theorem dX12_last_73 : decode cX12_last 73 = .ok (.iaload, 1) := by decide +kernel
theorem dX12_last_74 : decode cX12_last 74 = .ok (.if_icmp .ge 7, 3) := by decide +kernel
theorem dX12_last_77 : decode cX12_last 77 = .ok (.iload_n 2, 1) := by decide +kernel
theorem dX12_last_78 : decode cX12_last 78 = .ok (.goto 4, 3) := by decide +kernel
theorem dX12_last_81 : decode cX12_last 81 = .ok (.iload_n 1, 1) := by decide +kernel
theorem dX12_last_82 : decode cX12_last 82 = .ok (.istore_n 1, 1) := by decide +kernel
theorem dX12_last_83 : decode cX12_last 83 = .ok (.iinc 2 1, 3) := by decide +kernel
theorem dX12_last_86 : decode cX12_last 86 = .ok (.goto (-76), 3) := by decide +kernel
theorem dX12_last_89 : decode cX12_last 89 = .ok (.iload_n 1, 1) := by decide +kernel
theorem dX12_last_90 : decode cX12_last 90 = .ok (.ireturn, 1) := by decide +kernel
theorem dX12_mean_0 : decode cX12_mean 0 = .ok (.aload_n 0, 1) := by decide +kernel
theorem dX12_mean_1 : decode cX12_mean 1 = .ok (.iconst 0, 1) := by decide +kernel
theorem dX12_mean_2 : decode cX12_mean 2 = .ok (.putfield 77, 3) := by decide +kernel
theorem dX12_mean_5 : decode cX12_mean 5 = .ok (.iload_n 1, 1) := by decide +kernel
theorem dX12_mean_6 : decode cX12_mean 6 = .ok (.i2l, 1) := by decide +kernel
theorem dX12_mean_7 : decode cX12_mean 7 = .ok (.lconst 0, 1) := by decide +kernel
theorem dX12_mean_8 : decode cX12_mean 8 = .ok (.lconst 1, 1) := by decide +kernel
theorem dX12_mean_9 : decode cX12_mean 9 = .ok (.invokestatic 84, 3) := by decide +kernel
theorem dX12_mean_12 : decode cX12_mean 12 = .ok (.ifCond .eq 20, 3) := by decide +kernel
theorem dX12_mean_15 : decode cX12_mean 15 = .ok (.aload_n 0, 1) := by decide +kernel
theorem dX12_mean_16 : decode cX12_mean 16 = .ok (.invokevirtual 234, 3) := by decide +kernel
theorem dX12_mean_19 : decode cX12_mean 19 = .ok (.i2l, 1) := by decide +kernel
theorem dX12_mean_20 : decode cX12_mean 20 = .ok (.aload_n 0, 1) := by decide +kernel
theorem dX12_mean_21 : decode cX12_mean 21 = .ok (.getfield 81, 3) := by decide +kernel
theorem dX12_mean_24 : decode cX12_mean 24 = .ok (.i2l, 1) := by decide +kernel
theorem dX12_mean_25 : decode cX12_mean 25 = .ok (.iload_n 1, 1) := by decide +kernel
theorem dX12_mean_26 : decode cX12_mean 26 = .ok (.invokestatic 306, 3) := by decide +kernel
theorem dX12_mean_29 : decode cX12_mean 29 = .ok (.goto 6, 3) := by decide +kernel
theorem dX12_mean_32 : decode cX12_mean 32 = .ok (.ldc2_w 304, 3) := by decide +kernel
theorem dX12_mean_35 : decode cX12_mean 35 = .ok (.lreturn, 1) := by decide +kernel
theorem dX12_forged_0 : decode cX12_forged 0 = .ok (.aload_n 0, 1) := by decide +kernel
theorem dX12_forged_1 : decode cX12_forged 1 = .ok (.iconst 0, 1) := by decide +kernel
theorem dX12_forged_2 : decode cX12_forged 2 = .ok (.putfield 77, 3) := by decide +kernel
theorem dX12_forged_5 : decode cX12_forged 5 = .ok (.aload_n 0, 1) := by decide +kernel
theorem dX12_forged_6 : decode cX12_forged 6 = .ok (.iload_n 1, 1) := by decide +kernel
theorem dX12_forged_7 : decode cX12_forged 7 = .ok (.invokevirtual 189, 3) := by decide +kernel
theorem dX12_forged_10 : decode cX12_forged 10 = .ok (.istore_n 2, 1) := by decide +kernel
theorem dX12_forged_11 : decode cX12_forged 11 = .ok (.iload_n 2, 1) := by decide +kernel
theorem dX12_forged_12 : decode cX12_forged 12 = .ok (.ifCond .ne 20, 3) := by decide +kernel
theorem dX12_forged_15 : decode cX12_forged 15 = .ok (.aload_n 0, 1) := by decide +kernel
theorem dX12_forged_16 : decode cX12_forged 16 = .ok (.getfield 37, 3) := by decide +kernel
theorem dX12_forged_19 : decode cX12_forged 19 = .ok (.iload_n 1, 1) := by decide +kernel
theorem dX12_forged_20 : decode cX12_forged 20 = .ok (.iaload, 1) := by decide +kernel
theorem dX12_forged_21 : decode cX12_forged 21 = .ok (.iconst 2, 1) := by decide +kernel
theorem dX12_forged_22 : decode cX12_forged 22 = .ok (.irem, 1) := by decide +kernel
theorem dX12_forged_23 : decode cX12_forged 23 = .ok (.iconst 1, 1) := by decide +kernel
theorem dX12_forged_24 : decode cX12_forged 24 = .ok (.if_icmp .ne 8, 3) := by decide +kernel
theorem dX12_forged_27 : decode cX12_forged 27 = .ok (.bipush (-13), 2) := by decide +kernel
theorem dX12_forged_29 : decode cX12_forged 29 = .ok (.goto 4, 3) := by decide +kernel
theorem dX12_forged_32 : decode cX12_forged 32 = .ok (.iload_n 2, 1) := by decide +kernel
theorem dX12_forged_33 : decode cX12_forged 33 = .ok (.istore_n 2, 1) := by decide +kernel
theorem dX12_forged_34 : decode cX12_forged 34 = .ok (.iload_n 2, 1) := by decide +kernel
theorem dX12_forged_35 : decode cX12_forged 35 = .ok (.ifCond .ge 5, 3) := by decide +kernel
theorem dX12_forged_38 : decode cX12_forged 38 = .ok (.iload_n 2, 1) := by decide +kernel
theorem dX12_forged_39 : decode cX12_forged 39 = .ok (.ireturn, 1) := by decide +kernel
theorem dX12_forged_40 : decode cX12_forged 40 = .ok (.bipush (-4), 2) := by decide +kernel
theorem dX12_forged_42 : decode cX12_forged 42 = .ok (.istore_n 3, 1) := by decide +kernel
theorem dX12_forged_43 : decode cX12_forged 43 = .ok (.aload_n 0, 1) := by decide +kernel
theorem dX12_forged_44 : decode cX12_forged 44 = .ok (.invokevirtual 195, 3) := by decide +kernel
theorem dX12_forged_47 : decode cX12_forged 47 = .ok (.iconst 0, 1) := by decide +kernel
theorem dX12_forged_48 : decode cX12_forged 48 = .ok (.istore 4, 2) := by decide +kernel
theorem dX12_forged_50 : decode cX12_forged 50 = .ok (.iload 4, 2) := by decide +kernel
theorem dX12_forged_52 : decode cX12_forged 52 = .ok (.aload_n 0, 1) := by decide +kernel
theorem dX12_forged_53 : decode cX12_forged 53 = .ok (.getfield 37, 3) := by decide +kernel
theorem dX12_forged_56 : decode cX12_forged 56 = .ok (.iload_n 1, 1) := by decide +kernel
theorem dX12_forged_57 : decode cX12_forged 57 = .ok (.iaload, 1) := by decide +kernel
theorem dX12_forged_58 : decode cX12_forged 58 = .ok (.iconst 2, 1) := by decide +kernel
theorem dX12_forged_59 : decode cX12_forged 59 = .ok (.idiv, 1) := by decide +kernel
theorem dX12_forged_60 : decode cX12_forged 60 = .ok (.if_icmp .ge 123, 3) := by decide +kernel
theorem dX12_forged_63 : decode cX12_forged 63 = .ok (.iload_n 3, 1) := by decide +kernel
theorem dX12_forged_64 : decode cX12_forged 64 = .ok (.ifCond .ge 119, 3) := by decide +kernel
theorem dX12_forged_67 : decode cX12_forged 67 = .ok (.aload_n 0, 1) := by decide +kernel
theorem dX12_forged_68 : decode cX12_forged 68 = .ok (.getfield 40, 3) := by decide +kernel
theorem dX12_forged_71 : decode cX12_forged 71 = .ok (.bipush 100, 2) := by decide +kernel
theorem dX12_forged_73 : decode cX12_forged 73 = .ok (.iload_n 1, 1) := by decide +kernel
theorem dX12_forged_74 : decode cX12_forged 74 = .ok (.imul, 1) := by decide +kernel
theorem dX12_forged_75 : decode cX12_forged 75 = .ok (.iconst 2, 1) := by decide +kernel
theorem dX12_forged_76 : decode cX12_forged 76 = .ok (.iload 4, 2) := by decide +kernel
theorem dX12_forged_78 : decode cX12_forged 78 = .ok (.imul, 1) := by decide +kernel
theorem dX12_forged_79 : decode cX12_forged 79 = .ok (.iadd, 1) := by decide +kernel
theorem dX12_forged_80 : decode cX12_forged 80 = .ok (.laload, 1) := by decide +kernel
theorem dX12_forged_81 : decode cX12_forged 81 = .ok (.lstore 5, 2) := by decide +kernel
theorem dX12_forged_83 : decode cX12_forged 83 = .ok (.aload_n 0, 1) := by decide +kernel
theorem dX12_forged_84 : decode cX12_forged 84 = .ok (.getfield 40, 3) := by decide +kernel
theorem dX12_forged_87 : decode cX12_forged 87 = .ok (.bipush 100, 2) := by decide +kernel
theorem dX12_forged_89 : decode cX12_forged 89 = .ok (.iload_n 1, 1) := by decide +kernel
theorem dX12_forged_90 : decode cX12_forged 90 = .ok (.imul, 1) := by decide +kernel
theorem dX12_forged_91 : decode cX12_forged 91 = .ok (.iconst 2, 1) := by decide +kernel
theorem dX12_forged_92 : decode cX12_forged 92 = .ok (.iload 4, 2) := by decide +kernel
theorem dX12_forged_94 : decode cX12_forged 94 = .ok (.imul, 1) := by decide +kernel
theorem dX12_forged_95 : decode cX12_forged 95 = .ok (.iadd, 1) := by decide +kernel
theorem dX12_forged_96 : decode cX12_forged 96 = .ok (.iconst 1, 1) := by decide +kernel
theorem dX12_forged_97 : decode cX12_forged 97 = .ok (.iadd, 1) := by decide +kernel
theorem dX12_forged_98 : decode cX12_forged 98 = .ok (.laload, 1) := by decide +kernel
theorem dX12_forged_99 : decode cX12_forged 99 = .ok (.lstore 7, 2) := by decide +kernel
theorem dX12_forged_101 : decode cX12_forged 101 = .ok (.lload 5, 2) := by decide +kernel
theorem dX12_forged_103 : decode cX12_forged 103 = .ok (.lconst 0, 1) := by decide +kernel
theorem dX12_forged_104 : decode cX12_forged 104 = .ok (.aload_n 0, 1) := by decide +kernel
theorem dX12_forged_105 : decode cX12_forged 105 = .ok (.getfield 81, 3) := by decide +kernel
theorem dX12_forged_108 : decode cX12_forged 108 = .ok (.iconst 1, 1) := by decide +kernel
theorem dX12_forged_109 : decode cX12_forged 109 = .ok (.isub, 1) := by decide +kernel
theorem dX12_forged_110 : decode cX12_forged 110 = .ok (.i2l, 1) := by decide +kernel
theorem dX12_forged_111 : decode cX12_forged 111 = .ok (.invokestatic 84, 3) := by decide +kernel
theorem dX12_forged_114 : decode cX12_forged 114 = .ok (.ifCond .eq 32, 3) := by decide +kernel
theorem dX12_forged_117 : decode cX12_forged 117 = .ok (.lload 7, 2) := by decide +kernel
theorem dX12_forged_119 : decode cX12_forged 119 = .ok (.lconst 0, 1) := by decide +kernel
theorem dX12_forged_120 : decode cX12_forged 120 = .ok (.ldc2_w 230, 3) := by decide +kernel
theorem dX12_forged_123 : decode cX12_forged 123 = .ok (.invokestatic 84, 3) := by decide +kernel
theorem dX12_forged_126 : decode cX12_forged 126 = .ok (.ifCond .eq 20, 3) := by decide +kernel
theorem dX12_forged_129 : decode cX12_forged 129 = .ok (.aload_n 0, 1) := by decide +kernel
theorem dX12_forged_130 : decode cX12_forged 130 = .ok (.getfield 19, 3) := by decide +kernel
theorem dX12_forged_133 : decode cX12_forged 133 = .ok (.lload 5, 2) := by decide +kernel
theorem dX12_forged_135 : decode cX12_forged 135 = .ok (.l2i, 1) := by decide +kernel
theorem dX12_forged_136 : decode cX12_forged 136 = .ok (.iaload, 1) := by decide +kernel
theorem dX12_forged_137 : decode cX12_forged 137 = .ok (.bipush 7, 2) := by decide +kernel
theorem dX12_forged_139 : decode cX12_forged 139 = .ok (.if_icmp .ge 7, 3) := by decide +kernel
theorem dX12_forged_142 : decode cX12_forged 142 = .ok (.iconst 1, 1) := by decide +kernel
theorem dX12_forged_143 : decode cX12_forged 143 = .ok (.goto 4, 3) := by decide +kernel
theorem dX12_forged_146 : decode cX12_forged 146 = .ok (.iconst 0, 1) := by decide +kernel
theorem dX12_forged_147 : decode cX12_forged 147 = .ok (.istore 9, 2) := by decide +kernel
theorem dX12_forged_149 : decode cX12_forged 149 = .ok (.iload 9, 2) := by decide +kernel
theorem dX12_forged_151 : decode cX12_forged 151 = .ok (.ifCond .eq 13, 3) := by decide +kernel
theorem dX12_forged_154 : decode cX12_forged 154 = .ok (.aload_n 0, 1) := by decide +kernel
theorem dX12_forged_155 : decode cX12_forged 155 = .ok (.lload 5, 2) := by decide +kernel
theorem dX12_forged_157 : decode cX12_forged 157 = .ok (.l2i, 1) := by decide +kernel
theorem dX12_forged_158 : decode cX12_forged 158 = .ok (.lload 7, 2) := by decide +kernel
theorem dX12_forged_160 : decode cX12_forged 160 = .ok (.l2i, 1) := by decide +kernel
theorem dX12_forged_161 : decode cX12_forged 161 = .ok (.invokevirtual 168, 3) := by decide +kernel
theorem dX12_forged_164 : decode cX12_forged 164 = .ok (.iload 9, 2) := by decide +kernel
theorem dX12_forged_166 : decode cX12_forged 166 = .ok (.ifCond .eq 8, 3) := by decide +kernel
theorem dX12_forged_169 : decode cX12_forged 169 = .ok (.bipush (-4), 2) := by decide +kernel
theorem dX12_forged_171 : decode cX12_forged 171 = .ok (.goto 5, 3) := by decide +kernel
theorem dX12_forged_174 : decode cX12_forged 174 = .ok (.iload 4, 2) := by decide +kernel
theorem dX12_forged_176 : decode cX12_forged 176 = .ok (.istore_n 3, 1) := by decide +kernel
theorem dX12_forged_177 : decode cX12_forged 177 = .ok (.iinc 4 1, 3) := by decide +kernel
theorem dX12_forged_180 : decode cX12_forged 180 = .ok (.goto (-130), 3) := by decide +kernel
theorem dX12_forged_183 : decode cX12_forged 183 = .ok (.aload_n 0, 1) := by decide +kernel
theorem dX12_forged_184 : decode cX12_forged 184 = .ok (.invokevirtual 201, 3) := by decide +kernel
theorem dX12_forged_187 : decode cX12_forged 187 = .ok (.iload_n 3, 1) := by decide +kernel
theorem dX12_forged_188 : decode cX12_forged 188 = .ok (.ireturn, 1) := by decide +kernel
theorem dX12_skipped_0 : decode cX12_skipped 0 = .ok (.aload_n 0, 1) := by decide +kernel
theorem dX12_skipped_1 : decode cX12_skipped 1 = .ok (.getfield 34, 3) := by decide +kernel
theorem dX12_skipped_4 : decode cX12_skipped 4 = .ok (.iload_n 1, 1) := by decide +kernel
theorem dX12_skipped_5 : decode cX12_skipped 5 = .ok (.iaload, 1) := by decide +kernel
theorem dX12_skipped_6 : decode cX12_skipped 6 = .ok (.ifCond .ne 9, 3) := by decide +kernel
theorem dX12_skipped_9 : decode cX12_skipped 9 = .ok (.ldc2_w 317, 3) := by decide +kernel
theorem dX12_skipped_12 : decode cX12_skipped 12 = .ok (.goto 22, 3) := by decide +kernel
theorem dX12_skipped_15 : decode cX12_skipped 15 = .ok (.aload_n 0, 1) := by decide +kernel
theorem dX12_skipped_16 : decode cX12_skipped 16 = .ok (.getfield 34, 3) := by decide +kernel
theorem dX12_skipped_19 : decode cX12_skipped 19 = .ok (.iload_n 1, 1) := by decide +kernel
theorem dX12_skipped_20 : decode cX12_skipped 20 = .ok (.iaload, 1) := by decide +kernel
theorem dX12_skipped_21 : decode cX12_skipped 21 = .ok (.iconst 1, 1) := by decide +kernel
theorem dX12_skipped_22 : decode cX12_skipped 22 = .ok (.if_icmp .ne 9, 3) := by decide +kernel
theorem dX12_skipped_25 : decode cX12_skipped 25 = .ok (.ldc2_w 319, 3) := by decide +kernel
theorem dX12_skipped_28 : decode cX12_skipped 28 = .ok (.goto 6, 3) := by decide +kernel
theorem dX12_skipped_31 : decode cX12_skipped 31 = .ok (.ldc2_w 321, 3) := by decide +kernel
theorem dX12_skipped_34 : decode cX12_skipped 34 = .ok (.lreturn, 1) := by decide +kernel
theorem dX12_judge_0 : decode cX12_judge 0 = .ok (.aload_n 0, 1) := by decide +kernel
theorem dX12_judge_1 : decode cX12_judge 1 = .ok (.iconst 0, 1) := by decide +kernel
theorem dX12_judge_2 : decode cX12_judge 2 = .ok (.putfield 77, 3) := by decide +kernel
theorem dX12_judge_5 : decode cX12_judge 5 = .ok (.aload_n 0, 1) := by decide +kernel
theorem dX12_judge_6 : decode cX12_judge 6 = .ok (.iload_n 2, 1) := by decide +kernel
theorem dX12_judge_7 : decode cX12_judge 7 = .ok (.invokevirtual 99, 3) := by decide +kernel
theorem dX12_judge_10 : decode cX12_judge 10 = .ok (.ifCond .eq 11, 3) := by decide +kernel
theorem dX12_judge_13 : decode cX12_judge 13 = .ok (.aload_n 0, 1) := by decide +kernel
theorem dX12_judge_14 : decode cX12_judge 14 = .ok (.iload_n 1, 1) := by decide +kernel
theorem dX12_judge_15 : decode cX12_judge 15 = .ok (.invokevirtual 189, 3) := by decide +kernel
theorem dX12_judge_18 : decode cX12_judge 18 = .ok (.goto 4, 3) := by decide +kernel
theorem dX12_judge_21 : decode cX12_judge 21 = .ok (.iconst (-1), 1) := by decide +kernel
theorem dX12_judge_22 : decode cX12_judge 22 = .ok (.istore_n 3, 1) := by decide +kernel
theorem dX12_judge_23 : decode cX12_judge 23 = .ok (.iload_n 3, 1) := by decide +kernel
theorem dX12_judge_24 : decode cX12_judge 24 = .ok (.ifCond .ge 5, 3) := by decide +kernel
theorem dX12_judge_27 : decode cX12_judge 27 = .ok (.iload_n 3, 1) := by decide +kernel
theorem dX12_judge_28 : decode cX12_judge 28 = .ok (.ireturn, 1) := by decide +kernel
theorem dX12_judge_29 : decode cX12_judge 29 = .ok (.bipush (-4), 2) := by decide +kernel
theorem dX12_judge_31 : decode cX12_judge 31 = .ok (.istore 4, 2) := by decide +kernel
theorem dX12_judge_33 : decode cX12_judge 33 = .ok (.aload_n 0, 1) := by decide +kernel
theorem dX12_judge_34 : decode cX12_judge 34 = .ok (.iconst 0, 1) := by decide +kernel
theorem dX12_judge_35 : decode cX12_judge 35 = .ok (.putfield 271, 3) := by decide +kernel
theorem dX12_judge_38 : decode cX12_judge 38 = .ok (.aload_n 0, 1) := by decide +kernel
theorem dX12_judge_39 : decode cX12_judge 39 = .ok (.invokevirtual 195, 3) := by decide +kernel
theorem dX12_judge_42 : decode cX12_judge 42 = .ok (.iconst 0, 1) := by decide +kernel
theorem dX12_judge_43 : decode cX12_judge 43 = .ok (.istore 5, 2) := by decide +kernel
theorem dX12_judge_45 : decode cX12_judge 45 = .ok (.iload 5, 2) := by decide +kernel
theorem dX12_judge_47 : decode cX12_judge 47 = .ok (.aload_n 0, 1) := by decide +kernel
theorem dX12_judge_48 : decode cX12_judge 48 = .ok (.getfield 37, 3) := by decide +kernel
theorem dX12_judge_51 : decode cX12_judge 51 = .ok (.iload_n 1, 1) := by decide +kernel
theorem dX12_judge_52 : decode cX12_judge 52 = .ok (.iaload, 1) := by decide +kernel
theorem dX12_judge_53 : decode cX12_judge 53 = .ok (.if_icmp .ge 71, 3) := by decide +kernel
theorem dX12_judge_56 : decode cX12_judge 56 = .ok (.iload 4, 2) := by decide +kernel
theorem dX12_judge_58 : decode cX12_judge 58 = .ok (.ifCond .ge 66, 3) := by decide +kernel
theorem dX12_judge_61 : decode cX12_judge 61 = .ok (.iload 5, 2) := by decide +kernel
theorem dX12_judge_63 : decode cX12_judge 63 = .ok (.ifCond .le 8, 3) := by decide +kernel
theorem dX12_judge_66 : decode cX12_judge 66 = .ok (.aload_n 0, 1) := by decide +kernel
theorem dX12_judge_67 : decode cX12_judge 67 = .ok (.invokevirtual 276, 3) := by decide +kernel
theorem dX12_judge_70 : decode cX12_judge 70 = .ok (.pop, 1) := by decide +kernel
theorem dX12_judge_71 : decode cX12_judge 71 = .ok (.aload_n 0, 1) := by decide +kernel
theorem dX12_judge_72 : decode cX12_judge 72 = .ok (.getfield 40, 3) := by decide +kernel
theorem dX12_judge_75 : decode cX12_judge 75 = .ok (.bipush 100, 2) := by decide +kernel
theorem dX12_judge_77 : decode cX12_judge 77 = .ok (.iload_n 1, 1) := by decide +kernel
theorem dX12_judge_78 : decode cX12_judge 78 = .ok (.imul, 1) := by decide +kernel
theorem dX12_judge_79 : decode cX12_judge 79 = .ok (.iload 5, 2) := by decide +kernel
theorem dX12_judge_81 : decode cX12_judge 81 = .ok (.iadd, 1) := by decide +kernel
theorem dX12_judge_82 : decode cX12_judge 82 = .ok (.laload, 1) := by decide +kernel
theorem dX12_judge_83 : decode cX12_judge 83 = .ok (.lstore 6, 2) := by decide +kernel
theorem dX12_judge_85 : decode cX12_judge 85 = .ok (.lload 6, 2) := by decide +kernel
theorem dX12_judge_87 : decode cX12_judge 87 = .ok (.aload_n 0, 1) := by decide +kernel
theorem dX12_judge_88 : decode cX12_judge 88 = .ok (.iload_n 1, 1) := by decide +kernel
theorem dX12_judge_89 : decode cX12_judge 89 = .ok (.invokevirtual 323, 3) := by decide +kernel
theorem dX12_judge_92 : decode cX12_judge 92 = .ok (.lcmp, 1) := by decide +kernel
theorem dX12_judge_93 : decode cX12_judge 93 = .ok (.ifCond .eq 16, 3) := by decide +kernel
theorem dX12_judge_96 : decode cX12_judge 96 = .ok (.lload 6, 2) := by decide +kernel
theorem dX12_judge_98 : decode cX12_judge 98 = .ok (.aload_n 0, 1) := by decide +kernel
theorem dX12_judge_99 : decode cX12_judge 99 = .ok (.getfield 16, 3) := by decide +kernel
theorem dX12_judge_102 : decode cX12_judge 102 = .ok (.iload_n 2, 1) := by decide +kernel
theorem dX12_judge_103 : decode cX12_judge 103 = .ok (.iaload, 1) := by decide +kernel
theorem dX12_judge_104 : decode cX12_judge 104 = .ok (.i2l, 1) := by decide +kernel
theorem dX12_judge_105 : decode cX12_judge 105 = .ok (.lcmp, 1) := by decide +kernel
theorem dX12_judge_106 : decode cX12_judge 106 = .ok (.ifCond .ne 8, 3) := by decide +kernel
theorem dX12_judge_109 : decode cX12_judge 109 = .ok (.bipush (-4), 2) := by decide +kernel
theorem dX12_judge_111 : decode cX12_judge 111 = .ok (.goto 5, 3) := by decide +kernel
theorem dX12_judge_114 : decode cX12_judge 114 = .ok (.iload 5, 2) := by decide +kernel
theorem dX12_judge_116 : decode cX12_judge 116 = .ok (.istore 4, 2) := by decide +kernel
theorem dX12_judge_118 : decode cX12_judge 118 = .ok (.iinc 5 1, 3) := by decide +kernel
theorem dX12_judge_121 : decode cX12_judge 121 = .ok (.goto (-76), 3) := by decide +kernel
theorem dX12_judge_124 : decode cX12_judge 124 = .ok (.aload_n 0, 1) := by decide +kernel
theorem dX12_judge_125 : decode cX12_judge 125 = .ok (.invokevirtual 201, 3) := by decide +kernel
theorem dX12_judge_128 : decode cX12_judge 128 = .ok (.iload 4, 2) := by decide +kernel
theorem dX12_judge_130 : decode cX12_judge 130 = .ok (.ireturn, 1) := by decide +kernel
theorem dX12_drawBelow_0 : decode cX12_drawBelow 0 = .ok (.aload_n 0, 1) := by decide +kernel
theorem dX12_drawBelow_1 : decode cX12_drawBelow 1 = .ok (.aload_n 0, 1) := by decide +kernel
theorem dX12_drawBelow_2 : decode cX12_drawBelow 2 = .ok (.getfield 327, 3) := by decide +kernel
theorem dX12_drawBelow_5 : decode cX12_drawBelow 5 = .ok (.ldc_w 330, 3) := by decide +kernel
theorem dX12_drawBelow_8 : decode cX12_drawBelow 8 = .ok (.imul, 1) := by decide +kernel
theorem dX12_drawBelow_9 : decode cX12_drawBelow 9 = .ok (.sipush 12345, 3) := by decide +kernel
theorem dX12_drawBelow_12 : decode cX12_drawBelow 12 = .ok (.iadd, 1) := by decide +kernel
theorem dX12_drawBelow_13 : decode cX12_drawBelow 13 = .ok (.putfield 327, 3) := by decide +kernel
theorem dX12_drawBelow_16 : decode cX12_drawBelow 16 = .ok (.aload_n 0, 1) := by decide +kernel
theorem dX12_drawBelow_17 : decode cX12_drawBelow 17 = .ok (.getfield 327, 3) := by decide +kernel
theorem dX12_drawBelow_20 : decode cX12_drawBelow 20 = .ok (.ldc_w 331, 3) := by decide +kernel
theorem dX12_drawBelow_23 : decode cX12_drawBelow 23 = .ok (.iand, 1) := by decide +kernel
theorem dX12_drawBelow_24 : decode cX12_drawBelow 24 = .ok (.ldc_w 332, 3) := by decide +kernel
theorem dX12_drawBelow_27 : decode cX12_drawBelow 27 = .ok (.idiv, 1) := by decide +kernel
theorem dX12_drawBelow_28 : decode cX12_drawBelow 28 = .ok (.iload_n 1, 1) := by decide +kernel
theorem dX12_drawBelow_29 : decode cX12_drawBelow 29 = .ok (.irem, 1) := by decide +kernel
theorem dX12_drawBelow_30 : decode cX12_drawBelow 30 = .ok (.ireturn, 1) := by decide +kernel
theorem dX12_weeks_0 : decode cX12_weeks 0 = .ok (.aload_n 0, 1) := by decide +kernel
theorem dX12_weeks_1 : decode cX12_weeks 1 = .ok (.iconst 0, 1) := by decide +kernel
theorem dX12_weeks_2 : decode cX12_weeks 2 = .ok (.putfield 77, 3) := by decide +kernel
theorem dX12_weeks_5 : decode cX12_weeks 5 = .ok (.iload_n 1, 1) := by decide +kernel
theorem dX12_weeks_6 : decode cX12_weeks 6 = .ok (.i2l, 1) := by decide +kernel
theorem dX12_weeks_7 : decode cX12_weeks 7 = .ok (.lconst 1, 1) := by decide +kernel
theorem dX12_weeks_8 : decode cX12_weeks 8 = .ok (.ldc2_w 225, 3) := by decide +kernel
theorem dX12_weeks_11 : decode cX12_weeks 11 = .ok (.invokestatic 84, 3) := by decide +kernel
theorem dX12_weeks_14 : decode cX12_weeks 14 = .ok (.ifCond .eq 13, 3) := by decide +kernel
theorem dX12_weeks_17 : decode cX12_weeks 17 = .ok (.iload_n 3, 1) := by decide +kernel
theorem dX12_weeks_18 : decode cX12_weeks 18 = .ok (.i2l, 1) := by decide +kernel
theorem dX12_weeks_19 : decode cX12_weeks 19 = .ok (.lconst 0, 1) := by decide +kernel
theorem dX12_weeks_20 : decode cX12_weeks 20 = .ok (.lconst 1, 1) := by decide +kernel
theorem dX12_weeks_21 : decode cX12_weeks 21 = .ok (.invokestatic 84, 3) := by decide +kernel
theorem dX12_weeks_24 : decode cX12_weeks 24 = .ok (.ifCond .ne 5, 3) := by decide +kernel
theorem dX12_weeks_27 : decode cX12_weeks 27 = .ok (.iconst (-1), 1) := by decide +kernel
theorem dX12_weeks_28 : decode cX12_weeks 28 = .ok (.ireturn, 1) := by decide +kernel
theorem dX12_weeks_29 : decode cX12_weeks 29 = .ok (.aload_n 0, 1) := by decide +kernel
theorem dX12_weeks_30 : decode cX12_weeks 30 = .ok (.getfield 81, 3) := by decide +kernel
theorem dX12_weeks_33 : decode cX12_weeks 33 = .ok (.ifCond .ne 6, 3) := by decide +kernel
theorem dX12_weeks_36 : decode cX12_weeks 36 = .ok (.bipush (-3), 2) := by decide +kernel
theorem dX12_weeks_38 : decode cX12_weeks 38 = .ok (.ireturn, 1) := by decide +kernel
theorem dX12_weeks_39 : decode cX12_weeks 39 = .ok (.aload_n 0, 1) := by decide +kernel
theorem dX12_weeks_40 : decode cX12_weeks 40 = .ok (.iload_n 2, 1) := by decide +kernel
theorem dX12_weeks_41 : decode cX12_weeks 41 = .ok (.putfield 327, 3) := by decide +kernel
theorem dX12_weeks_44 : decode cX12_weeks 44 = .ok (.iconst 0, 1) := by decide +kernel
theorem dX12_weeks_45 : decode cX12_weeks 45 = .ok (.istore 4, 2) := by decide +kernel
theorem dX12_weeks_47 : decode cX12_weeks 47 = .ok (.iconst 0, 1) := by decide +kernel
theorem dX12_weeks_48 : decode cX12_weeks 48 = .ok (.istore 5, 2) := by decide +kernel
theorem dX12_weeks_50 : decode cX12_weeks 50 = .ok (.aload_n 0, 1) := by decide +kernel
theorem dX12_weeks_51 : decode cX12_weeks 51 = .ok (.invokevirtual 234, 3) := by decide +kernel
theorem dX12_weeks_54 : decode cX12_weeks 54 = .ok (.istore 6, 2) := by decide +kernel
theorem dX12_weeks_56 : decode cX12_weeks 56 = .ok (.aload_n 0, 1) := by decide +kernel
theorem dX12_weeks_57 : decode cX12_weeks 57 = .ok (.invokevirtual 195, 3) := by decide +kernel
theorem dX12_weeks_60 : decode cX12_weeks 60 = .ok (.iconst 0, 1) := by decide +kernel
theorem dX12_weeks_61 : decode cX12_weeks 61 = .ok (.istore 7, 2) := by decide +kernel
theorem dX12_weeks_63 : decode cX12_weeks 63 = .ok (.iload 7, 2) := by decide +kernel
theorem dX12_weeks_65 : decode cX12_weeks 65 = .ok (.iload_n 1, 1) := by decide +kernel
theorem dX12_weeks_66 : decode cX12_weeks 66 = .ok (.if_icmp .ge 103, 3) := by decide +kernel
theorem dX12_weeks_69 : decode cX12_weeks 69 = .ok (.iconst 0, 1) := by decide +kernel
theorem dX12_weeks_70 : decode cX12_weeks 70 = .ok (.istore 8, 2) := by decide +kernel
theorem dX12_weeks_72 : decode cX12_weeks 72 = .ok (.iload 8, 2) := by decide +kernel
theorem dX12_weeks_74 : decode cX12_weeks 74 = .ok (.bipush 10, 2) := by decide +kernel
theorem dX12_weeks_76 : decode cX12_weeks 76 = .ok (.if_icmp .ge 71, 3) := by decide +kernel
theorem dX12_weeks_79 : decode cX12_weeks 79 = .ok (.aload_n 0, 1) := by decide +kernel
theorem dX12_weeks_80 : decode cX12_weeks 80 = .ok (.aload_n 0, 1) := by decide +kernel
theorem dX12_weeks_81 : decode cX12_weeks 81 = .ok (.getfield 81, 3) := by decide +kernel
theorem dX12_weeks_84 : decode cX12_weeks 84 = .ok (.invokevirtual 333, 3) := by decide +kernel
theorem dX12_weeks_87 : decode cX12_weeks 87 = .ok (.istore 9, 2) := by decide +kernel
theorem dX12_weeks_89 : decode cX12_weeks 89 = .ok (.aload_n 0, 1) := by decide +kernel
theorem dX12_weeks_90 : decode cX12_weeks 90 = .ok (.iconst 4, 1) := by decide +kernel
theorem dX12_weeks_91 : decode cX12_weeks 91 = .ok (.invokevirtual 333, 3) := by decide +kernel
theorem dX12_weeks_94 : decode cX12_weeks 94 = .ok (.istore 10, 2) := by decide +kernel
theorem dX12_weeks_96 : decode cX12_weeks 96 = .ok (.aload_n 0, 1) := by decide +kernel
theorem dX12_weeks_97 : decode cX12_weeks 97 = .ok (.getfield 19, 3) := by decide +kernel
theorem dX12_weeks_100 : decode cX12_weeks 100 = .ok (.iload 9, 2) := by decide +kernel
theorem dX12_weeks_102 : decode cX12_weeks 102 = .ok (.iaload, 1) := by decide +kernel
theorem dX12_weeks_103 : decode cX12_weeks 103 = .ok (.bipush 7, 2) := by decide +kernel
theorem dX12_weeks_105 : decode cX12_weeks 105 = .ok (.if_icmp .ge 36, 3) := by decide +kernel
theorem dX12_weeks_108 : decode cX12_weeks 108 = .ok (.iload 5, 2) := by decide +kernel
theorem dX12_weeks_110 : decode cX12_weeks 110 = .ok (.iload 10, 2) := by decide +kernel
theorem dX12_weeks_112 : decode cX12_weeks 112 = .ok (.iconst 2, 1) := by decide +kernel
theorem dX12_weeks_113 : decode cX12_weeks 113 = .ok (.if_icmp .ne 16, 3) := by decide +kernel
theorem dX12_weeks_116 : decode cX12_weeks 116 = .ok (.aload_n 0, 1) := by decide +kernel
theorem dX12_weeks_117 : decode cX12_weeks 117 = .ok (.iload 9, 2) := by decide +kernel
theorem dX12_weeks_119 : decode cX12_weeks 119 = .ok (.invokevirtual 109, 3) := by decide +kernel
theorem dX12_weeks_122 : decode cX12_weeks 122 = .ok (.ifCond .ne 7, 3) := by decide +kernel
theorem dX12_weeks_125 : decode cX12_weeks 125 = .ok (.iconst 1, 1) := by decide +kernel
theorem dX12_weeks_126 : decode cX12_weeks 126 = .ok (.goto 4, 3) := by decide +kernel
theorem dX12_weeks_129 : decode cX12_weeks 129 = .ok (.iconst 0, 1) := by decide +kernel
theorem dX12_weeks_130 : decode cX12_weeks 130 = .ok (.iadd, 1) := by decide +kernel
theorem dX12_weeks_131 : decode cX12_weeks 131 = .ok (.istore 5, 2) := by decide +kernel
theorem dX12_weeks_133 : decode cX12_weeks 133 = .ok (.aload_n 0, 1) := by decide +kernel
theorem dX12_weeks_134 : decode cX12_weeks 134 = .ok (.iload 9, 2) := by decide +kernel
theorem dX12_weeks_136 : decode cX12_weeks 136 = .ok (.iload 10, 2) := by decide +kernel
theorem dX12_weeks_138 : decode cX12_weeks 138 = .ok (.invokevirtual 168, 3) := by decide +kernel
theorem dX12_weeks_141 : decode cX12_weeks 141 = .ok (.iinc 8 1, 3) := by decide +kernel
theorem dX12_weeks_144 : decode cX12_weeks 144 = .ok (.goto (-72), 3) := by decide +kernel
theorem dX12_weeks_147 : decode cX12_weeks 147 = .ok (.iload 4, 2) := by decide +kernel
theorem dX12_weeks_149 : decode cX12_weeks 149 = .ok (.aload_n 0, 1) := by decide +kernel
theorem dX12_weeks_150 : decode cX12_weeks 150 = .ok (.invokevirtual 234, 3) := by decide +kernel
theorem dX12_weeks_153 : decode cX12_weeks 153 = .ok (.iload 6, 2) := by decide +kernel
theorem dX12_weeks_155 : decode cX12_weeks 155 = .ok (.isub, 1) := by decide +kernel
theorem dX12_weeks_156 : decode cX12_weeks 156 = .ok (.iadd, 1) := by decide +kernel
theorem dX12_weeks_157 : decode cX12_weeks 157 = .ok (.istore 4, 2) := by decide +kernel
theorem dX12_weeks_159 : decode cX12_weeks 159 = .ok (.aload_n 0, 1) := by decide +kernel
theorem dX12_weeks_160 : decode cX12_weeks 160 = .ok (.invokevirtual 201, 3) := by decide +kernel
theorem dX12_weeks_163 : decode cX12_weeks 163 = .ok (.iinc 7 1, 3) := by decide +kernel
theorem dX12_weeks_166 : decode cX12_weeks 166 = .ok (.goto (-103), 3) := by decide +kernel
theorem dX12_weeks_169 : decode cX12_weeks 169 = .ok (.iload_n 3, 1) := by decide +kernel
theorem dX12_weeks_170 : decode cX12_weeks 170 = .ok (.ifCond .ne 8, 3) := by decide +kernel
theorem dX12_weeks_173 : decode cX12_weeks 173 = .ok (.iload 4, 2) := by decide +kernel
theorem dX12_weeks_175 : decode cX12_weeks 175 = .ok (.goto 5, 3) := by decide +kernel
theorem dX12_weeks_178 : decode cX12_weeks 178 = .ok (.iload 5, 2) := by decide +kernel
theorem dX12_weeks_180 : decode cX12_weeks 180 = .ok (.ireturn, 1) := by decide +kernel
theorem dX12_count_0 : decode cX12_count 0 = .ok (.aload_n 0, 1) := by decide +kernel
theorem dX12_count_1 : decode cX12_count 1 = .ok (.iconst 0, 1) := by decide +kernel
theorem dX12_count_2 : decode cX12_count 2 = .ok (.putfield 77, 3) := by decide +kernel
theorem dX12_count_5 : decode cX12_count 5 = .ok (.iconst 0, 1) := by decide +kernel
theorem dX12_count_6 : decode cX12_count 6 = .ok (.istore_n 2, 1) := by decide +kernel
theorem dX12_count_7 : decode cX12_count 7 = .ok (.iload_n 1, 1) := by decide +kernel
theorem dX12_count_8 : decode cX12_count 8 = .ok (.tableswitch 114 0 5 #[40, 45, 50, 77, 82, 109], 40) := by decide +kernel
theorem dX12_count_48 : decode cX12_count 48 = .ok (.aload_n 0, 1) := by decide +kernel
theorem dX12_count_49 : decode cX12_count 49 = .ok (.getfield 81, 3) := by decide +kernel
theorem dX12_count_52 : decode cX12_count 52 = .ok (.ireturn, 1) := by decide +kernel
theorem dX12_count_53 : decode cX12_count 53 = .ok (.aload_n 0, 1) := by decide +kernel
theorem dX12_count_54 : decode cX12_count 54 = .ok (.getfield 135, 3) := by decide +kernel
theorem dX12_count_57 : decode cX12_count 57 = .ok (.ireturn, 1) := by decide +kernel
theorem dX12_count_58 : decode cX12_count 58 = .ok (.iconst 0, 1) := by decide +kernel
theorem dX12_count_59 : decode cX12_count 59 = .ok (.istore_n 3, 1) := by decide +kernel
theorem dX12_count_60 : decode cX12_count 60 = .ok (.iload_n 3, 1) := by decide +kernel
theorem dX12_count_61 : decode cX12_count 61 = .ok (.aload_n 0, 1) := by decide +kernel
theorem dX12_count_62 : decode cX12_count 62 = .ok (.getfield 81, 3) := by decide +kernel
theorem dX12_count_65 : decode cX12_count 65 = .ok (.if_icmp .ge 18, 3) := by decide +kernel
theorem dX12_count_68 : decode cX12_count 68 = .ok (.iload_n 2, 1) := by decide +kernel
theorem dX12_count_69 : decode cX12_count 69 = .ok (.aload_n 0, 1) := by decide +kernel
theorem dX12_count_70 : decode cX12_count 70 = .ok (.getfield 16, 3) := by decide +kernel
theorem dX12_count_73 : decode cX12_count 73 = .ok (.iload_n 3, 1) := by decide +kernel
theorem dX12_count_74 : decode cX12_count 74 = .ok (.iaload, 1) := by decide +kernel
theorem dX12_count_75 : decode cX12_count 75 = .ok (.iadd, 1) := by decide +kernel
theorem dX12_count_76 : decode cX12_count 76 = .ok (.istore_n 2, 1) := by decide +kernel
theorem dX12_count_77 : decode cX12_count 77 = .ok (.iinc 3 1, 3) := by decide +kernel
theorem dX12_count_80 : decode cX12_count 80 = .ok (.goto (-20), 3) := by decide +kernel
theorem dX12_count_83 : decode cX12_count 83 = .ok (.iload_n 2, 1) := by decide +kernel
theorem dX12_count_84 : decode cX12_count 84 = .ok (.ireturn, 1) := by decide +kernel
theorem dX12_count_85 : decode cX12_count 85 = .ok (.aload_n 0, 1) := by decide +kernel
theorem dX12_count_86 : decode cX12_count 86 = .ok (.invokevirtual 234, 3) := by decide +kernel
theorem dX12_count_89 : decode cX12_count 89 = .ok (.ireturn, 1) := by decide +kernel
theorem dX12_count_90 : decode cX12_count 90 = .ok (.iconst 0, 1) := by decide +kernel
theorem dX12_count_91 : decode cX12_count 91 = .ok (.istore_n 3, 1) := by decide +kernel
theorem dX12_count_92 : decode cX12_count 92 = .ok (.iload_n 3, 1) := by decide +kernel
theorem dX12_count_93 : decode cX12_count 93 = .ok (.aload_n 0, 1) := by decide +kernel
theorem dX12_count_94 : decode cX12_count 94 = .ok (.getfield 81, 3) := by decide +kernel
theorem dX12_count_97 : decode cX12_count 97 = .ok (.if_icmp .ge 18, 3) := by decide +kernel
theorem dX12_count_100 : decode cX12_count 100 = .ok (.iload_n 2, 1) := by decide +kernel
theorem dX12_count_101 : decode cX12_count 101 = .ok (.aload_n 0, 1) := by decide +kernel
theorem dX12_count_102 : decode cX12_count 102 = .ok (.getfield 22, 3) := by decide +kernel
theorem dX12_count_105 : decode cX12_count 105 = .ok (.iload_n 3, 1) := by decide +kernel
theorem dX12_count_106 : decode cX12_count 106 = .ok (.iaload, 1) := by decide +kernel
theorem dX12_count_107 : decode cX12_count 107 = .ok (.iadd, 1) := by decide +kernel
theorem dX12_count_108 : decode cX12_count 108 = .ok (.istore_n 2, 1) := by decide +kernel
theorem dX12_count_109 : decode cX12_count 109 = .ok (.iinc 3 1, 3) := by decide +kernel
theorem dX12_count_112 : decode cX12_count 112 = .ok (.goto (-20), 3) := by decide +kernel
theorem dX12_count_115 : decode cX12_count 115 = .ok (.iload_n 2, 1) := by decide +kernel
theorem dX12_count_116 : decode cX12_count 116 = .ok (.ireturn, 1) := by decide +kernel
theorem dX12_count_117 : decode cX12_count 117 = .ok (.aload_n 0, 1) := by decide +kernel
theorem dX12_count_118 : decode cX12_count 118 = .ok (.invokevirtual 279, 3) := by decide +kernel
theorem dX12_count_121 : decode cX12_count 121 = .ok (.ireturn, 1) := by decide +kernel
theorem dX12_count_122 : decode cX12_count 122 = .ok (.iconst (-1), 1) := by decide +kernel
theorem dX12_count_123 : decode cX12_count 123 = .ok (.ireturn, 1) := by decide +kernel
theorem dX12_keep_0 : decode cX12_keep 0 = .ok (.aload_n 0, 1) := by decide +kernel
theorem dX12_keep_1 : decode cX12_keep 1 = .ok (.iconst 0, 1) := by decide +kernel
theorem dX12_keep_2 : decode cX12_keep 2 = .ok (.putfield 77, 3) := by decide +kernel
theorem dX12_keep_5 : decode cX12_keep 5 = .ok (.iload_n 1, 1) := by decide +kernel
theorem dX12_keep_6 : decode cX12_keep 6 = .ok (.i2l, 1) := by decide +kernel
theorem dX12_keep_7 : decode cX12_keep 7 = .ok (.lconst 0, 1) := by decide +kernel
theorem dX12_keep_8 : decode cX12_keep 8 = .ok (.ldc2_w 223, 3) := by decide +kernel
theorem dX12_keep_11 : decode cX12_keep 11 = .ok (.invokestatic 84, 3) := by decide +kernel
theorem dX12_keep_14 : decode cX12_keep 14 = .ok (.ifCond .eq 43, 3) := by decide +kernel
theorem dX12_keep_17 : decode cX12_keep 17 = .ok (.iload_n 2, 1) := by decide +kernel
theorem dX12_keep_18 : decode cX12_keep 18 = .ok (.i2l, 1) := by decide +kernel
theorem dX12_keep_19 : decode cX12_keep 19 = .ok (.lconst 0, 1) := by decide +kernel
theorem dX12_keep_20 : decode cX12_keep 20 = .ok (.lconst 1, 1) := by decide +kernel
theorem dX12_keep_21 : decode cX12_keep 21 = .ok (.invokestatic 84, 3) := by decide +kernel
theorem dX12_keep_24 : decode cX12_keep 24 = .ok (.ifCond .eq 33, 3) := by decide +kernel
theorem dX12_keep_27 : decode cX12_keep 27 = .ok (.iload_n 2, 1) := by decide +kernel
theorem dX12_keep_28 : decode cX12_keep 28 = .ok (.iconst 1, 1) := by decide +kernel
theorem dX12_keep_29 : decode cX12_keep 29 = .ok (.if_icmp .ne 30, 3) := by decide +kernel
theorem dX12_keep_32 : decode cX12_keep 32 = .ok (.iload_n 3, 1) := by decide +kernel
theorem dX12_keep_33 : decode cX12_keep 33 = .ok (.i2l, 1) := by decide +kernel
theorem dX12_keep_34 : decode cX12_keep 34 = .ok (.lconst 0, 1) := by decide +kernel
theorem dX12_keep_35 : decode cX12_keep 35 = .ok (.ldc2_w 223, 3) := by decide +kernel
theorem dX12_keep_38 : decode cX12_keep 38 = .ok (.invokestatic 84, 3) := by decide +kernel
theorem dX12_keep_41 : decode cX12_keep 41 = .ok (.ifCond .eq 16, 3) := by decide +kernel
theorem dX12_keep_44 : decode cX12_keep 44 = .ok (.iload 4, 2) := by decide +kernel
theorem dX12_keep_46 : decode cX12_keep 46 = .ok (.i2l, 1) := by decide +kernel
theorem dX12_keep_47 : decode cX12_keep 47 = .ok (.lconst 0, 1) := by decide +kernel
theorem dX12_keep_48 : decode cX12_keep 48 = .ok (.ldc2_w 232, 3) := by decide +kernel
theorem dX12_keep_51 : decode cX12_keep 51 = .ok (.invokestatic 84, 3) := by decide +kernel
theorem dX12_keep_54 : decode cX12_keep 54 = .ok (.ifCond .ne 5, 3) := by decide +kernel
theorem dX12_keep_57 : decode cX12_keep 57 = .ok (.iconst (-1), 1) := by decide +kernel
theorem dX12_keep_58 : decode cX12_keep 58 = .ok (.ireturn, 1) := by decide +kernel
theorem dX12_keep_59 : decode cX12_keep 59 = .ok (.aload_n 0, 1) := by decide +kernel
theorem dX12_keep_60 : decode cX12_keep 60 = .ok (.getfield 25, 3) := by decide +kernel
theorem dX12_keep_63 : decode cX12_keep 63 = .ok (.iload_n 1, 1) := by decide +kernel
theorem dX12_keep_64 : decode cX12_keep 64 = .ok (.iload_n 2, 1) := by decide +kernel
theorem dX12_keep_65 : decode cX12_keep 65 = .ok (.iastore, 1) := by decide +kernel
theorem dX12_keep_66 : decode cX12_keep 66 = .ok (.aload_n 0, 1) := by decide +kernel
theorem dX12_keep_67 : decode cX12_keep 67 = .ok (.getfield 28, 3) := by decide +kernel
theorem dX12_keep_70 : decode cX12_keep 70 = .ok (.iload_n 1, 1) := by decide +kernel
theorem dX12_keep_71 : decode cX12_keep 71 = .ok (.iload_n 2, 1) := by decide +kernel
theorem dX12_keep_72 : decode cX12_keep 72 = .ok (.iconst 1, 1) := by decide +kernel
theorem dX12_keep_73 : decode cX12_keep 73 = .ok (.if_icmp .ne 7, 3) := by decide +kernel
theorem dX12_keep_76 : decode cX12_keep 76 = .ok (.iload_n 3, 1) := by decide +kernel
theorem dX12_keep_77 : decode cX12_keep 77 = .ok (.goto 4, 3) := by decide +kernel
theorem dX12_keep_80 : decode cX12_keep 80 = .ok (.iconst 0, 1) := by decide +kernel
theorem dX12_keep_81 : decode cX12_keep 81 = .ok (.iastore, 1) := by decide +kernel
theorem dX12_keep_82 : decode cX12_keep 82 = .ok (.aload_n 0, 1) := by decide +kernel
theorem dX12_keep_83 : decode cX12_keep 83 = .ok (.getfield 31, 3) := by decide +kernel
theorem dX12_keep_86 : decode cX12_keep 86 = .ok (.iload_n 1, 1) := by decide +kernel
theorem dX12_keep_87 : decode cX12_keep 87 = .ok (.iload_n 2, 1) := by decide +kernel
theorem dX12_keep_88 : decode cX12_keep 88 = .ok (.iconst 1, 1) := by decide +kernel
theorem dX12_keep_89 : decode cX12_keep 89 = .ok (.if_icmp .ne 8, 3) := by decide +kernel
theorem dX12_keep_92 : decode cX12_keep 92 = .ok (.iload 4, 2) := by decide +kernel
theorem dX12_keep_94 : decode cX12_keep 94 = .ok (.goto 4, 3) := by decide +kernel
theorem dX12_keep_97 : decode cX12_keep 97 = .ok (.iconst 0, 1) := by decide +kernel
theorem dX12_keep_98 : decode cX12_keep 98 = .ok (.iastore, 1) := by decide +kernel
theorem dX12_keep_99 : decode cX12_keep 99 = .ok (.iconst 0, 1) := by decide +kernel
theorem dX12_keep_100 : decode cX12_keep 100 = .ok (.ireturn, 1) := by decide +kernel
theorem dX12_wrongRow_0 : decode cX12_wrongRow 0 = .ok (.iload_n 1, 1) := by decide +kernel
theorem dX12_wrongRow_1 : decode cX12_wrongRow 1 = .ok (.i2l, 1) := by decide +kernel
theorem dX12_wrongRow_2 : decode cX12_wrongRow 2 = .ok (.lconst 0, 1) := by decide +kernel
theorem dX12_wrongRow_3 : decode cX12_wrongRow 3 = .ok (.ldc2_w 223, 3) := by decide +kernel
theorem dX12_wrongRow_6 : decode cX12_wrongRow 6 = .ok (.invokestatic 84, 3) := by decide +kernel
theorem dX12_wrongRow_9 : decode cX12_wrongRow 9 = .ok (.ifCond .ne 7, 3) := by decide +kernel
theorem dX12_wrongRow_12 : decode cX12_wrongRow 12 = .ok (.iconst (-1), 1) := by decide +kernel
theorem dX12_wrongRow_13 : decode cX12_wrongRow 13 = .ok (.goto 33, 3) := by decide +kernel
theorem dX12_wrongRow_16 : decode cX12_wrongRow 16 = .ok (.aload_n 0, 1) := by decide +kernel
theorem dX12_wrongRow_17 : decode cX12_wrongRow 17 = .ok (.getfield 25, 3) := by decide +kernel
theorem dX12_wrongRow_20 : decode cX12_wrongRow 20 = .ok (.iload_n 1, 1) := by decide +kernel
theorem dX12_wrongRow_21 : decode cX12_wrongRow 21 = .ok (.iaload, 1) := by decide +kernel
theorem dX12_wrongRow_22 : decode cX12_wrongRow 22 = .ok (.ifCond .ne 8, 3) := by decide +kernel
theorem dX12_wrongRow_25 : decode cX12_wrongRow 25 = .ok (.bipush (-11), 2) := by decide +kernel
theorem dX12_wrongRow_27 : decode cX12_wrongRow 27 = .ok (.goto 19, 3) := by decide +kernel
theorem dX12_wrongRow_30 : decode cX12_wrongRow 30 = .ok (.aload_n 0, 1) := by decide +kernel
theorem dX12_wrongRow_31 : decode cX12_wrongRow 31 = .ok (.getfield 25, 3) := by decide +kernel
theorem dX12_wrongRow_34 : decode cX12_wrongRow 34 = .ok (.iload_n 1, 1) := by decide +kernel
theorem dX12_wrongRow_35 : decode cX12_wrongRow 35 = .ok (.iaload, 1) := by decide +kernel
theorem dX12_wrongRow_36 : decode cX12_wrongRow 36 = .ok (.iconst 2, 1) := by decide +kernel
theorem dX12_wrongRow_37 : decode cX12_wrongRow 37 = .ok (.if_icmp .eq 8, 3) := by decide +kernel
theorem dX12_wrongRow_40 : decode cX12_wrongRow 40 = .ok (.bipush (-12), 2) := by decide +kernel
theorem dX12_wrongRow_42 : decode cX12_wrongRow 42 = .ok (.goto 4, 3) := by decide +kernel
theorem dX12_wrongRow_45 : decode cX12_wrongRow 45 = .ok (.iconst 0, 1) := by decide +kernel
theorem dX12_wrongRow_46 : decode cX12_wrongRow 46 = .ok (.ireturn, 1) := by decide +kernel
theorem dX12_narrowed_0 : decode cX12_narrowed 0 = .ok (.iload_n 1, 1) := by decide +kernel
theorem dX12_narrowed_1 : decode cX12_narrowed 1 = .ok (.ifCond .ne 9, 3) := by decide +kernel
theorem dX12_narrowed_4 : decode cX12_narrowed 4 = .ok (.iload_n 0, 1) := by decide +kernel
theorem dX12_narrowed_5 : decode cX12_narrowed 5 = .ok (.i2b, 1) := by decide +kernel
theorem dX12_narrowed_6 : decode cX12_narrowed 6 = .ok (.i2l, 1) := by decide +kernel
theorem dX12_narrowed_7 : decode cX12_narrowed 7 = .ok (.goto 16, 3) := by decide +kernel
theorem dX12_narrowed_10 : decode cX12_narrowed 10 = .ok (.iload_n 1, 1) := by decide +kernel
theorem dX12_narrowed_11 : decode cX12_narrowed 11 = .ok (.iconst 1, 1) := by decide +kernel
theorem dX12_narrowed_12 : decode cX12_narrowed 12 = .ok (.if_icmp .ne 9, 3) := by decide +kernel
theorem dX12_narrowed_15 : decode cX12_narrowed 15 = .ok (.iload_n 0, 1) := by decide +kernel
theorem dX12_narrowed_16 : decode cX12_narrowed 16 = .ok (.i2s, 1) := by decide +kernel
theorem dX12_narrowed_17 : decode cX12_narrowed 17 = .ok (.i2l, 1) := by decide +kernel
theorem dX12_narrowed_18 : decode cX12_narrowed 18 = .ok (.goto 5, 3) := by decide +kernel
theorem dX12_narrowed_21 : decode cX12_narrowed 21 = .ok (.iload_n 0, 1) := by decide +kernel
theorem dX12_narrowed_22 : decode cX12_narrowed 22 = .ok (.i2l, 1) := by decide +kernel
theorem dX12_narrowed_23 : decode cX12_narrowed 23 = .ok (.lreturn, 1) := by decide +kernel
theorem dX12_row_0 : decode cX12_row 0 = .ok (.aload_n 0, 1) := by decide +kernel
theorem dX12_row_1 : decode cX12_row 1 = .ok (.iconst 0, 1) := by decide +kernel
theorem dX12_row_2 : decode cX12_row 2 = .ok (.putfield 77, 3) := by decide +kernel
theorem dX12_row_5 : decode cX12_row 5 = .ok (.iload_n 1, 1) := by decide +kernel
theorem dX12_row_6 : decode cX12_row 6 = .ok (.i2l, 1) := by decide +kernel
theorem dX12_row_7 : decode cX12_row 7 = .ok (.lconst 0, 1) := by decide +kernel
theorem dX12_row_8 : decode cX12_row 8 = .ok (.ldc2_w 223, 3) := by decide +kernel
theorem dX12_row_11 : decode cX12_row 11 = .ok (.invokestatic 84, 3) := by decide +kernel
theorem dX12_row_14 : decode cX12_row 14 = .ok (.ifCond .eq 21, 3) := by decide +kernel
theorem dX12_row_17 : decode cX12_row 17 = .ok (.iload_n 2, 1) := by decide +kernel
theorem dX12_row_18 : decode cX12_row 18 = .ok (.i2l, 1) := by decide +kernel
theorem dX12_row_19 : decode cX12_row 19 = .ok (.lconst 0, 1) := by decide +kernel
theorem dX12_row_20 : decode cX12_row 20 = .ok (.ldc2_w 302, 3) := by decide +kernel
theorem dX12_row_23 : decode cX12_row 23 = .ok (.invokestatic 84, 3) := by decide +kernel
theorem dX12_row_26 : decode cX12_row 26 = .ok (.ifCond .eq 9, 3) := by decide +kernel
theorem dX12_row_29 : decode cX12_row 29 = .ok (.iload_n 3, 1) := by decide +kernel
theorem dX12_row_30 : decode cX12_row 30 = .ok (.bipush 100, 2) := by decide +kernel
theorem dX12_row_32 : decode cX12_row 32 = .ok (.if_icmp .le 5, 3) := by decide +kernel
theorem dX12_row_35 : decode cX12_row 35 = .ok (.iconst (-1), 1) := by decide +kernel
theorem dX12_row_36 : decode cX12_row 36 = .ok (.ireturn, 1) := by decide +kernel
theorem dX12_row_37 : decode cX12_row 37 = .ok (.iload_n 3, 1) := by decide +kernel
theorem dX12_row_38 : decode cX12_row 38 = .ok (.ifCond .ge 6, 3) := by decide +kernel
theorem dX12_row_41 : decode cX12_row 41 = .ok (.bipush (-14), 2) := by decide +kernel
theorem dX12_row_43 : decode cX12_row 43 = .ok (.ireturn, 1) := by decide +kernel
theorem dX12_row_44 : decode cX12_row 44 = .ok (.aload_n 0, 1) := by decide +kernel
theorem dX12_row_45 : decode cX12_row 45 = .ok (.getfield 25, 3) := by decide +kernel
theorem dX12_row_48 : decode cX12_row 48 = .ok (.iload_n 1, 1) := by decide +kernel
theorem dX12_row_49 : decode cX12_row 49 = .ok (.iconst 2, 1) := by decide +kernel
theorem dX12_row_50 : decode cX12_row 50 = .ok (.iastore, 1) := by decide +kernel
theorem dX12_row_51 : decode cX12_row 51 = .ok (.aload_n 0, 1) := by decide +kernel
theorem dX12_row_52 : decode cX12_row 52 = .ok (.getfield 34, 3) := by decide +kernel
theorem dX12_row_55 : decode cX12_row 55 = .ok (.iload_n 1, 1) := by decide +kernel
theorem dX12_row_56 : decode cX12_row 56 = .ok (.iload_n 2, 1) := by decide +kernel
theorem dX12_row_57 : decode cX12_row 57 = .ok (.iastore, 1) := by decide +kernel
theorem dX12_row_58 : decode cX12_row 58 = .ok (.aload_n 0, 1) := by decide +kernel
theorem dX12_row_59 : decode cX12_row 59 = .ok (.getfield 37, 3) := by decide +kernel
theorem dX12_row_62 : decode cX12_row 62 = .ok (.iload_n 1, 1) := by decide +kernel
theorem dX12_row_63 : decode cX12_row 63 = .ok (.iload_n 3, 1) := by decide +kernel
theorem dX12_row_64 : decode cX12_row 64 = .ok (.iastore, 1) := by decide +kernel
theorem dX12_row_65 : decode cX12_row 65 = .ok (.iconst 0, 1) := by decide +kernel
theorem dX12_row_66 : decode cX12_row 66 = .ok (.istore 4, 2) := by decide +kernel
theorem dX12_row_68 : decode cX12_row 68 = .ok (.iload 4, 2) := by decide +kernel
theorem dX12_row_70 : decode cX12_row 70 = .ok (.bipush 100, 2) := by decide +kernel
theorem dX12_row_72 : decode cX12_row 72 = .ok (.if_icmp .ge 22, 3) := by decide +kernel
theorem dX12_row_75 : decode cX12_row 75 = .ok (.aload_n 0, 1) := by decide +kernel
theorem dX12_row_76 : decode cX12_row 76 = .ok (.getfield 40, 3) := by decide +kernel
theorem dX12_row_79 : decode cX12_row 79 = .ok (.bipush 100, 2) := by decide +kernel
theorem dX12_row_81 : decode cX12_row 81 = .ok (.iload_n 1, 1) := by decide +kernel
theorem dX12_row_82 : decode cX12_row 82 = .ok (.imul, 1) := by decide +kernel
