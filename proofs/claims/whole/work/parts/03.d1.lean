theorem dX11_init_6 : decode cX11_init 6 = .ok (.anewarray 9, 3) := by decide +kernel
theorem dX11_init_9 : decode cX11_init 9 = .ok (.putfield 11, 3) := by decide +kernel
theorem dX11_init_12 : decode cX11_init 12 = .ok (.aload_n 0, 1) := by decide +kernel
theorem dX11_init_13 : decode cX11_init 13 = .ok (.sipush 168, 3) := by decide +kernel
theorem dX11_init_16 : decode cX11_init 16 = .ok (.newarray .int, 2) := by decide +kernel
theorem dX11_init_18 : decode cX11_init 18 = .ok (.putfield 15, 3) := by decide +kernel
theorem dX11_init_21 : decode cX11_init 21 = .ok (.aload_n 0, 1) := by decide +kernel
theorem dX11_init_22 : decode cX11_init 22 = .ok (.sipush 168, 3) := by decide +kernel
theorem dX11_init_25 : decode cX11_init 25 = .ok (.newarray .int, 2) := by decide +kernel
theorem dX11_init_27 : decode cX11_init 27 = .ok (.putfield 19, 3) := by decide +kernel
theorem dX11_init_30 : decode cX11_init 30 = .ok (.aload_n 0, 1) := by decide +kernel
theorem dX11_init_31 : decode cX11_init 31 = .ok (.bipush 6, 2) := by decide +kernel
theorem dX11_init_33 : decode cX11_init 33 = .ok (.newarray .int, 2) := by decide +kernel
theorem dX11_init_35 : decode cX11_init 35 = .ok (.putfield 22, 3) := by decide +kernel
theorem dX11_init_38 : decode cX11_init 38 = .ok (.aload_n 0, 1) := by decide +kernel
theorem dX11_init_39 : decode cX11_init 39 = .ok (.bipush 6, 2) := by decide +kernel
theorem dX11_init_41 : decode cX11_init 41 = .ok (.newarray .int, 2) := by decide +kernel
theorem dX11_init_43 : decode cX11_init 43 = .ok (.putfield 25, 3) := by decide +kernel
theorem dX11_init_46 : decode cX11_init 46 = .ok (.aload_n 0, 1) := by decide +kernel
theorem dX11_init_47 : decode cX11_init 47 = .ok (.bipush 8, 2) := by decide +kernel
theorem dX11_init_49 : decode cX11_init 49 = .ok (.anewarray 28, 3) := by decide +kernel
theorem dX11_init_52 : decode cX11_init 52 = .ok (.putfield 30, 3) := by decide +kernel
theorem dX11_init_55 : decode cX11_init 55 = .ok (.aload_n 0, 1) := by decide +kernel
theorem dX11_init_56 : decode cX11_init 56 = .ok (.bipush 8, 2) := by decide +kernel
theorem dX11_init_58 : decode cX11_init 58 = .ok (.anewarray 34, 3) := by decide +kernel
theorem dX11_init_61 : decode cX11_init 61 = .ok (.putfield 36, 3) := by decide +kernel
theorem dX11_init_64 : decode cX11_init 64 = .ok (.new 28, 3) := by decide +kernel
theorem dX11_init_67 : decode cX11_init 67 = .ok (.dup, 1) := by decide +kernel
theorem dX11_init_68 : decode cX11_init 68 = .ok (.iconst 0, 1) := by decide +kernel
theorem dX11_init_69 : decode cX11_init 69 = .ok (.invokespecial 40, 3) := by decide +kernel
theorem dX11_init_72 : decode cX11_init 72 = .ok (.astore_n 1, 1) := by decide +kernel
theorem dX11_init_73 : decode cX11_init 73 = .ok (.aload_n 0, 1) := by decide +kernel
theorem dX11_init_74 : decode cX11_init 74 = .ok (.new 9, 3) := by decide +kernel
theorem dX11_init_77 : decode cX11_init 77 = .ok (.dup, 1) := by decide +kernel
theorem dX11_init_78 : decode cX11_init 78 = .ok (.aload_n 1, 1) := by decide +kernel
theorem dX11_init_79 : decode cX11_init 79 = .ok (.invokespecial 43, 3) := by decide +kernel
theorem dX11_init_82 : decode cX11_init 82 = .ok (.putfield 46, 3) := by decide +kernel
theorem dX11_init_85 : decode cX11_init 85 = .ok (.aload_n 0, 1) := by decide +kernel
theorem dX11_init_86 : decode cX11_init 86 = .ok (.new 9, 3) := by decide +kernel
theorem dX11_init_89 : decode cX11_init 89 = .ok (.dup, 1) := by decide +kernel
theorem dX11_init_90 : decode cX11_init 90 = .ok (.aload_n 1, 1) := by decide +kernel
theorem dX11_init_91 : decode cX11_init 91 = .ok (.invokespecial 43, 3) := by decide +kernel
theorem dX11_init_94 : decode cX11_init 94 = .ok (.putfield 50, 3) := by decide +kernel
theorem dX11_init_97 : decode cX11_init 97 = .ok (.iconst 0, 1) := by decide +kernel
theorem dX11_init_98 : decode cX11_init 98 = .ok (.istore_n 2, 1) := by decide +kernel
theorem dX11_init_99 : decode cX11_init 99 = .ok (.iload_n 2, 1) := by decide +kernel
theorem dX11_init_100 : decode cX11_init 100 = .ok (.aload_n 0, 1) := by decide +kernel
theorem dX11_init_101 : decode cX11_init 101 = .ok (.getfield 11, 3) := by decide +kernel
theorem dX11_init_104 : decode cX11_init 104 = .ok (.arraylength, 1) := by decide +kernel
theorem dX11_init_105 : decode cX11_init 105 = .ok (.if_icmp .ge 23, 3) := by decide +kernel
theorem dX11_init_108 : decode cX11_init 108 = .ok (.aload_n 0, 1) := by decide +kernel
theorem dX11_init_109 : decode cX11_init 109 = .ok (.getfield 11, 3) := by decide +kernel
theorem dX11_init_112 : decode cX11_init 112 = .ok (.iload_n 2, 1) := by decide +kernel
theorem dX11_init_113 : decode cX11_init 113 = .ok (.new 9, 3) := by decide +kernel
theorem dX11_init_116 : decode cX11_init 116 = .ok (.dup, 1) := by decide +kernel
theorem dX11_init_117 : decode cX11_init 117 = .ok (.aload_n 1, 1) := by decide +kernel
theorem dX11_init_118 : decode cX11_init 118 = .ok (.invokespecial 43, 3) := by decide +kernel
theorem dX11_init_121 : decode cX11_init 121 = .ok (.aastore, 1) := by decide +kernel
theorem dX11_init_122 : decode cX11_init 122 = .ok (.iinc 2 1, 3) := by decide +kernel
theorem dX11_init_125 : decode cX11_init 125 = .ok (.goto (-26), 3) := by decide +kernel
theorem dX11_init_128 : decode cX11_init 128 = .ok (.aload_n 0, 1) := by decide +kernel
theorem dX11_init_129 : decode cX11_init 129 = .ok (.new 53, 3) := by decide +kernel
theorem dX11_init_132 : decode cX11_init 132 = .ok (.dup, 1) := by decide +kernel
theorem dX11_init_133 : decode cX11_init 133 = .ok (.aload_n 1, 1) := by decide +kernel
theorem dX11_init_134 : decode cX11_init 134 = .ok (.invokespecial 55, 3) := by decide +kernel
theorem dX11_init_137 : decode cX11_init 137 = .ok (.putfield 56, 3) := by decide +kernel
theorem dX11_init_140 : decode cX11_init 140 = .ok (.aload_n 0, 1) := by decide +kernel
theorem dX11_init_141 : decode cX11_init 141 = .ok (.new 53, 3) := by decide +kernel
theorem dX11_init_144 : decode cX11_init 144 = .ok (.dup, 1) := by decide +kernel
theorem dX11_init_145 : decode cX11_init 145 = .ok (.aload_n 1, 1) := by decide +kernel
theorem dX11_init_146 : decode cX11_init 146 = .ok (.invokespecial 55, 3) := by decide +kernel
theorem dX11_init_149 : decode cX11_init 149 = .ok (.putfield 60, 3) := by decide +kernel
theorem dX11_init_152 : decode cX11_init 152 = .ok (.return_, 1) := by decide +kernel
theorem dX11_bath_0 : decode cX11_bath 0 = .ok (.aload_n 0, 1) := by decide +kernel
theorem dX11_bath_1 : decode cX11_bath 1 = .ok (.iload_n 1, 1) := by decide +kernel
theorem dX11_bath_2 : decode cX11_bath 2 = .ok (.invokevirtual 63, 3) := by decide +kernel
theorem dX11_bath_5 : decode cX11_bath 5 = .ok (.astore_n 2, 1) := by decide +kernel
theorem dX11_bath_6 : decode cX11_bath 6 = .ok (.aload_n 2, 1) := by decide +kernel
theorem dX11_bath_7 : decode cX11_bath 7 = .ok (.ifnonnull 9, 3) := by decide +kernel
theorem dX11_bath_10 : decode cX11_bath 10 = .ok (.aload_n 0, 1) := by decide +kernel
theorem dX11_bath_11 : decode cX11_bath 11 = .ok (.iload_n 1, 1) := by decide +kernel
theorem dX11_bath_12 : decode cX11_bath 12 = .ok (.invokevirtual 67, 3) := by decide +kernel
theorem dX11_bath_15 : decode cX11_bath 15 = .ok (.ireturn, 1) := by decide +kernel
theorem dX11_bath_16 : decode cX11_bath 16 = .ok (.aload_n 2, 1) := by decide +kernel
theorem dX11_bath_17 : decode cX11_bath 17 = .ok (.getfield 71, 3) := by decide +kernel
theorem dX11_bath_20 : decode cX11_bath 20 = .ok (.ifCond .eq 6, 3) := by decide +kernel
theorem dX11_bath_23 : decode cX11_bath 23 = .ok (.bipush (-12), 2) := by decide +kernel
theorem dX11_bath_25 : decode cX11_bath 25 = .ok (.ireturn, 1) := by decide +kernel
theorem dX11_bath_26 : decode cX11_bath 26 = .ok (.aload_n 2, 1) := by decide +kernel
theorem dX11_bath_27 : decode cX11_bath 27 = .ok (.invokevirtual 75, 3) := by decide +kernel
theorem dX11_bath_30 : decode cX11_bath 30 = .ok (.istore_n 3, 1) := by decide +kernel
theorem dX11_bath_31 : decode cX11_bath 31 = .ok (.iload_n 3, 1) := by decide +kernel
theorem dX11_bath_32 : decode cX11_bath 32 = .ok (.iconst (-1), 1) := by decide +kernel
theorem dX11_bath_33 : decode cX11_bath 33 = .ok (.if_icmp .eq 9, 3) := by decide +kernel
theorem dX11_bath_36 : decode cX11_bath 36 = .ok (.sipush (-1000), 3) := by decide +kernel
theorem dX11_bath_39 : decode cX11_bath 39 = .ok (.iload_n 3, 1) := by decide +kernel
theorem dX11_bath_40 : decode cX11_bath 40 = .ok (.isub, 1) := by decide +kernel
theorem dX11_bath_41 : decode cX11_bath 41 = .ok (.ireturn, 1) := by decide +kernel
theorem dX11_bath_42 : decode cX11_bath 42 = .ok (.aload_n 0, 1) := by decide +kernel
theorem dX11_bath_43 : decode cX11_bath 43 = .ok (.invokevirtual 79, 3) := by decide +kernel
theorem dX11_bath_46 : decode cX11_bath 46 = .ok (.astore 4, 2) := by decide +kernel
theorem dX11_bath_48 : decode cX11_bath 48 = .ok (.iconst 0, 1) := by decide +kernel
theorem dX11_bath_49 : decode cX11_bath 49 = .ok (.istore 5, 2) := by decide +kernel
theorem dX11_bath_51 : decode cX11_bath 51 = .ok (.iconst 0, 1) := by decide +kernel
theorem dX11_bath_52 : decode cX11_bath 52 = .ok (.istore 6, 2) := by decide +kernel
theorem dX11_bath_54 : decode cX11_bath 54 = .ok (.iload 6, 2) := by decide +kernel
theorem dX11_bath_56 : decode cX11_bath 56 = .ok (.aload_n 2, 1) := by decide +kernel
theorem dX11_bath_57 : decode cX11_bath 57 = .ok (.invokevirtual 83, 3) := by decide +kernel
theorem dX11_bath_60 : decode cX11_bath 60 = .ok (.if_icmp .ge 43, 3) := by decide +kernel
theorem dX11_bath_63 : decode cX11_bath 63 = .ok (.aload 4, 2) := by decide +kernel
theorem dX11_bath_65 : decode cX11_bath 65 = .ok (.aload_n 2, 1) := by decide +kernel
theorem dX11_bath_66 : decode cX11_bath 66 = .ok (.iload 6, 2) := by decide +kernel
theorem dX11_bath_68 : decode cX11_bath 68 = .ok (.invokevirtual 86, 3) := by decide +kernel
theorem dX11_bath_71 : decode cX11_bath 71 = .ok (.ifCond .ne 10, 3) := by decide +kernel
theorem dX11_bath_74 : decode cX11_bath 74 = .ok (.sipush (-2000), 3) := by decide +kernel
theorem dX11_bath_77 : decode cX11_bath 77 = .ok (.iload 6, 2) := by decide +kernel
theorem dX11_bath_79 : decode cX11_bath 79 = .ok (.isub, 1) := by decide +kernel
theorem dX11_bath_80 : decode cX11_bath 80 = .ok (.ireturn, 1) := by decide +kernel
theorem dX11_bath_81 : decode cX11_bath 81 = .ok (.iinc 5 1, 3) := by decide +kernel
theorem dX11_bath_84 : decode cX11_bath 84 = .ok (.iload 6, 2) := by decide +kernel
theorem dX11_bath_86 : decode cX11_bath 86 = .ok (.aload_n 2, 1) := by decide +kernel
theorem dX11_bath_87 : decode cX11_bath 87 = .ok (.iload 6, 2) := by decide +kernel
theorem dX11_bath_89 : decode cX11_bath 89 = .ok (.invokevirtual 90, 3) := by decide +kernel
theorem dX11_bath_92 : decode cX11_bath 92 = .ok (.invokestatic 93, 3) := by decide +kernel
theorem dX11_bath_95 : decode cX11_bath 95 = .ok (.iconst 2, 1) := by decide +kernel
theorem dX11_bath_96 : decode cX11_bath 96 = .ok (.iadd, 1) := by decide +kernel
theorem dX11_bath_97 : decode cX11_bath 97 = .ok (.iadd, 1) := by decide +kernel
theorem dX11_bath_98 : decode cX11_bath 98 = .ok (.istore 6, 2) := by decide +kernel
theorem dX11_bath_100 : decode cX11_bath 100 = .ok (.goto (-46), 3) := by decide +kernel
theorem dX11_bath_103 : decode cX11_bath 103 = .ok (.aload_n 0, 1) := by decide +kernel
theorem dX11_bath_104 : decode cX11_bath 104 = .ok (.getfield 46, 3) := by decide +kernel
theorem dX11_bath_107 : decode cX11_bath 107 = .ok (.aload 4, 2) := by decide +kernel
theorem dX11_bath_109 : decode cX11_bath 109 = .ok (.invokevirtual 96, 3) := by decide +kernel
theorem dX11_bath_112 : decode cX11_bath 112 = .ok (.iload 5, 2) := by decide +kernel
theorem dX11_bath_114 : decode cX11_bath 114 = .ok (.ireturn, 1) := by decide +kernel
theorem dX11_child_0 : decode cX11_child 0 = .ok (.aload_n 0, 1) := by decide +kernel
theorem dX11_child_1 : decode cX11_child 1 = .ok (.getfield 46, 3) := by decide +kernel
theorem dX11_child_4 : decode cX11_child 4 = .ok (.iload_n 1, 1) := by decide +kernel
theorem dX11_child_5 : decode cX11_child 5 = .ok (.invokevirtual 100, 3) := by decide +kernel
theorem dX11_child_8 : decode cX11_child 8 = .ok (.ifCond .ne 5, 3) := by decide +kernel
theorem dX11_child_11 : decode cX11_child 11 = .ok (.iconst (-1), 1) := by decide +kernel
theorem dX11_child_12 : decode cX11_child 12 = .ok (.ireturn, 1) := by decide +kernel
theorem dX11_child_13 : decode cX11_child 13 = .ok (.aload_n 0, 1) := by decide +kernel
theorem dX11_child_14 : decode cX11_child 14 = .ok (.getfield 46, 3) := by decide +kernel
theorem dX11_child_17 : decode cX11_child 17 = .ok (.getfield 104, 3) := by decide +kernel
theorem dX11_child_20 : decode cX11_child 20 = .ok (.iload_n 1, 1) := by decide +kernel
theorem dX11_child_21 : decode cX11_child 21 = .ok (.aaload, 1) := by decide +kernel
theorem dX11_child_22 : decode cX11_child 22 = .ok (.astore_n 3, 1) := by decide +kernel
theorem dX11_child_23 : decode cX11_child 23 = .ok (.iload_n 2, 1) := by decide +kernel
theorem dX11_child_24 : decode cX11_child 24 = .ok (.tableswitch 124 0 9 #[56, 64, 72, 77, 82, 87, 95, 100, 108, 116], 56) := by decide +kernel
theorem dX11_child_80 : decode cX11_child 80 = .ok (.aload_n 3, 1) := by decide +kernel
theorem dX11_child_81 : decode cX11_child 81 = .ok (.getfield 108, 3) := by decide +kernel
theorem dX11_child_84 : decode cX11_child 84 = .ok (.getfield 112, 3) := by decide +kernel
theorem dX11_child_87 : decode cX11_child 87 = .ok (.ireturn, 1) := by decide +kernel
theorem dX11_child_88 : decode cX11_child 88 = .ok (.aload_n 3, 1) := by decide +kernel
theorem dX11_child_89 : decode cX11_child 89 = .ok (.getfield 108, 3) := by decide +kernel
theorem dX11_child_92 : decode cX11_child 92 = .ok (.getfield 115, 3) := by decide +kernel
theorem dX11_child_95 : decode cX11_child 95 = .ok (.ireturn, 1) := by decide +kernel
theorem dX11_child_96 : decode cX11_child 96 = .ok (.aload_n 3, 1) := by decide +kernel
theorem dX11_child_97 : decode cX11_child 97 = .ok (.getfield 118, 3) := by decide +kernel
theorem dX11_child_100 : decode cX11_child 100 = .ok (.ireturn, 1) := by decide +kernel
theorem dX11_child_101 : decode cX11_child 101 = .ok (.aload_n 3, 1) := by decide +kernel
theorem dX11_child_102 : decode cX11_child 102 = .ok (.getfield 121, 3) := by decide +kernel
theorem dX11_child_105 : decode cX11_child 105 = .ok (.ireturn, 1) := by decide +kernel
theorem dX11_child_106 : decode cX11_child 106 = .ok (.aload_n 3, 1) := by decide +kernel
theorem dX11_child_107 : decode cX11_child 107 = .ok (.getfield 124, 3) := by decide +kernel
theorem dX11_child_110 : decode cX11_child 110 = .ok (.ireturn, 1) := by decide +kernel
theorem dX11_child_111 : decode cX11_child 111 = .ok (.aload_n 3, 1) := by decide +kernel
theorem dX11_child_112 : decode cX11_child 112 = .ok (.getfield 108, 3) := by decide +kernel
theorem dX11_child_115 : decode cX11_child 115 = .ok (.getfield 127, 3) := by decide +kernel
theorem dX11_child_118 : decode cX11_child 118 = .ok (.ireturn, 1) := by decide +kernel
theorem dX11_child_119 : decode cX11_child 119 = .ok (.aload_n 3, 1) := by decide +kernel
theorem dX11_child_120 : decode cX11_child 120 = .ok (.invokevirtual 130, 3) := by decide +kernel
theorem dX11_child_123 : decode cX11_child 123 = .ok (.ireturn, 1) := by decide +kernel
theorem dX11_child_124 : decode cX11_child 124 = .ok (.aload_n 3, 1) := by decide +kernel
theorem dX11_child_125 : decode cX11_child 125 = .ok (.getfield 108, 3) := by decide +kernel
theorem dX11_child_128 : decode cX11_child 128 = .ok (.getfield 133, 3) := by decide +kernel
theorem dX11_child_131 : decode cX11_child 131 = .ok (.ireturn, 1) := by decide +kernel
theorem dX11_child_132 : decode cX11_child 132 = .ok (.aload_n 3, 1) := by decide +kernel
theorem dX11_child_133 : decode cX11_child 133 = .ok (.getfield 108, 3) := by decide +kernel
theorem dX11_child_136 : decode cX11_child 136 = .ok (.getfield 136, 3) := by decide +kernel
theorem dX11_child_139 : decode cX11_child 139 = .ok (.ireturn, 1) := by decide +kernel
theorem dX11_child_140 : decode cX11_child 140 = .ok (.aload_n 3, 1) := by decide +kernel
theorem dX11_child_141 : decode cX11_child 141 = .ok (.getfield 108, 3) := by decide +kernel
theorem dX11_child_144 : decode cX11_child 144 = .ok (.getfield 139, 3) := by decide +kernel
theorem dX11_child_147 : decode cX11_child 147 = .ok (.ireturn, 1) := by decide +kernel
theorem dX11_child_148 : decode cX11_child 148 = .ok (.iconst (-1), 1) := by decide +kernel
theorem dX11_child_149 : decode cX11_child 149 = .ok (.ireturn, 1) := by decide +kernel
theorem dX11_comes_0 : decode cX11_comes 0 = .ok (.iload_n 1, 1) := by decide +kernel
theorem dX11_comes_1 : decode cX11_comes 1 = .ok (.invokestatic 142, 3) := by decide +kernel
theorem dX11_comes_4 : decode cX11_comes 4 = .ok (.ifCond .eq 13, 3) := by decide +kernel
theorem dX11_comes_7 : decode cX11_comes 7 = .ok (.iload_n 2, 1) := by decide +kernel
theorem dX11_comes_8 : decode cX11_comes 8 = .ok (.iconst 0, 1) := by decide +kernel
theorem dX11_comes_9 : decode cX11_comes 9 = .ok (.bipush 20, 2) := by decide +kernel
theorem dX11_comes_11 : decode cX11_comes 11 = .ok (.invokestatic 145, 3) := by decide +kernel
theorem dX11_comes_14 : decode cX11_comes 14 = .ok (.ifCond .ne 5, 3) := by decide +kernel
theorem dX11_comes_17 : decode cX11_comes 17 = .ok (.iconst (-1), 1) := by decide +kernel
theorem dX11_comes_18 : decode cX11_comes 18 = .ok (.ireturn, 1) := by decide +kernel
theorem dX11_comes_19 : decode cX11_comes 19 = .ok (.aload_n 0, 1) := by decide +kernel
theorem dX11_comes_20 : decode cX11_comes 20 = .ok (.iload_n 1, 1) := by decide +kernel
theorem dX11_comes_21 : decode cX11_comes 21 = .ok (.invokevirtual 149, 3) := by decide +kernel
theorem dX11_comes_24 : decode cX11_comes 24 = .ok (.astore_n 3, 1) := by decide +kernel
theorem dX11_comes_25 : decode cX11_comes 25 = .ok (.aload_n 3, 1) := by decide +kernel
theorem dX11_comes_26 : decode cX11_comes 26 = .ok (.ifnonnull 9, 3) := by decide +kernel
theorem dX11_comes_29 : decode cX11_comes 29 = .ok (.aload_n 0, 1) := by decide +kernel
theorem dX11_comes_30 : decode cX11_comes 30 = .ok (.iload_n 1, 1) := by decide +kernel
theorem dX11_comes_31 : decode cX11_comes 31 = .ok (.invokevirtual 67, 3) := by decide +kernel
theorem dX11_comes_34 : decode cX11_comes 34 = .ok (.ireturn, 1) := by decide +kernel
theorem dX11_comes_35 : decode cX11_comes 35 = .ok (.aload_n 0, 1) := by decide +kernel
theorem dX11_comes_36 : decode cX11_comes 36 = .ok (.getfield 46, 3) := by decide +kernel
theorem dX11_comes_39 : decode cX11_comes 39 = .ok (.invokevirtual 153, 3) := by decide +kernel
theorem dX11_comes_42 : decode cX11_comes 42 = .ok (.ifCond .ne 6, 3) := by decide +kernel
theorem dX11_comes_45 : decode cX11_comes 45 = .ok (.bipush (-2), 2) := by decide +kernel
theorem dX11_comes_47 : decode cX11_comes 47 = .ok (.ireturn, 1) := by decide +kernel
theorem dX11_comes_48 : decode cX11_comes 48 = .ok (.aload_n 0, 1) := by decide +kernel
theorem dX11_comes_49 : decode cX11_comes 49 = .ok (.getfield 46, 3) := by decide +kernel
theorem dX11_comes_52 : decode cX11_comes 52 = .ok (.aload_n 3, 1) := by decide +kernel
theorem dX11_comes_53 : decode cX11_comes 53 = .ok (.iload_n 2, 1) := by decide +kernel
theorem dX11_comes_54 : decode cX11_comes 54 = .ok (.invokevirtual 157, 3) := by decide +kernel
theorem dX11_comes_57 : decode cX11_comes 57 = .ok (.aload_n 0, 1) := by decide +kernel
theorem dX11_comes_58 : decode cX11_comes 58 = .ok (.getfield 46, 3) := by decide +kernel
theorem dX11_comes_61 : decode cX11_comes 61 = .ok (.getfield 161, 3) := by decide +kernel
theorem dX11_comes_64 : decode cX11_comes 64 = .ok (.iconst 1, 1) := by decide +kernel
theorem dX11_comes_65 : decode cX11_comes 65 = .ok (.isub, 1) := by decide +kernel
theorem dX11_comes_66 : decode cX11_comes 66 = .ok (.ireturn, 1) := by decide +kernel
theorem dX11_feels_0 : decode cX11_feels 0 = .ok (.aload_n 0, 1) := by decide +kernel
theorem dX11_feels_1 : decode cX11_feels 1 = .ok (.getfield 46, 3) := by decide +kernel
theorem dX11_feels_4 : decode cX11_feels 4 = .ok (.iload_n 1, 1) := by decide +kernel
theorem dX11_feels_5 : decode cX11_feels 5 = .ok (.invokevirtual 100, 3) := by decide +kernel
theorem dX11_feels_8 : decode cX11_feels 8 = .ok (.ifCond .ne 5, 3) := by decide +kernel
theorem dX11_feels_11 : decode cX11_feels 11 = .ok (.iconst (-1), 1) := by decide +kernel
theorem dX11_feels_12 : decode cX11_feels 12 = .ok (.ireturn, 1) := by decide +kernel
theorem dX11_feels_13 : decode cX11_feels 13 = .ok (.aload_n 0, 1) := by decide +kernel
theorem dX11_feels_14 : decode cX11_feels 14 = .ok (.getfield 46, 3) := by decide +kernel
theorem dX11_feels_17 : decode cX11_feels 17 = .ok (.getfield 104, 3) := by decide +kernel
theorem dX11_feels_20 : decode cX11_feels 20 = .ok (.iload_n 1, 1) := by decide +kernel
theorem dX11_feels_21 : decode cX11_feels 21 = .ok (.aaload, 1) := by decide +kernel
theorem dX11_feels_22 : decode cX11_feels 22 = .ok (.astore 4, 2) := by decide +kernel
theorem dX11_feels_24 : decode cX11_feels 24 = .ok (.iload_n 2, 1) := by decide +kernel
theorem dX11_feels_25 : decode cX11_feels 25 = .ok (.ifCond .ne 11, 3) := by decide +kernel
theorem dX11_feels_28 : decode cX11_feels 28 = .ok (.aload 4, 2) := by decide +kernel
theorem dX11_feels_30 : decode cX11_feels 30 = .ok (.getfield 118, 3) := by decide +kernel
theorem dX11_feels_33 : decode cX11_feels 33 = .ok (.goto 8, 3) := by decide +kernel
theorem dX11_feels_36 : decode cX11_feels 36 = .ok (.aload 4, 2) := by decide +kernel
theorem dX11_feels_38 : decode cX11_feels 38 = .ok (.getfield 121, 3) := by decide +kernel
theorem dX11_feels_41 : decode cX11_feels 41 = .ok (.istore 5, 2) := by decide +kernel
theorem dX11_feels_43 : decode cX11_feels 43 = .ok (.iload_n 2, 1) := by decide +kernel
theorem dX11_feels_44 : decode cX11_feels 44 = .ok (.ifCond .ne 22, 3) := by decide +kernel
theorem dX11_feels_47 : decode cX11_feels 47 = .ok (.iload_n 3, 1) := by decide +kernel
theorem dX11_feels_48 : decode cX11_feels 48 = .ok (.iconst 0, 1) := by decide +kernel
theorem dX11_feels_49 : decode cX11_feels 49 = .ok (.bipush 20, 2) := by decide +kernel
theorem dX11_feels_51 : decode cX11_feels 51 = .ok (.invokestatic 145, 3) := by decide +kernel
theorem dX11_feels_54 : decode cX11_feels 54 = .ok (.ifCond .eq 12, 3) := by decide +kernel
theorem dX11_feels_57 : decode cX11_feels 57 = .ok (.aload 4, 2) := by decide +kernel
theorem dX11_feels_59 : decode cX11_feels 59 = .ok (.iload_n 3, 1) := by decide +kernel
theorem dX11_feels_60 : decode cX11_feels 60 = .ok (.putfield 118, 3) := by decide +kernel
theorem dX11_feels_63 : decode cX11_feels 63 = .ok (.iload 5, 2) := by decide +kernel
theorem dX11_feels_65 : decode cX11_feels 65 = .ok (.ireturn, 1) := by decide +kernel
theorem dX11_feels_66 : decode cX11_feels 66 = .ok (.iload_n 2, 1) := by decide +kernel
theorem dX11_feels_67 : decode cX11_feels 67 = .ok (.iconst 1, 1) := by decide +kernel
theorem dX11_feels_68 : decode cX11_feels 68 = .ok (.if_icmp .ne 22, 3) := by decide +kernel
theorem dX11_feels_71 : decode cX11_feels 71 = .ok (.iload_n 3, 1) := by decide +kernel
theorem dX11_feels_72 : decode cX11_feels 72 = .ok (.iconst 0, 1) := by decide +kernel
theorem dX11_feels_73 : decode cX11_feels 73 = .ok (.bipush 7, 2) := by decide +kernel
theorem dX11_feels_75 : decode cX11_feels 75 = .ok (.invokestatic 145, 3) := by decide +kernel
theorem dX11_feels_78 : decode cX11_feels 78 = .ok (.ifCond .eq 12, 3) := by decide +kernel
theorem dX11_feels_81 : decode cX11_feels 81 = .ok (.aload 4, 2) := by decide +kernel
theorem dX11_feels_83 : decode cX11_feels 83 = .ok (.iload_n 3, 1) := by decide +kernel
theorem dX11_feels_84 : decode cX11_feels 84 = .ok (.putfield 121, 3) := by decide +kernel
theorem dX11_feels_87 : decode cX11_feels 87 = .ok (.iload 5, 2) := by decide +kernel
theorem dX11_feels_89 : decode cX11_feels 89 = .ok (.ireturn, 1) := by decide +kernel
theorem dX11_feels_90 : decode cX11_feels 90 = .ok (.iconst (-1), 1) := by decide +kernel
theorem dX11_feels_91 : decode cX11_feels 91 = .ok (.ireturn, 1) := by decide +kernel
theorem dX11_minute_0 : decode cX11_minute 0 = .ok (.aload_n 0, 1) := by decide +kernel
theorem dX11_minute_1 : decode cX11_minute 1 = .ok (.getfield 46, 3) := by decide +kernel
theorem dX11_minute_4 : decode cX11_minute 4 = .ok (.iload_n 1, 1) := by decide +kernel
theorem dX11_minute_5 : decode cX11_minute 5 = .ok (.invokevirtual 100, 3) := by decide +kernel
theorem dX11_minute_8 : decode cX11_minute 8 = .ok (.ifCond .eq 12, 3) := by decide +kernel
theorem dX11_minute_11 : decode cX11_minute 11 = .ok (.iload_n 2, 1) := by decide +kernel
theorem dX11_minute_12 : decode cX11_minute 12 = .ok (.iconst 0, 1) := by decide +kernel
theorem dX11_minute_13 : decode cX11_minute 13 = .ok (.iconst 3, 1) := by decide +kernel
theorem dX11_minute_14 : decode cX11_minute 14 = .ok (.invokestatic 145, 3) := by decide +kernel
theorem dX11_minute_17 : decode cX11_minute 17 = .ok (.ifCond .ne 5, 3) := by decide +kernel
theorem dX11_minute_20 : decode cX11_minute 20 = .ok (.iconst (-1), 1) := by decide +kernel
theorem dX11_minute_21 : decode cX11_minute 21 = .ok (.ireturn, 1) := by decide +kernel
theorem dX11_minute_22 : decode cX11_minute 22 = .ok (.aload_n 0, 1) := by decide +kernel
theorem dX11_minute_23 : decode cX11_minute 23 = .ok (.getfield 46, 3) := by decide +kernel
theorem dX11_minute_26 : decode cX11_minute 26 = .ok (.getfield 104, 3) := by decide +kernel
theorem dX11_minute_29 : decode cX11_minute 29 = .ok (.iload_n 1, 1) := by decide +kernel
theorem dX11_minute_30 : decode cX11_minute 30 = .ok (.aaload, 1) := by decide +kernel
theorem dX11_minute_31 : decode cX11_minute 31 = .ok (.invokevirtual 163, 3) := by decide +kernel
theorem dX11_minute_34 : decode cX11_minute 34 = .ok (.ifCond .ne 16, 3) := by decide +kernel
theorem dX11_minute_37 : decode cX11_minute 37 = .ok (.aload_n 0, 1) := by decide +kernel
theorem dX11_minute_38 : decode cX11_minute 38 = .ok (.getfield 46, 3) := by decide +kernel
theorem dX11_minute_41 : decode cX11_minute 41 = .ok (.getfield 166, 3) := by decide +kernel
theorem dX11_minute_44 : decode cX11_minute 44 = .ok (.sipush 999, 3) := by decide +kernel
theorem dX11_minute_47 : decode cX11_minute 47 = .ok (.if_icmp .lt 6, 3) := by decide +kernel
theorem dX11_minute_50 : decode cX11_minute 50 = .ok (.bipush (-3), 2) := by decide +kernel
theorem dX11_minute_52 : decode cX11_minute 52 = .ok (.ireturn, 1) := by decide +kernel
theorem dX11_minute_53 : decode cX11_minute 53 = .ok (.aload_n 0, 1) := by decide +kernel
theorem dX11_minute_54 : decode cX11_minute 54 = .ok (.getfield 46, 3) := by decide +kernel
theorem dX11_minute_57 : decode cX11_minute 57 = .ok (.iload_n 1, 1) := by decide +kernel
theorem dX11_minute_58 : decode cX11_minute 58 = .ok (.iload_n 2, 1) := by decide +kernel
theorem dX11_minute_59 : decode cX11_minute 59 = .ok (.invokevirtual 169, 3) := by decide +kernel
theorem dX11_minute_62 : decode cX11_minute 62 = .ok (.pop, 1) := by decide +kernel
theorem dX11_minute_63 : decode cX11_minute 63 = .ok (.aload_n 0, 1) := by decide +kernel
theorem dX11_minute_64 : decode cX11_minute 64 = .ok (.getfield 46, 3) := by decide +kernel
theorem dX11_minute_67 : decode cX11_minute 67 = .ok (.getfield 104, 3) := by decide +kernel
theorem dX11_minute_70 : decode cX11_minute 70 = .ok (.iload_n 1, 1) := by decide +kernel
theorem dX11_minute_71 : decode cX11_minute 71 = .ok (.aaload, 1) := by decide +kernel
theorem dX11_minute_72 : decode cX11_minute 72 = .ok (.getfield 118, 3) := by decide +kernel
theorem dX11_minute_75 : decode cX11_minute 75 = .ok (.ireturn, 1) := by decide +kernel
theorem dX11_change_0 : decode cX11_change 0 = .ok (.aload_n 0, 1) := by decide +kernel
theorem dX11_change_1 : decode cX11_change 1 = .ok (.getfield 46, 3) := by decide +kernel
theorem dX11_change_4 : decode cX11_change 4 = .ok (.iload_n 1, 1) := by decide +kernel
theorem dX11_change_5 : decode cX11_change 5 = .ok (.iload_n 2, 1) := by decide +kernel
theorem dX11_change_6 : decode cX11_change 6 = .ok (.invokevirtual 173, 3) := by decide +kernel
theorem dX11_change_9 : decode cX11_change 9 = .ok (.ifCond .ne 5, 3) := by decide +kernel
theorem dX11_change_12 : decode cX11_change 12 = .ok (.iconst (-1), 1) := by decide +kernel
theorem dX11_change_13 : decode cX11_change 13 = .ok (.ireturn, 1) := by decide +kernel
theorem dX11_change_14 : decode cX11_change 14 = .ok (.aload_n 0, 1) := by decide +kernel
theorem dX11_change_15 : decode cX11_change 15 = .ok (.getfield 46, 3) := by decide +kernel
theorem dX11_change_18 : decode cX11_change 18 = .ok (.iload_n 1, 1) := by decide +kernel
theorem dX11_change_19 : decode cX11_change 19 = .ok (.iload_n 2, 1) := by decide +kernel
theorem dX11_change_20 : decode cX11_change 20 = .ok (.invokevirtual 176, 3) := by decide +kernel
theorem dX11_change_23 : decode cX11_change 23 = .ok (.iconst 1, 1) := by decide +kernel
theorem dX11_change_24 : decode cX11_change 24 = .ok (.ireturn, 1) := by decide +kernel
theorem dX11_rest_0 : decode cX11_rest 0 = .ok (.iload_n 1, 1) := by decide +kernel
theorem dX11_rest_1 : decode cX11_rest 1 = .ok (.iconst 0, 1) := by decide +kernel
theorem dX11_rest_2 : decode cX11_rest 2 = .ok (.bipush 9, 2) := by decide +kernel
theorem dX11_rest_4 : decode cX11_rest 4 = .ok (.invokestatic 145, 3) := by decide +kernel
theorem dX11_rest_7 : decode cX11_rest 7 = .ok (.ifCond .ne 5, 3) := by decide +kernel
theorem dX11_rest_10 : decode cX11_rest 10 = .ok (.iconst (-1), 1) := by decide +kernel
theorem dX11_rest_11 : decode cX11_rest 11 = .ok (.ireturn, 1) := by decide +kernel
theorem dX11_rest_12 : decode cX11_rest 12 = .ok (.aload_n 0, 1) := by decide +kernel
theorem dX11_rest_13 : decode cX11_rest 13 = .ok (.getfield 46, 3) := by decide +kernel
theorem dX11_rest_16 : decode cX11_rest 16 = .ok (.iload_n 1, 1) := by decide +kernel
theorem dX11_rest_17 : decode cX11_rest 17 = .ok (.invokevirtual 180, 3) := by decide +kernel
theorem dX11_rest_20 : decode cX11_rest 20 = .ok (.aload_n 0, 1) := by decide +kernel
theorem dX11_rest_21 : decode cX11_rest 21 = .ok (.getfield 46, 3) := by decide +kernel
theorem dX11_rest_24 : decode cX11_rest 24 = .ok (.invokevirtual 183, 3) := by decide +kernel
theorem dX11_rest_27 : decode cX11_rest 27 = .ok (.ireturn, 1) := by decide +kernel
theorem dX11_ready_0 : decode cX11_ready 0 = .ok (.aload_n 0, 1) := by decide +kernel
theorem dX11_ready_1 : decode cX11_ready 1 = .ok (.getfield 46, 3) := by decide +kernel
theorem dX11_ready_4 : decode cX11_ready 4 = .ok (.invokevirtual 186, 3) := by decide +kernel
theorem dX11_ready_7 : decode cX11_ready 7 = .ok (.ireturn, 1) := by decide +kernel
theorem dX11_alone_0 : decode cX11_alone 0 = .ok (.aload_n 0, 1) := by decide +kernel
theorem dX11_alone_1 : decode cX11_alone 1 = .ok (.getfield 46, 3) := by decide +kernel
theorem dX11_alone_4 : decode cX11_alone 4 = .ok (.iload_n 1, 1) := by decide +kernel
theorem dX11_alone_5 : decode cX11_alone 5 = .ok (.invokevirtual 100, 3) := by decide +kernel
theorem dX11_alone_8 : decode cX11_alone 8 = .ok (.ifCond .eq 12, 3) := by decide +kernel
theorem dX11_alone_11 : decode cX11_alone 11 = .ok (.iload_n 2, 1) := by decide +kernel
theorem dX11_alone_12 : decode cX11_alone 12 = .ok (.iconst 0, 1) := by decide +kernel
theorem dX11_alone_13 : decode cX11_alone 13 = .ok (.iconst 1, 1) := by decide +kernel
theorem dX11_alone_14 : decode cX11_alone 14 = .ok (.invokestatic 145, 3) := by decide +kernel
theorem dX11_alone_17 : decode cX11_alone 17 = .ok (.ifCond .ne 5, 3) := by decide +kernel
theorem dX11_alone_20 : decode cX11_alone 20 = .ok (.iconst (-1), 1) := by decide +kernel
theorem dX11_alone_21 : decode cX11_alone 21 = .ok (.ireturn, 1) := by decide +kernel
theorem dX11_alone_22 : decode cX11_alone 22 = .ok (.aload_n 0, 1) := by decide +kernel
theorem dX11_alone_23 : decode cX11_alone 23 = .ok (.aload_n 0, 1) := by decide +kernel
theorem dX11_alone_24 : decode cX11_alone 24 = .ok (.getfield 46, 3) := by decide +kernel
theorem dX11_alone_27 : decode cX11_alone 27 = .ok (.getfield 104, 3) := by decide +kernel
theorem dX11_alone_30 : decode cX11_alone 30 = .ok (.iload_n 1, 1) := by decide +kernel
theorem dX11_alone_31 : decode cX11_alone 31 = .ok (.aaload, 1) := by decide +kernel
theorem dX11_alone_32 : decode cX11_alone 32 = .ok (.iconst 0, 1) := by decide +kernel
theorem dX11_alone_33 : decode cX11_alone 33 = .ok (.invokevirtual 189, 3) := by decide +kernel
theorem dX11_alone_36 : decode cX11_alone 36 = .ok (.istore_n 3, 1) := by decide +kernel
theorem dX11_alone_37 : decode cX11_alone 37 = .ok (.iload_n 2, 1) := by decide +kernel
theorem dX11_alone_38 : decode cX11_alone 38 = .ok (.ifCond .ne 7, 3) := by decide +kernel
theorem dX11_alone_41 : decode cX11_alone 41 = .ok (.iload_n 3, 1) := by decide +kernel
theorem dX11_alone_42 : decode cX11_alone 42 = .ok (.goto 17, 3) := by decide +kernel
theorem dX11_alone_45 : decode cX11_alone 45 = .ok (.aload_n 0, 1) := by decide +kernel
theorem dX11_alone_46 : decode cX11_alone 46 = .ok (.aload_n 0, 1) := by decide +kernel
theorem dX11_alone_47 : decode cX11_alone 47 = .ok (.getfield 46, 3) := by decide +kernel
theorem dX11_alone_50 : decode cX11_alone 50 = .ok (.getfield 104, 3) := by decide +kernel
theorem dX11_alone_53 : decode cX11_alone 53 = .ok (.iload_n 1, 1) := by decide +kernel
theorem dX11_alone_54 : decode cX11_alone 54 = .ok (.aaload, 1) := by decide +kernel
theorem dX11_alone_55 : decode cX11_alone 55 = .ok (.iload_n 3, 1) := by decide +kernel
theorem dX11_alone_56 : decode cX11_alone 56 = .ok (.invokevirtual 193, 3) := by decide +kernel
theorem dX11_alone_59 : decode cX11_alone 59 = .ok (.ireturn, 1) := by decide +kernel
theorem dX11_neverHeld_0 : decode cX11_neverHeld 0 = .ok (.aload_n 0, 1) := by decide +kernel
theorem dX11_neverHeld_1 : decode cX11_neverHeld 1 = .ok (.getfield 46, 3) := by decide +kernel
theorem dX11_neverHeld_4 : decode cX11_neverHeld 4 = .ok (.iload_n 1, 1) := by decide +kernel
theorem dX11_neverHeld_5 : decode cX11_neverHeld 5 = .ok (.invokevirtual 100, 3) := by decide +kernel
theorem dX11_neverHeld_8 : decode cX11_neverHeld 8 = .ok (.ifCond .eq 20, 3) := by decide +kernel
theorem dX11_neverHeld_11 : decode cX11_neverHeld 11 = .ok (.aload_n 0, 1) := by decide +kernel
theorem dX11_neverHeld_12 : decode cX11_neverHeld 12 = .ok (.aload_n 0, 1) := by decide +kernel
theorem dX11_neverHeld_13 : decode cX11_neverHeld 13 = .ok (.getfield 46, 3) := by decide +kernel
theorem dX11_neverHeld_16 : decode cX11_neverHeld 16 = .ok (.getfield 104, 3) := by decide +kernel
theorem dX11_neverHeld_19 : decode cX11_neverHeld 19 = .ok (.iload_n 1, 1) := by decide +kernel
theorem dX11_neverHeld_20 : decode cX11_neverHeld 20 = .ok (.aaload, 1) := by decide +kernel
theorem dX11_neverHeld_21 : decode cX11_neverHeld 21 = .ok (.iconst 1, 1) := by decide +kernel
theorem dX11_neverHeld_22 : decode cX11_neverHeld 22 = .ok (.invokevirtual 189, 3) := by decide +kernel
theorem dX11_neverHeld_25 : decode cX11_neverHeld 25 = .ok (.goto 4, 3) := by decide +kernel
theorem dX11_neverHeld_28 : decode cX11_neverHeld 28 = .ok (.iconst (-1), 1) := by decide +kernel
theorem dX11_neverHeld_29 : decode cX11_neverHeld 29 = .ok (.ireturn, 1) := by decide +kernel
theorem dX11_mostSteps_0 : decode cX11_mostSteps 0 = .ok (.iload_n 1, 1) := by decide +kernel
theorem dX11_mostSteps_1 : decode cX11_mostSteps 1 = .ok (.iconst 0, 1) := by decide +kernel
theorem dX11_mostSteps_2 : decode cX11_mostSteps 2 = .ok (.iconst 3, 1) := by decide +kernel
theorem dX11_mostSteps_3 : decode cX11_mostSteps 3 = .ok (.invokestatic 145, 3) := by decide +kernel
theorem dX11_mostSteps_6 : decode cX11_mostSteps 6 = .ok (.ifCond .eq 12, 3) := by decide +kernel
theorem dX11_mostSteps_9 : decode cX11_mostSteps 9 = .ok (.iload_n 2, 1) := by decide +kernel
theorem dX11_mostSteps_10 : decode cX11_mostSteps 10 = .ok (.iconst 0, 1) := by decide +kernel
theorem dX11_mostSteps_11 : decode cX11_mostSteps 11 = .ok (.iconst 1, 1) := by decide +kernel
theorem dX11_mostSteps_12 : decode cX11_mostSteps 12 = .ok (.invokestatic 145, 3) := by decide +kernel
theorem dX11_mostSteps_15 : decode cX11_mostSteps 15 = .ok (.ifCond .ne 5, 3) := by decide +kernel
theorem dX11_mostSteps_18 : decode cX11_mostSteps 18 = .ok (.iconst (-1), 1) := by decide +kernel
theorem dX11_mostSteps_19 : decode cX11_mostSteps 19 = .ok (.ireturn, 1) := by decide +kernel
theorem dX11_mostSteps_20 : decode cX11_mostSteps 20 = .ok (.aload_n 0, 1) := by decide +kernel
theorem dX11_mostSteps_21 : decode cX11_mostSteps 21 = .ok (.invokevirtual 79, 3) := by decide +kernel
theorem dX11_mostSteps_24 : decode cX11_mostSteps 24 = .ok (.pop, 1) := by decide +kernel
theorem dX11_mostSteps_25 : decode cX11_mostSteps 25 = .ok (.aload_n 0, 1) := by decide +kernel
theorem dX11_mostSteps_26 : decode cX11_mostSteps 26 = .ok (.iconst 0, 1) := by decide +kernel
theorem dX11_mostSteps_27 : decode cX11_mostSteps 27 = .ok (.iload_n 1, 1) := by decide +kernel
theorem dX11_mostSteps_28 : decode cX11_mostSteps 28 = .ok (.invokevirtual 196, 3) := by decide +kernel
theorem dX11_mostSteps_31 : decode cX11_mostSteps 31 = .ok (.istore_n 3, 1) := by decide +kernel
theorem dX11_mostSteps_32 : decode cX11_mostSteps 32 = .ok (.iload_n 2, 1) := by decide +kernel
theorem dX11_mostSteps_33 : decode cX11_mostSteps 33 = .ok (.ifCond .ne 7, 3) := by decide +kernel
theorem dX11_mostSteps_36 : decode cX11_mostSteps 36 = .ok (.iload_n 3, 1) := by decide +kernel
theorem dX11_mostSteps_37 : decode cX11_mostSteps 37 = .ok (.goto 9, 3) := by decide +kernel
theorem dX11_mostSteps_40 : decode cX11_mostSteps 40 = .ok (.aload_n 0, 1) := by decide +kernel
theorem dX11_mostSteps_41 : decode cX11_mostSteps 41 = .ok (.iload_n 3, 1) := by decide +kernel
theorem dX11_mostSteps_42 : decode cX11_mostSteps 42 = .ok (.iload_n 1, 1) := by decide +kernel
theorem dX11_mostSteps_43 : decode cX11_mostSteps 43 = .ok (.invokevirtual 200, 3) := by decide +kernel
theorem dX11_mostSteps_46 : decode cX11_mostSteps 46 = .ok (.ireturn, 1) := by decide +kernel
theorem dX11_byTurns_0 : decode cX11_byTurns 0 = .ok (.iload_n 1, 1) := by decide +kernel
theorem dX11_byTurns_1 : decode cX11_byTurns 1 = .ok (.iconst 0, 1) := by decide +kernel
theorem dX11_byTurns_2 : decode cX11_byTurns 2 = .ok (.bipush 99, 2) := by decide +kernel
theorem dX11_byTurns_4 : decode cX11_byTurns 4 = .ok (.invokestatic 145, 3) := by decide +kernel
theorem dX11_byTurns_7 : decode cX11_byTurns 7 = .ok (.ifCond .eq 12, 3) := by decide +kernel
theorem dX11_byTurns_10 : decode cX11_byTurns 10 = .ok (.iload_n 2, 1) := by decide +kernel
theorem dX11_byTurns_11 : decode cX11_byTurns 11 = .ok (.iconst 0, 1) := by decide +kernel
theorem dX11_byTurns_12 : decode cX11_byTurns 12 = .ok (.iconst 1, 1) := by decide +kernel
theorem dX11_byTurns_13 : decode cX11_byTurns 13 = .ok (.invokestatic 145, 3) := by decide +kernel
theorem dX11_byTurns_16 : decode cX11_byTurns 16 = .ok (.ifCond .ne 5, 3) := by decide +kernel
theorem dX11_byTurns_19 : decode cX11_byTurns 19 = .ok (.iconst (-1), 1) := by decide +kernel
theorem dX11_byTurns_20 : decode cX11_byTurns 20 = .ok (.ireturn, 1) := by decide +kernel
theorem dX11_byTurns_21 : decode cX11_byTurns 21 = .ok (.aload_n 0, 1) := by decide +kernel
theorem dX11_byTurns_22 : decode cX11_byTurns 22 = .ok (.invokevirtual 79, 3) := by decide +kernel
theorem dX11_byTurns_25 : decode cX11_byTurns 25 = .ok (.astore_n 3, 1) := by decide +kernel
theorem dX11_byTurns_26 : decode cX11_byTurns 26 = .ok (.iconst 0, 1) := by decide +kernel
theorem dX11_byTurns_27 : decode cX11_byTurns 27 = .ok (.istore 4, 2) := by decide +kernel
theorem dX11_byTurns_29 : decode cX11_byTurns 29 = .ok (.iconst 0, 1) := by decide +kernel
theorem dX11_byTurns_30 : decode cX11_byTurns 30 = .ok (.istore 5, 2) := by decide +kernel
theorem dX11_byTurns_32 : decode cX11_byTurns 32 = .ok (.iload 5, 2) := by decide +kernel
theorem dX11_byTurns_34 : decode cX11_byTurns 34 = .ok (.iload_n 1, 1) := by decide +kernel
theorem dX11_byTurns_35 : decode cX11_byTurns 35 = .ok (.if_icmp .ge 19, 3) := by decide +kernel
theorem dX11_byTurns_38 : decode cX11_byTurns 38 = .ok (.aload_n 3, 1) := by decide +kernel
theorem dX11_byTurns_39 : decode cX11_byTurns 39 = .ok (.invokevirtual 203, 3) := by decide +kernel
theorem dX11_byTurns_42 : decode cX11_byTurns 42 = .ok (.ifCond .ne 6, 3) := by decide +kernel
theorem dX11_byTurns_45 : decode cX11_byTurns 45 = .ok (.iinc 4 1, 3) := by decide +kernel
theorem dX11_byTurns_48 : decode cX11_byTurns 48 = .ok (.iinc 5 1, 3) := by decide +kernel
theorem dX11_byTurns_51 : decode cX11_byTurns 51 = .ok (.goto (-19), 3) := by decide +kernel
theorem dX11_byTurns_54 : decode cX11_byTurns 54 = .ok (.iload_n 2, 1) := by decide +kernel
theorem dX11_byTurns_55 : decode cX11_byTurns 55 = .ok (.ifCond .ne 13, 3) := by decide +kernel
theorem dX11_byTurns_58 : decode cX11_byTurns 58 = .ok (.aload_n 3, 1) := by decide +kernel
theorem dX11_byTurns_59 : decode cX11_byTurns 59 = .ok (.invokevirtual 206, 3) := by decide +kernel
theorem dX11_byTurns_62 : decode cX11_byTurns 62 = .ok (.invokestatic 209, 3) := by decide +kernel
theorem dX11_byTurns_65 : decode cX11_byTurns 65 = .ok (.goto 5, 3) := by decide +kernel
theorem dX11_byTurns_68 : decode cX11_byTurns 68 = .ok (.iload 4, 2) := by decide +kernel
theorem dX11_byTurns_70 : decode cX11_byTurns 70 = .ok (.ireturn, 1) := by decide +kernel
theorem dX11_allSwim_0 : decode cX11_allSwim 0 = .ok (.aload_n 0, 1) := by decide +kernel
theorem dX11_allSwim_1 : decode cX11_allSwim 1 = .ok (.invokevirtual 79, 3) := by decide +kernel
theorem dX11_allSwim_4 : decode cX11_allSwim 4 = .ok (.astore_n 1, 1) := by decide +kernel
theorem dX11_allSwim_5 : decode cX11_allSwim 5 = .ok (.iconst 0, 1) := by decide +kernel
theorem dX11_allSwim_6 : decode cX11_allSwim 6 = .ok (.istore_n 2, 1) := by decide +kernel
theorem dX11_allSwim_7 : decode cX11_allSwim 7 = .ok (.iload_n 2, 1) := by decide +kernel
theorem dX11_allSwim_8 : decode cX11_allSwim 8 = .ok (.bipush 99, 2) := by decide +kernel
theorem dX11_allSwim_10 : decode cX11_allSwim 10 = .ok (.if_icmp .gt 20, 3) := by decide +kernel
theorem dX11_allSwim_13 : decode cX11_allSwim 13 = .ok (.aload_n 1, 1) := by decide +kernel
theorem dX11_allSwim_14 : decode cX11_allSwim 14 = .ok (.invokevirtual 203, 3) := by decide +kernel
theorem dX11_allSwim_17 : decode cX11_allSwim 17 = .ok (.bipush (-4), 2) := by decide +kernel
theorem dX11_allSwim_19 : decode cX11_allSwim 19 = .ok (.if_icmp .ne 5, 3) := by decide +kernel
theorem dX11_allSwim_22 : decode cX11_allSwim 22 = .ok (.iload_n 2, 1) := by decide +kernel
theorem dX11_allSwim_23 : decode cX11_allSwim 23 = .ok (.ireturn, 1) := by decide +kernel
theorem dX11_allSwim_24 : decode cX11_allSwim 24 = .ok (.iinc 2 1, 3) := by decide +kernel
theorem dX11_allSwim_27 : decode cX11_allSwim 27 = .ok (.goto (-20), 3) := by decide +kernel
theorem dX11_allSwim_30 : decode cX11_allSwim 30 = .ok (.bipush (-4), 2) := by decide +kernel
theorem dX11_allSwim_32 : decode cX11_allSwim 32 = .ok (.ireturn, 1) := by decide +kernel
theorem dX11_beside_0 : decode cX11_beside 0 = .ok (.iload_n 1, 1) := by decide +kernel
theorem dX11_beside_1 : decode cX11_beside 1 = .ok (.iconst (-1), 1) := by decide +kernel
theorem dX11_beside_2 : decode cX11_beside 2 = .ok (.if_icmp .lt 14, 3) := by decide +kernel
theorem dX11_beside_5 : decode cX11_beside 5 = .ok (.iload_n 1, 1) := by decide +kernel
theorem dX11_beside_6 : decode cX11_beside 6 = .ok (.aload_n 0, 1) := by decide +kernel
theorem dX11_beside_7 : decode cX11_beside 7 = .ok (.getfield 46, 3) := by decide +kernel
theorem dX11_beside_10 : decode cX11_beside 10 = .ok (.getfield 161, 3) := by decide +kernel
theorem dX11_beside_13 : decode cX11_beside 13 = .ok (.if_icmp .lt 5, 3) := by decide +kernel
theorem dX11_beside_16 : decode cX11_beside 16 = .ok (.iconst (-1), 1) := by decide +kernel
theorem dX11_beside_17 : decode cX11_beside 17 = .ok (.ireturn, 1) := by decide +kernel
theorem dX11_beside_18 : decode cX11_beside 18 = .ok (.aload_n 0, 1) := by decide +kernel
theorem dX11_beside_19 : decode cX11_beside 19 = .ok (.iconst (-1), 1) := by decide +kernel
theorem dX11_beside_20 : decode cX11_beside 20 = .ok (.putfield 214, 3) := by decide +kernel
theorem dX11_beside_23 : decode cX11_beside 23 = .ok (.aload_n 0, 1) := by decide +kernel
theorem dX11_beside_24 : decode cX11_beside 24 = .ok (.iconst 0, 1) := by decide +kernel
theorem dX11_beside_25 : decode cX11_beside 25 = .ok (.iconst 0, 1) := by decide +kernel
theorem dX11_beside_26 : decode cX11_beside 26 = .ok (.iconst 0, 1) := by decide +kernel
theorem dX11_beside_27 : decode cX11_beside 27 = .ok (.invokevirtual 217, 3) := by decide +kernel
theorem dX11_beside_30 : decode cX11_beside 30 = .ok (.iload_n 1, 1) := by decide +kernel
theorem dX11_beside_31 : decode cX11_beside 31 = .ok (.ifCond .ge 10, 3) := by decide +kernel
theorem dX11_beside_34 : decode cX11_beside 34 = .ok (.aload_n 0, 1) := by decide +kernel
theorem dX11_beside_35 : decode cX11_beside 35 = .ok (.getfield 214, 3) := by decide +kernel
theorem dX11_beside_38 : decode cX11_beside 38 = .ok (.goto 9, 3) := by decide +kernel
theorem dX11_beside_41 : decode cX11_beside 41 = .ok (.aload_n 0, 1) := by decide +kernel
theorem dX11_beside_42 : decode cX11_beside 42 = .ok (.getfield 25, 3) := by decide +kernel
theorem dX11_beside_45 : decode cX11_beside 45 = .ok (.iload_n 1, 1) := by decide +kernel
theorem dX11_beside_46 : decode cX11_beside 46 = .ok (.iaload, 1) := by decide +kernel
theorem dX11_beside_47 : decode cX11_beside 47 = .ok (.ireturn, 1) := by decide +kernel
theorem dX11_helps_0 : decode cX11_helps 0 = .ok (.iconst (-1), 1) := by decide +kernel
theorem dX11_helps_1 : decode cX11_helps 1 = .ok (.istore_n 1, 1) := by decide +kernel
theorem dX11_helps_2 : decode cX11_helps 2 = .ok (.bipush (-4), 2) := by decide +kernel
theorem dX11_helps_4 : decode cX11_helps 4 = .ok (.istore_n 2, 1) := by decide +kernel
theorem dX11_helps_5 : decode cX11_helps 5 = .ok (.iconst 0, 1) := by decide +kernel
theorem dX11_helps_6 : decode cX11_helps 6 = .ok (.istore_n 3, 1) := by decide +kernel
theorem dX11_helps_7 : decode cX11_helps 7 = .ok (.iload_n 3, 1) := by decide +kernel
theorem dX11_helps_8 : decode cX11_helps 8 = .ok (.aload_n 0, 1) := by decide +kernel
theorem dX11_helps_9 : decode cX11_helps 9 = .ok (.getfield 46, 3) := by decide +kernel
theorem dX11_helps_12 : decode cX11_helps 12 = .ok (.getfield 161, 3) := by decide +kernel
theorem dX11_helps_15 : decode cX11_helps 15 = .ok (.if_icmp .ge 58, 3) := by decide +kernel
theorem dX11_helps_18 : decode cX11_helps 18 = .ok (.aload_n 0, 1) := by decide +kernel
theorem dX11_helps_19 : decode cX11_helps 19 = .ok (.getfield 46, 3) := by decide +kernel
theorem dX11_helps_22 : decode cX11_helps 22 = .ok (.getfield 104, 3) := by decide +kernel
theorem dX11_helps_25 : decode cX11_helps 25 = .ok (.iload_n 3, 1) := by decide +kernel
theorem dX11_helps_26 : decode cX11_helps 26 = .ok (.aaload, 1) := by decide +kernel
theorem dX11_helps_27 : decode cX11_helps 27 = .ok (.astore 4, 2) := by decide +kernel
theorem dX11_helps_29 : decode cX11_helps 29 = .ok (.aload 4, 2) := by decide +kernel
theorem dX11_helps_31 : decode cX11_helps 31 = .ok (.getfield 108, 3) := by decide +kernel
theorem dX11_helps_34 : decode cX11_helps 34 = .ok (.getfield 139, 3) := by decide +kernel
theorem dX11_helps_37 : decode cX11_helps 37 = .ok (.aload_n 0, 1) := by decide +kernel
theorem dX11_helps_38 : decode cX11_helps 38 = .ok (.getfield 46, 3) := by decide +kernel
theorem dX11_helps_41 : decode cX11_helps 41 = .ok (.iload_n 3, 1) := by decide +kernel
theorem dX11_helps_42 : decode cX11_helps 42 = .ok (.invokevirtual 221, 3) := by decide +kernel
theorem dX11_helps_45 : decode cX11_helps 45 = .ok (.imul, 1) := by decide +kernel
theorem dX11_helps_46 : decode cX11_helps 46 = .ok (.istore 5, 2) := by decide +kernel
theorem dX11_helps_48 : decode cX11_helps 48 = .ok (.aload 4, 2) := by decide +kernel
theorem dX11_helps_50 : decode cX11_helps 50 = .ok (.invokevirtual 224, 3) := by decide +kernel
theorem dX11_helps_53 : decode cX11_helps 53 = .ok (.ifCond .eq 14, 3) := by decide +kernel
theorem dX11_helps_56 : decode cX11_helps 56 = .ok (.iload 5, 2) := by decide +kernel
theorem dX11_helps_58 : decode cX11_helps 58 = .ok (.iload_n 1, 1) := by decide +kernel
theorem dX11_helps_59 : decode cX11_helps 59 = .ok (.if_icmp .le 8, 3) := by decide +kernel
theorem dX11_helps_62 : decode cX11_helps 62 = .ok (.iload 5, 2) := by decide +kernel
theorem dX11_helps_64 : decode cX11_helps 64 = .ok (.istore_n 1, 1) := by decide +kernel
theorem dX11_helps_65 : decode cX11_helps 65 = .ok (.iload_n 3, 1) := by decide +kernel
theorem dX11_helps_66 : decode cX11_helps 66 = .ok (.istore_n 2, 1) := by decide +kernel
theorem dX11_helps_67 : decode cX11_helps 67 = .ok (.iinc 3 1, 3) := by decide +kernel
theorem dX11_helps_70 : decode cX11_helps 70 = .ok (.goto (-63), 3) := by decide +kernel
theorem dX11_helps_73 : decode cX11_helps 73 = .ok (.iload_n 2, 1) := by decide +kernel
theorem dX11_helps_74 : decode cX11_helps 74 = .ok (.ireturn, 1) := by decide +kernel
theorem dX11_costs_0 : decode cX11_costs 0 = .ok (.aload_n 0, 1) := by decide +kernel
theorem dX11_costs_1 : decode cX11_costs 1 = .ok (.getfield 46, 3) := by decide +kernel
theorem dX11_costs_4 : decode cX11_costs 4 = .ok (.iload_n 1, 1) := by decide +kernel
theorem dX11_costs_5 : decode cX11_costs 5 = .ok (.invokevirtual 100, 3) := by decide +kernel
theorem dX11_costs_8 : decode cX11_costs 8 = .ok (.ifCond .ne 5, 3) := by decide +kernel
theorem dX11_costs_11 : decode cX11_costs 11 = .ok (.iconst (-1), 1) := by decide +kernel
theorem dX11_costs_12 : decode cX11_costs 12 = .ok (.ireturn, 1) := by decide +kernel
theorem dX11_costs_13 : decode cX11_costs 13 = .ok (.aload_n 0, 1) := by decide +kernel
theorem dX11_costs_14 : decode cX11_costs 14 = .ok (.aload_n 0, 1) := by decide +kernel
theorem dX11_costs_15 : decode cX11_costs 15 = .ok (.getfield 46, 3) := by decide +kernel
theorem dX11_costs_18 : decode cX11_costs 18 = .ok (.getfield 104, 3) := by decide +kernel
theorem dX11_costs_21 : decode cX11_costs 21 = .ok (.iload_n 1, 1) := by decide +kernel
theorem dX11_costs_22 : decode cX11_costs 22 = .ok (.aaload, 1) := by decide +kernel
theorem dX11_costs_23 : decode cX11_costs 23 = .ok (.iconst 0, 1) := by decide +kernel
theorem dX11_costs_24 : decode cX11_costs 24 = .ok (.invokevirtual 189, 3) := by decide +kernel
theorem dX11_costs_27 : decode cX11_costs 27 = .ok (.istore_n 2, 1) := by decide +kernel
theorem dX11_costs_28 : decode cX11_costs 28 = .ok (.iload_n 2, 1) := by decide +kernel
theorem dX11_costs_29 : decode cX11_costs 29 = .ok (.bipush (-4), 2) := by decide +kernel
theorem dX11_costs_31 : decode cX11_costs 31 = .ok (.if_icmp .ne 6, 3) := by decide +kernel
theorem dX11_costs_34 : decode cX11_costs 34 = .ok (.bipush (-4), 2) := by decide +kernel
theorem dX11_costs_36 : decode cX11_costs 36 = .ok (.ireturn, 1) := by decide +kernel
theorem dX11_costs_37 : decode cX11_costs 37 = .ok (.aload_n 0, 1) := by decide +kernel
theorem dX11_costs_38 : decode cX11_costs 38 = .ok (.getfield 60, 3) := by decide +kernel
theorem dX11_costs_41 : decode cX11_costs 41 = .ok (.aload_n 0, 1) := by decide +kernel
theorem dX11_costs_42 : decode cX11_costs 42 = .ok (.getfield 46, 3) := by decide +kernel
theorem dX11_costs_45 : decode cX11_costs 45 = .ok (.getfield 104, 3) := by decide +kernel
theorem dX11_costs_48 : decode cX11_costs 48 = .ok (.iload_n 1, 1) := by decide +kernel
theorem dX11_costs_49 : decode cX11_costs 49 = .ok (.aaload, 1) := by decide +kernel
theorem dX11_costs_50 : decode cX11_costs 50 = .ok (.invokevirtual 227, 3) := by decide +kernel
theorem dX11_costs_53 : decode cX11_costs 53 = .ok (.aload_n 0, 1) := by decide +kernel
theorem dX11_costs_54 : decode cX11_costs 54 = .ok (.getfield 60, 3) := by decide +kernel
theorem dX11_costs_57 : decode cX11_costs 57 = .ok (.aload_n 0, 1) := by decide +kernel
theorem dX11_costs_58 : decode cX11_costs 58 = .ok (.getfield 60, 3) := by decide +kernel
theorem dX11_costs_61 : decode cX11_costs 61 = .ok (.getfield 108, 3) := by decide +kernel
theorem dX11_costs_64 : decode cX11_costs 64 = .ok (.getfield 133, 3) := by decide +kernel
theorem dX11_costs_67 : decode cX11_costs 67 = .ok (.ineg, 1) := by decide +kernel
theorem dX11_costs_68 : decode cX11_costs 68 = .ok (.invokevirtual 230, 3) := by decide +kernel
theorem dX11_costs_71 : decode cX11_costs 71 = .ok (.aload_n 0, 1) := by decide +kernel
theorem dX11_costs_72 : decode cX11_costs 72 = .ok (.aload_n 0, 1) := by decide +kernel
theorem dX11_costs_73 : decode cX11_costs 73 = .ok (.getfield 60, 3) := by decide +kernel
theorem dX11_costs_76 : decode cX11_costs 76 = .ok (.iconst 0, 1) := by decide +kernel
theorem dX11_costs_77 : decode cX11_costs 77 = .ok (.invokevirtual 189, 3) := by decide +kernel
theorem dX11_costs_80 : decode cX11_costs 80 = .ok (.istore_n 3, 1) := by decide +kernel
theorem dX11_costs_81 : decode cX11_costs 81 = .ok (.iload_n 3, 1) := by decide +kernel
theorem dX11_costs_82 : decode cX11_costs 82 = .ok (.bipush (-4), 2) := by decide +kernel
theorem dX11_costs_84 : decode cX11_costs 84 = .ok (.if_icmp .ne 8, 3) := by decide +kernel
theorem dX11_costs_87 : decode cX11_costs 87 = .ok (.bipush 60, 2) := by decide +kernel
theorem dX11_costs_89 : decode cX11_costs 89 = .ok (.goto 4, 3) := by decide +kernel
theorem dX11_costs_92 : decode cX11_costs 92 = .ok (.iload_n 3, 1) := by decide +kernel
theorem dX11_costs_93 : decode cX11_costs 93 = .ok (.iload_n 2, 1) := by decide +kernel
theorem dX11_costs_94 : decode cX11_costs 94 = .ok (.isub, 1) := by decide +kernel
theorem dX11_costs_95 : decode cX11_costs 95 = .ok (.ireturn, 1) := by decide +kernel
theorem dX11_bands_0 : decode cX11_bands 0 = .ok (.aload_n 0, 1) := by decide +kernel
theorem dX11_bands_1 : decode cX11_bands 1 = .ok (.getfield 46, 3) := by decide +kernel
theorem dX11_bands_4 : decode cX11_bands 4 = .ok (.iload_n 1, 1) := by decide +kernel
theorem dX11_bands_5 : decode cX11_bands 5 = .ok (.invokevirtual 100, 3) := by decide +kernel
theorem dX11_bands_8 : decode cX11_bands 8 = .ok (.ifCond .eq 23, 3) := by decide +kernel
theorem dX11_bands_11 : decode cX11_bands 11 = .ok (.iload_n 2, 1) := by decide +kernel
theorem dX11_bands_12 : decode cX11_bands 12 = .ok (.iconst 0, 1) := by decide +kernel
theorem dX11_bands_13 : decode cX11_bands 13 = .ok (.bipush 9, 2) := by decide +kernel
theorem dX11_bands_15 : decode cX11_bands 15 = .ok (.invokestatic 145, 3) := by decide +kernel
theorem dX11_bands_18 : decode cX11_bands 18 = .ok (.ifCond .eq 13, 3) := by decide +kernel
theorem dX11_bands_21 : decode cX11_bands 21 = .ok (.iload_n 3, 1) := by decide +kernel
theorem dX11_bands_22 : decode cX11_bands 22 = .ok (.iconst 1, 1) := by decide +kernel
theorem dX11_bands_23 : decode cX11_bands 23 = .ok (.bipush 9, 2) := by decide +kernel
theorem dX11_bands_25 : decode cX11_bands 25 = .ok (.invokestatic 145, 3) := by decide +kernel
theorem dX11_bands_28 : decode cX11_bands 28 = .ok (.ifCond .ne 5, 3) := by decide +kernel
theorem dX11_bands_31 : decode cX11_bands 31 = .ok (.iconst (-1), 1) := by decide +kernel
theorem dX11_bands_32 : decode cX11_bands 32 = .ok (.ireturn, 1) := by decide +kernel
theorem dX11_bands_33 : decode cX11_bands 33 = .ok (.aload_n 0, 1) := by decide +kernel
theorem dX11_bands_34 : decode cX11_bands 34 = .ok (.getfield 46, 3) := by decide +kernel
theorem dX11_bands_37 : decode cX11_bands 37 = .ok (.getfield 104, 3) := by decide +kernel
theorem dX11_bands_40 : decode cX11_bands 40 = .ok (.iload_n 1, 1) := by decide +kernel
theorem dX11_bands_41 : decode cX11_bands 41 = .ok (.aaload, 1) := by decide +kernel
theorem dX11_bands_42 : decode cX11_bands 42 = .ok (.astore 4, 2) := by decide +kernel
theorem dX11_bands_44 : decode cX11_bands 44 = .ok (.aload 4, 2) := by decide +kernel
theorem dX11_bands_46 : decode cX11_bands 46 = .ok (.invokevirtual 163, 3) := by decide +kernel
theorem dX11_bands_49 : decode cX11_bands 49 = .ok (.ifCond .eq 6, 3) := by decide +kernel
theorem dX11_bands_52 : decode cX11_bands 52 = .ok (.bipush (-3), 2) := by decide +kernel
theorem dX11_bands_54 : decode cX11_bands 54 = .ok (.ireturn, 1) := by decide +kernel
theorem dX11_bands_55 : decode cX11_bands 55 = .ok (.iconst 0, 1) := by decide +kernel
theorem dX11_bands_56 : decode cX11_bands 56 = .ok (.istore 5, 2) := by decide +kernel
theorem dX11_bands_58 : decode cX11_bands 58 = .ok (.iload 5, 2) := by decide +kernel
theorem dX11_bands_60 : decode cX11_bands 60 = .ok (.iload_n 2, 1) := by decide +kernel
theorem dX11_bands_61 : decode cX11_bands 61 = .ok (.if_icmp .gt 64, 3) := by decide +kernel
theorem dX11_bands_64 : decode cX11_bands 64 = .ok (.iconst 0, 1) := by decide +kernel
theorem dX11_bands_65 : decode cX11_bands 65 = .ok (.iload_n 2, 1) := by decide +kernel
theorem dX11_bands_66 : decode cX11_bands 66 = .ok (.iload 5, 2) := by decide +kernel
theorem dX11_bands_68 : decode cX11_bands 68 = .ok (.iload_n 3, 1) := by decide +kernel
theorem dX11_bands_69 : decode cX11_bands 69 = .ok (.imul, 1) := by decide +kernel
theorem dX11_bands_70 : decode cX11_bands 70 = .ok (.isub, 1) := by decide +kernel
theorem dX11_bands_71 : decode cX11_bands 71 = .ok (.invokestatic 233, 3) := by decide +kernel
theorem dX11_bands_74 : decode cX11_bands 74 = .ok (.istore 6, 2) := by decide +kernel
theorem dX11_bands_76 : decode cX11_bands 76 = .ok (.bipush 20, 2) := by decide +kernel
theorem dX11_bands_78 : decode cX11_bands 78 = .ok (.aload 4, 2) := by decide +kernel
theorem dX11_bands_80 : decode cX11_bands 80 = .ok (.getfield 118, 3) := by decide +kernel
theorem dX11_bands_83 : decode cX11_bands 83 = .ok (.iload 5, 2) := by decide +kernel
theorem dX11_bands_85 : decode cX11_bands 85 = .ok (.iadd, 1) := by decide +kernel
theorem dX11_bands_86 : decode cX11_bands 86 = .ok (.invokestatic 238, 3) := by decide +kernel
theorem dX11_bands_89 : decode cX11_bands 89 = .ok (.istore 7, 2) := by decide +kernel
theorem dX11_bands_91 : decode cX11_bands 91 = .ok (.iload 7, 2) := by decide +kernel
theorem dX11_bands_93 : decode cX11_bands 93 = .ok (.iconst 0, 1) := by decide +kernel
theorem dX11_bands_94 : decode cX11_bands 94 = .ok (.aload 4, 2) := by decide +kernel
theorem dX11_bands_96 : decode cX11_bands 96 = .ok (.invokevirtual 130, 3) := by decide +kernel
theorem dX11_bands_99 : decode cX11_bands 99 = .ok (.iload 6, 2) := by decide +kernel
theorem dX11_bands_101 : decode cX11_bands 101 = .ok (.isub, 1) := by decide +kernel
theorem dX11_bands_102 : decode cX11_bands 102 = .ok (.invokestatic 233, 3) := by decide +kernel
theorem dX11_bands_105 : decode cX11_bands 105 = .ok (.if_icmp .ge 6, 3) := by decide +kernel
theorem dX11_bands_108 : decode cX11_bands 108 = .ok (.iload 5, 2) := by decide +kernel
theorem dX11_bands_110 : decode cX11_bands 110 = .ok (.ireturn, 1) := by decide +kernel
theorem dX11_bands_111 : decode cX11_bands 111 = .ok (.iload 6, 2) := by decide +kernel
theorem dX11_bands_113 : decode cX11_bands 113 = .ok (.ifCond .ne 6, 3) := by decide +kernel
theorem dX11_bands_116 : decode cX11_bands 116 = .ok (.bipush (-4), 2) := by decide +kernel
theorem dX11_bands_118 : decode cX11_bands 118 = .ok (.ireturn, 1) := by decide +kernel
theorem dX11_bands_119 : decode cX11_bands 119 = .ok (.iinc 5 1, 3) := by decide +kernel
theorem dX11_bands_122 : decode cX11_bands 122 = .ok (.goto (-64), 3) := by decide +kernel
theorem dX11_bands_125 : decode cX11_bands 125 = .ok (.bipush (-4), 2) := by decide +kernel
theorem dX11_bands_127 : decode cX11_bands 127 = .ok (.ireturn, 1) := by decide +kernel
theorem dX11_frights_0 : decode cX11_frights 0 = .ok (.aload_n 0, 1) := by decide +kernel
theorem dX11_frights_1 : decode cX11_frights 1 = .ok (.getfield 46, 3) := by decide +kernel
theorem dX11_frights_4 : decode cX11_frights 4 = .ok (.iload_n 1, 1) := by decide +kernel
theorem dX11_frights_5 : decode cX11_frights 5 = .ok (.invokevirtual 100, 3) := by decide +kernel
theorem dX11_frights_8 : decode cX11_frights 8 = .ok (.ifCond .eq 44, 3) := by decide +kernel
theorem dX11_frights_11 : decode cX11_frights 11 = .ok (.iload_n 2, 1) := by decide +kernel
theorem dX11_frights_12 : decode cX11_frights 12 = .ok (.iconst 0, 1) := by decide +kernel
theorem dX11_frights_13 : decode cX11_frights 13 = .ok (.bipush 8, 2) := by decide +kernel
theorem dX11_frights_15 : decode cX11_frights 15 = .ok (.invokestatic 145, 3) := by decide +kernel
theorem dX11_frights_18 : decode cX11_frights 18 = .ok (.ifCond .eq 34, 3) := by decide +kernel
theorem dX11_frights_21 : decode cX11_frights 21 = .ok (.iload_n 3, 1) := by decide +kernel
theorem dX11_frights_22 : decode cX11_frights 22 = .ok (.iconst 0, 1) := by decide +kernel
theorem dX11_frights_23 : decode cX11_frights 23 = .ok (.bipush 7, 2) := by decide +kernel
theorem dX11_frights_25 : decode cX11_frights 25 = .ok (.invokestatic 145, 3) := by decide +kernel
theorem dX11_frights_28 : decode cX11_frights 28 = .ok (.ifCond .eq 24, 3) := by decide +kernel
theorem dX11_frights_31 : decode cX11_frights 31 = .ok (.iload 4, 2) := by decide +kernel
theorem dX11_frights_33 : decode cX11_frights 33 = .ok (.iconst 2, 1) := by decide +kernel
theorem dX11_frights_34 : decode cX11_frights 34 = .ok (.bipush 20, 2) := by decide +kernel
theorem dX11_frights_36 : decode cX11_frights 36 = .ok (.invokestatic 145, 3) := by decide +kernel
theorem dX11_frights_39 : decode cX11_frights 39 = .ok (.ifCond .eq 13, 3) := by decide +kernel
theorem dX11_frights_42 : decode cX11_frights 42 = .ok (.iload 5, 2) := by decide +kernel
theorem dX11_frights_44 : decode cX11_frights 44 = .ok (.iconst 0, 1) := by decide +kernel
theorem dX11_frights_45 : decode cX11_frights 45 = .ok (.iconst 1, 1) := by decide +kernel
theorem dX11_frights_46 : decode cX11_frights 46 = .ok (.invokestatic 145, 3) := by decide +kernel
theorem dX11_frights_49 : decode cX11_frights 49 = .ok (.ifCond .ne 7, 3) := by decide +kernel
theorem dX11_frights_52 : decode cX11_frights 52 = .ok (.ldc2_w 241, 3) := by decide +kernel
theorem dX11_frights_55 : decode cX11_frights 55 = .ok (.lreturn, 1) := by decide +kernel
theorem dX11_frights_56 : decode cX11_frights 56 = .ok (.aload_n 0, 1) := by decide +kernel
theorem dX11_frights_57 : decode cX11_frights 57 = .ok (.getfield 46, 3) := by decide +kernel
theorem dX11_frights_60 : decode cX11_frights 60 = .ok (.getfield 104, 3) := by decide +kernel
theorem dX11_frights_63 : decode cX11_frights 63 = .ok (.iload_n 1, 1) := by decide +kernel
theorem dX11_frights_64 : decode cX11_frights 64 = .ok (.aaload, 1) := by decide +kernel
theorem dX11_frights_65 : decode cX11_frights 65 = .ok (.astore 6, 2) := by decide +kernel
theorem dX11_frights_67 : decode cX11_frights 67 = .ok (.lconst 1, 1) := by decide +kernel
theorem dX11_frights_68 : decode cX11_frights 68 = .ok (.lstore 7, 2) := by decide +kernel
theorem dX11_frights_70 : decode cX11_frights 70 = .ok (.iconst 0, 1) := by decide +kernel
theorem dX11_frights_71 : decode cX11_frights 71 = .ok (.istore 9, 2) := by decide +kernel
theorem dX11_frights_73 : decode cX11_frights 73 = .ok (.iload 9, 2) := by decide +kernel
theorem dX11_frights_75 : decode cX11_frights 75 = .ok (.iload_n 2, 1) := by decide +kernel
theorem dX11_frights_76 : decode cX11_frights 76 = .ok (.if_icmp .ge 17, 3) := by decide +kernel
theorem dX11_frights_79 : decode cX11_frights 79 = .ok (.lload 7, 2) := by decide +kernel
theorem dX11_frights_81 : decode cX11_frights 81 = .ok (.iload 4, 2) := by decide +kernel
theorem dX11_frights_83 : decode cX11_frights 83 = .ok (.i2l, 1) := by decide +kernel
theorem dX11_frights_84 : decode cX11_frights 84 = .ok (.lmul, 1) := by decide +kernel
theorem dX11_frights_85 : decode cX11_frights 85 = .ok (.lstore 7, 2) := by decide +kernel
theorem dX11_frights_87 : decode cX11_frights 87 = .ok (.iinc 9 1, 3) := by decide +kernel
theorem dX11_frights_90 : decode cX11_frights 90 = .ok (.goto (-17), 3) := by decide +kernel
theorem dX11_frights_93 : decode cX11_frights 93 = .ok (.aload 6, 2) := by decide +kernel
theorem dX11_frights_95 : decode cX11_frights 95 = .ok (.getfield 108, 3) := by decide +kernel
theorem dX11_frights_98 : decode cX11_frights 98 = .ok (.aload 6, 2) := by decide +kernel
theorem dX11_frights_100 : decode cX11_frights 100 = .ok (.getfield 118, 3) := by decide +kernel
theorem dX11_frights_103 : decode cX11_frights 103 = .ok (.aload 6, 2) := by decide +kernel
theorem dX11_frights_105 : decode cX11_frights 105 = .ok (.getfield 121, 3) := by decide +kernel
theorem dX11_frights_108 : decode cX11_frights 108 = .ok (.aload 6, 2) := by decide +kernel
theorem dX11_frights_110 : decode cX11_frights 110 = .ok (.getfield 121, 3) := by decide +kernel
theorem dX11_frights_113 : decode cX11_frights 113 = .ok (.iload_n 3, 1) := by decide +kernel
theorem dX11_frights_114 : decode cX11_frights 114 = .ok (.iadd, 1) := by decide +kernel
theorem dX11_frights_115 : decode cX11_frights 115 = .ok (.iload_n 2, 1) := by decide +kernel
theorem dX11_frights_116 : decode cX11_frights 116 = .ok (.iload 4, 2) := by decide +kernel
theorem dX11_frights_118 : decode cX11_frights 118 = .ok (.invokestatic 243, 3) := by decide +kernel
theorem dX11_frights_121 : decode cX11_frights 121 = .ok (.lstore 9, 2) := by decide +kernel
theorem dX11_frights_123 : decode cX11_frights 123 = .ok (.lload 9, 2) := by decide +kernel
theorem dX11_frights_125 : decode cX11_frights 125 = .ok (.lload 7, 2) := by decide +kernel
theorem dX11_frights_127 : decode cX11_frights 127 = .ok (.iload 5, 2) := by decide +kernel
theorem dX11_frights_129 : decode cX11_frights 129 = .ok (.invokestatic 247, 3) := by decide +kernel
theorem dX11_frights_132 : decode cX11_frights 132 = .ok (.lreturn, 1) := by decide +kernel
theorem dX11_was_0 : decode cX11_was 0 = .ok (.iload_n 1, 1) := by decide +kernel
theorem dX11_was_1 : decode cX11_was 1 = .ok (.invokestatic 142, 3) := by decide +kernel
theorem dX11_was_4 : decode cX11_was 4 = .ok (.ifCond .eq 33, 3) := by decide +kernel
theorem dX11_was_7 : decode cX11_was 7 = .ok (.iload_n 2, 1) := by decide +kernel
theorem dX11_was_8 : decode cX11_was 8 = .ok (.iconst 0, 1) := by decide +kernel
theorem dX11_was_9 : decode cX11_was 9 = .ok (.bipush 20, 2) := by decide +kernel
theorem dX11_was_11 : decode cX11_was 11 = .ok (.invokestatic 145, 3) := by decide +kernel
theorem dX11_was_14 : decode cX11_was 14 = .ok (.ifCond .eq 23, 3) := by decide +kernel
theorem dX11_was_17 : decode cX11_was 17 = .ok (.iload_n 3, 1) := by decide +kernel
theorem dX11_was_18 : decode cX11_was 18 = .ok (.iconst 0, 1) := by decide +kernel
theorem dX11_was_19 : decode cX11_was 19 = .ok (.bipush 9, 2) := by decide +kernel
theorem dX11_was_21 : decode cX11_was 21 = .ok (.invokestatic 145, 3) := by decide +kernel
theorem dX11_was_24 : decode cX11_was 24 = .ok (.ifCond .eq 13, 3) := by decide +kernel
theorem dX11_was_27 : decode cX11_was 27 = .ok (.iload 4, 2) := by decide +kernel
theorem dX11_was_29 : decode cX11_was 29 = .ok (.iconst 0, 1) := by decide +kernel
theorem dX11_was_30 : decode cX11_was 30 = .ok (.iconst 1, 1) := by decide +kernel
theorem dX11_was_31 : decode cX11_was 31 = .ok (.invokestatic 145, 3) := by decide +kernel
theorem dX11_was_34 : decode cX11_was 34 = .ok (.ifCond .ne 5, 3) := by decide +kernel
theorem dX11_was_37 : decode cX11_was 37 = .ok (.iconst (-1), 1) := by decide +kernel
theorem dX11_was_38 : decode cX11_was 38 = .ok (.ireturn, 1) := by decide +kernel
theorem dX11_was_39 : decode cX11_was 39 = .ok (.aload_n 0, 1) := by decide +kernel
theorem dX11_was_40 : decode cX11_was 40 = .ok (.iload_n 1, 1) := by decide +kernel
theorem dX11_was_41 : decode cX11_was 41 = .ok (.invokevirtual 63, 3) := by decide +kernel
theorem dX11_was_44 : decode cX11_was 44 = .ok (.astore 5, 2) := by decide +kernel
theorem dX11_was_46 : decode cX11_was 46 = .ok (.aload 5, 2) := by decide +kernel
theorem dX11_was_48 : decode cX11_was 48 = .ok (.ifnonnull 9, 3) := by decide +kernel
theorem dX11_was_51 : decode cX11_was 51 = .ok (.aload_n 0, 1) := by decide +kernel
theorem dX11_was_52 : decode cX11_was 52 = .ok (.iload_n 1, 1) := by decide +kernel
theorem dX11_was_53 : decode cX11_was 53 = .ok (.invokevirtual 67, 3) := by decide +kernel
theorem dX11_was_56 : decode cX11_was 56 = .ok (.ireturn, 1) := by decide +kernel
theorem dX11_was_57 : decode cX11_was 57 = .ok (.iconst 0, 1) := by decide +kernel
theorem dX11_was_58 : decode cX11_was 58 = .ok (.istore 6, 2) := by decide +kernel
theorem dX11_was_60 : decode cX11_was 60 = .ok (.iconst 0, 1) := by decide +kernel
theorem dX11_was_61 : decode cX11_was 61 = .ok (.istore 7, 2) := by decide +kernel
theorem dX11_was_63 : decode cX11_was 63 = .ok (.iload 7, 2) := by decide +kernel
theorem dX11_was_65 : decode cX11_was 65 = .ok (.bipush 7, 2) := by decide +kernel
theorem dX11_was_67 : decode cX11_was 67 = .ok (.if_icmp .gt 36, 3) := by decide +kernel
theorem dX11_was_70 : decode cX11_was 70 = .ok (.aload 5, 2) := by decide +kernel
theorem dX11_was_72 : decode cX11_was 72 = .ok (.iload_n 2, 1) := by decide +kernel
theorem dX11_was_73 : decode cX11_was 73 = .ok (.iload 7, 2) := by decide +kernel
theorem dX11_was_75 : decode cX11_was 75 = .ok (.iload_n 3, 1) := by decide +kernel
theorem dX11_was_76 : decode cX11_was 76 = .ok (.invokestatic 251, 3) := by decide +kernel
theorem dX11_was_79 : decode cX11_was 79 = .ok (.getfield 127, 3) := by decide +kernel
theorem dX11_was_82 : decode cX11_was 82 = .ok (.invokestatic 255, 3) := by decide +kernel
theorem dX11_was_85 : decode cX11_was 85 = .ok (.ifCond .eq 12, 3) := by decide +kernel
theorem dX11_was_88 : decode cX11_was 88 = .ok (.iload 6, 2) := by decide +kernel
theorem dX11_was_90 : decode cX11_was 90 = .ok (.iconst 1, 1) := by decide +kernel
theorem dX11_was_91 : decode cX11_was 91 = .ok (.iload 7, 2) := by decide +kernel
theorem dX11_was_93 : decode cX11_was 93 = .ok (.ishl, 1) := by decide +kernel
theorem dX11_was_94 : decode cX11_was 94 = .ok (.ior, 1) := by decide +kernel
theorem dX11_was_95 : decode cX11_was 95 = .ok (.istore 6, 2) := by decide +kernel
theorem dX11_was_97 : decode cX11_was 97 = .ok (.iinc 7 1, 3) := by decide +kernel
theorem dX11_was_100 : decode cX11_was 100 = .ok (.goto (-37), 3) := by decide +kernel
theorem dX11_was_103 : decode cX11_was 103 = .ok (.iload 4, 2) := by decide +kernel
theorem dX11_was_105 : decode cX11_was 105 = .ok (.ifCond .ne 8, 3) := by decide +kernel
theorem dX11_was_108 : decode cX11_was 108 = .ok (.iload 6, 2) := by decide +kernel
theorem dX11_was_110 : decode cX11_was 110 = .ok (.goto 8, 3) := by decide +kernel
theorem dX11_was_113 : decode cX11_was 113 = .ok (.iload 6, 2) := by decide +kernel
theorem dX11_was_115 : decode cX11_was 115 = .ok (.invokestatic 209, 3) := by decide +kernel
theorem dX11_was_118 : decode cX11_was 118 = .ok (.ireturn, 1) := by decide +kernel
theorem dX11_dare_0 : decode cX11_dare 0 = .ok (.aload_n 0, 1) := by decide +kernel
theorem dX11_dare_1 : decode cX11_dare 1 = .ok (.getfield 46, 3) := by decide +kernel
theorem dX11_dare_4 : decode cX11_dare 4 = .ok (.iload_n 1, 1) := by decide +kernel
theorem dX11_dare_5 : decode cX11_dare 5 = .ok (.iload_n 2, 1) := by decide +kernel
theorem dX11_dare_6 : decode cX11_dare 6 = .ok (.invokevirtual 173, 3) := by decide +kernel
theorem dX11_dare_9 : decode cX11_dare 9 = .ok (.ifCond .ne 5, 3) := by decide +kernel
theorem dX11_dare_12 : decode cX11_dare 12 = .ok (.iconst (-1), 1) := by decide +kernel
theorem dX11_dare_13 : decode cX11_dare 13 = .ok (.ireturn, 1) := by decide +kernel
theorem dX11_dare_14 : decode cX11_dare 14 = .ok (.iconst 0, 1) := by decide +kernel
theorem dX11_dare_15 : decode cX11_dare 15 = .ok (.istore_n 3, 1) := by decide +kernel
theorem dX11_dare_16 : decode cX11_dare 16 = .ok (.iload_n 3, 1) := by decide +kernel
theorem dX11_dare_17 : decode cX11_dare 17 = .ok (.iconst 1, 1) := by decide +kernel
theorem dX11_dare_18 : decode cX11_dare 18 = .ok (.if_icmp .gt 68, 3) := by decide +kernel
theorem dX11_dare_21 : decode cX11_dare 21 = .ok (.iconst 0, 1) := by decide +kernel
theorem dX11_dare_22 : decode cX11_dare 22 = .ok (.istore 4, 2) := by decide +kernel
theorem dX11_dare_24 : decode cX11_dare 24 = .ok (.iload 4, 2) := by decide +kernel
theorem dX11_dare_26 : decode cX11_dare 26 = .ok (.iconst 1, 1) := by decide +kernel
theorem dX11_dare_27 : decode cX11_dare 27 = .ok (.if_icmp .gt 53, 3) := by decide +kernel
theorem dX11_dare_30 : decode cX11_dare 30 = .ok (.aload_n 0, 1) := by decide +kernel
theorem dX11_dare_31 : decode cX11_dare 31 = .ok (.getfield 46, 3) := by decide +kernel
theorem dX11_dare_34 : decode cX11_dare 34 = .ok (.getfield 104, 3) := by decide +kernel
theorem dX11_dare_37 : decode cX11_dare 37 = .ok (.iload_n 1, 1) := by decide +kernel
theorem dX11_dare_38 : decode cX11_dare 38 = .ok (.aaload, 1) := by decide +kernel
theorem dX11_dare_39 : decode cX11_dare 39 = .ok (.iload_n 3, 1) := by decide +kernel
theorem dX11_dare_40 : decode cX11_dare 40 = .ok (.iload 4, 2) := by decide +kernel
theorem dX11_dare_42 : decode cX11_dare 42 = .ok (.invokestatic 259, 3) := by decide +kernel
theorem dX11_dare_45 : decode cX11_dare 45 = .ok (.ifCond .eq 29, 3) := by decide +kernel
theorem dX11_dare_48 : decode cX11_dare 48 = .ok (.aload_n 0, 1) := by decide +kernel
theorem dX11_dare_49 : decode cX11_dare 49 = .ok (.getfield 46, 3) := by decide +kernel
theorem dX11_dare_52 : decode cX11_dare 52 = .ok (.getfield 104, 3) := by decide +kernel
theorem dX11_dare_55 : decode cX11_dare 55 = .ok (.iload_n 2, 1) := by decide +kernel
theorem dX11_dare_56 : decode cX11_dare 56 = .ok (.aaload, 1) := by decide +kernel
theorem dX11_dare_57 : decode cX11_dare 57 = .ok (.iload 4, 2) := by decide +kernel
theorem dX11_dare_59 : decode cX11_dare 59 = .ok (.iload_n 3, 1) := by decide +kernel
theorem dX11_dare_60 : decode cX11_dare 60 = .ok (.invokestatic 259, 3) := by decide +kernel
theorem dX11_dare_63 : decode cX11_dare 63 = .ok (.ifCond .eq 11, 3) := by decide +kernel
theorem dX11_dare_66 : decode cX11_dare 66 = .ok (.bipush 10, 2) := by decide +kernel
theorem dX11_dare_68 : decode cX11_dare 68 = .ok (.iload_n 3, 1) := by decide +kernel
theorem dX11_dare_69 : decode cX11_dare 69 = .ok (.imul, 1) := by decide +kernel
theorem dX11_dare_70 : decode cX11_dare 70 = .ok (.iload 4, 2) := by decide +kernel
theorem dX11_dare_72 : decode cX11_dare 72 = .ok (.iadd, 1) := by decide +kernel
theorem dX11_dare_73 : decode cX11_dare 73 = .ok (.ireturn, 1) := by decide +kernel
theorem dX11_dare_74 : decode cX11_dare 74 = .ok (.iinc 4 1, 3) := by decide +kernel
theorem dX11_dare_77 : decode cX11_dare 77 = .ok (.goto (-53), 3) := by decide +kernel
theorem dX11_dare_80 : decode cX11_dare 80 = .ok (.iinc 3 1, 3) := by decide +kernel
theorem dX11_dare_83 : decode cX11_dare 83 = .ok (.goto (-67), 3) := by decide +kernel
theorem dX11_dare_86 : decode cX11_dare 86 = .ok (.bipush (-4), 2) := by decide +kernel
theorem dX11_dare_88 : decode cX11_dare 88 = .ok (.ireturn, 1) := by decide +kernel
theorem dX11_group_0 : decode cX11_group 0 = .ok (.iload_n 1, 1) := by decide +kernel
theorem dX11_group_1 : decode cX11_group 1 = .ok (.iconst 0, 1) := by decide +kernel
theorem dX11_group_2 : decode cX11_group 2 = .ok (.bipush 30, 2) := by decide +kernel
theorem dX11_group_4 : decode cX11_group 4 = .ok (.invokestatic 145, 3) := by decide +kernel
theorem dX11_group_7 : decode cX11_group 7 = .ok (.ifCond .eq 12, 3) := by decide +kernel
theorem dX11_group_10 : decode cX11_group 10 = .ok (.iload_n 2, 1) := by decide +kernel
theorem dX11_group_11 : decode cX11_group 11 = .ok (.iconst 0, 1) := by decide +kernel
theorem dX11_group_12 : decode cX11_group 12 = .ok (.iconst 1, 1) := by decide +kernel
theorem dX11_group_13 : decode cX11_group 13 = .ok (.invokestatic 145, 3) := by decide +kernel
theorem dX11_group_16 : decode cX11_group 16 = .ok (.ifCond .ne 5, 3) := by decide +kernel
theorem dX11_group_19 : decode cX11_group 19 = .ok (.iconst (-1), 1) := by decide +kernel
theorem dX11_group_20 : decode cX11_group 20 = .ok (.ireturn, 1) := by decide +kernel
theorem dX11_group_21 : decode cX11_group 21 = .ok (.iconst 0, 1) := by decide +kernel
theorem dX11_group_22 : decode cX11_group 22 = .ok (.istore_n 3, 1) := by decide +kernel
theorem dX11_group_23 : decode cX11_group 23 = .ok (.iconst 1, 1) := by decide +kernel
theorem dX11_group_24 : decode cX11_group 24 = .ok (.istore 4, 2) := by decide +kernel
theorem dX11_group_26 : decode cX11_group 26 = .ok (.iload 4, 2) := by decide +kernel
theorem dX11_group_28 : decode cX11_group 28 = .ok (.iconst 1, 1) := by decide +kernel
theorem dX11_group_29 : decode cX11_group 29 = .ok (.aload_n 0, 1) := by decide +kernel
theorem dX11_group_30 : decode cX11_group 30 = .ok (.getfield 46, 3) := by decide +kernel
theorem dX11_group_33 : decode cX11_group 33 = .ok (.getfield 161, 3) := by decide +kernel
theorem dX11_group_36 : decode cX11_group 36 = .ok (.ishl, 1) := by decide +kernel
theorem dX11_group_37 : decode cX11_group 37 = .ok (.if_icmp .ge 37, 3) := by decide +kernel
theorem dX11_group_40 : decode cX11_group 40 = .ok (.iload 4, 2) := by decide +kernel
theorem dX11_group_42 : decode cX11_group 42 = .ok (.invokestatic 209, 3) := by decide +kernel
theorem dX11_group_45 : decode cX11_group 45 = .ok (.iload_n 3, 1) := by decide +kernel
theorem dX11_group_46 : decode cX11_group 46 = .ok (.invokestatic 209, 3) := by decide +kernel
theorem dX11_group_49 : decode cX11_group 49 = .ok (.if_icmp .le 19, 3) := by decide +kernel
theorem dX11_group_52 : decode cX11_group 52 = .ok (.aload_n 0, 1) := by decide +kernel
theorem dX11_group_53 : decode cX11_group 53 = .ok (.getfield 46, 3) := by decide +kernel
theorem dX11_group_56 : decode cX11_group 56 = .ok (.iload 4, 2) := by decide +kernel
theorem dX11_group_58 : decode cX11_group 58 = .ok (.invokevirtual 263, 3) := by decide +kernel
theorem dX11_group_61 : decode cX11_group 61 = .ok (.iload_n 1, 1) := by decide +kernel
theorem dX11_group_62 : decode cX11_group 62 = .ok (.if_icmp .gt 6, 3) := by decide +kernel
theorem dX11_group_65 : decode cX11_group 65 = .ok (.iload 4, 2) := by decide +kernel
theorem dX11_group_67 : decode cX11_group 67 = .ok (.istore_n 3, 1) := by decide +kernel
theorem dX11_group_68 : decode cX11_group 68 = .ok (.iinc 4 1, 3) := by decide +kernel
theorem dX11_group_71 : decode cX11_group 71 = .ok (.goto (-45), 3) := by decide +kernel
theorem dX11_group_74 : decode cX11_group 74 = .ok (.iload_n 2, 1) := by decide +kernel
theorem dX11_group_75 : decode cX11_group 75 = .ok (.ifCond .ne 7, 3) := by decide +kernel
theorem dX11_group_78 : decode cX11_group 78 = .ok (.iload_n 3, 1) := by decide +kernel
theorem dX11_group_79 : decode cX11_group 79 = .ok (.goto 7, 3) := by decide +kernel
theorem dX11_group_82 : decode cX11_group 82 = .ok (.iload_n 3, 1) := by decide +kernel
theorem dX11_group_83 : decode cX11_group 83 = .ok (.invokestatic 209, 3) := by decide +kernel
theorem dX11_group_86 : decode cX11_group 86 = .ok (.ireturn, 1) := by decide +kernel
theorem dX11_forget_0 : decode cX11_forget 0 = .ok (.iconst 0, 1) := by decide +kernel
theorem dX11_forget_1 : decode cX11_forget 1 = .ok (.istore_n 1, 1) := by decide +kernel
theorem dX11_forget_2 : decode cX11_forget 2 = .ok (.iload_n 1, 1) := by decide +kernel
theorem dX11_forget_3 : decode cX11_forget 3 = .ok (.bipush 9, 2) := by decide +kernel
theorem dX11_forget_5 : decode cX11_forget 5 = .ok (.if_icmp .gt 28, 3) := by decide +kernel
theorem dX11_forget_8 : decode cX11_forget 8 = .ok (.aload_n 0, 1) := by decide +kernel
theorem dX11_forget_9 : decode cX11_forget 9 = .ok (.invokevirtual 79, 3) := by decide +kernel
theorem dX11_forget_12 : decode cX11_forget 12 = .ok (.astore_n 2, 1) := by decide +kernel
theorem dX11_forget_13 : decode cX11_forget 13 = .ok (.aload_n 2, 1) := by decide +kernel
theorem dX11_forget_14 : decode cX11_forget 14 = .ok (.iload_n 1, 1) := by decide +kernel
theorem dX11_forget_15 : decode cX11_forget 15 = .ok (.invokevirtual 180, 3) := by decide +kernel
theorem dX11_forget_18 : decode cX11_forget 18 = .ok (.aload_n 2, 1) := by decide +kernel
theorem dX11_forget_19 : decode cX11_forget 19 = .ok (.invokevirtual 186, 3) := by decide +kernel
theorem dX11_forget_22 : decode cX11_forget 22 = .ok (.ifCond .ne 5, 3) := by decide +kernel
theorem dX11_forget_25 : decode cX11_forget 25 = .ok (.iload_n 1, 1) := by decide +kernel
theorem dX11_forget_26 : decode cX11_forget 26 = .ok (.ireturn, 1) := by decide +kernel
theorem dX11_forget_27 : decode cX11_forget 27 = .ok (.iinc 1 1, 3) := by decide +kernel
theorem dX11_forget_30 : decode cX11_forget 30 = .ok (.goto (-28), 3) := by decide +kernel
theorem dX11_forget_33 : decode cX11_forget 33 = .ok (.bipush (-4), 2) := by decide +kernel
theorem dX11_forget_35 : decode cX11_forget 35 = .ok (.ireturn, 1) := by decide +kernel
theorem dX11_coldest_0 : decode cX11_coldest 0 = .ok (.aload_n 0, 1) := by decide +kernel
theorem dX11_coldest_1 : decode cX11_coldest 1 = .ok (.getfield 46, 3) := by decide +kernel
theorem dX11_coldest_4 : decode cX11_coldest 4 = .ok (.iload_n 1, 1) := by decide +kernel
theorem dX11_coldest_5 : decode cX11_coldest 5 = .ok (.invokevirtual 100, 3) := by decide +kernel
theorem dX11_coldest_8 : decode cX11_coldest 8 = .ok (.ifCond .eq 13, 3) := by decide +kernel
theorem dX11_coldest_11 : decode cX11_coldest 11 = .ok (.iload_n 2, 1) := by decide +kernel
theorem dX11_coldest_12 : decode cX11_coldest 12 = .ok (.iconst 0, 1) := by decide +kernel
theorem dX11_coldest_13 : decode cX11_coldest 13 = .ok (.bipush 60, 2) := by decide +kernel
theorem dX11_coldest_15 : decode cX11_coldest 15 = .ok (.invokestatic 145, 3) := by decide +kernel
theorem dX11_coldest_18 : decode cX11_coldest 18 = .ok (.ifCond .ne 5, 3) := by decide +kernel
theorem dX11_coldest_21 : decode cX11_coldest 21 = .ok (.iconst (-1), 1) := by decide +kernel
theorem dX11_coldest_22 : decode cX11_coldest 22 = .ok (.ireturn, 1) := by decide +kernel
theorem dX11_coldest_23 : decode cX11_coldest 23 = .ok (.iconst 0, 1) := by decide +kernel
theorem dX11_coldest_24 : decode cX11_coldest 24 = .ok (.istore_n 3, 1) := by decide +kernel
theorem dX11_coldest_25 : decode cX11_coldest 25 = .ok (.iconst 0, 1) := by decide +kernel
theorem dX11_coldest_26 : decode cX11_coldest 26 = .ok (.istore 4, 2) := by decide +kernel
theorem dX11_coldest_28 : decode cX11_coldest 28 = .ok (.iload 4, 2) := by decide +kernel
theorem dX11_coldest_30 : decode cX11_coldest 30 = .ok (.aload_n 0, 1) := by decide +kernel
theorem dX11_coldest_31 : decode cX11_coldest 31 = .ok (.getfield 46, 3) := by decide +kernel
theorem dX11_coldest_34 : decode cX11_coldest 34 = .ok (.getfield 161, 3) := by decide +kernel
theorem dX11_coldest_37 : decode cX11_coldest 37 = .ok (.if_icmp .ge 61, 3) := by decide +kernel
theorem dX11_coldest_40 : decode cX11_coldest 40 = .ok (.aload_n 0, 1) := by decide +kernel
theorem dX11_coldest_41 : decode cX11_coldest 41 = .ok (.getfield 46, 3) := by decide +kernel
theorem dX11_coldest_44 : decode cX11_coldest 44 = .ok (.getfield 104, 3) := by decide +kernel
theorem dX11_coldest_47 : decode cX11_coldest 47 = .ok (.iload 4, 2) := by decide +kernel
theorem dX11_coldest_49 : decode cX11_coldest 49 = .ok (.aaload, 1) := by decide +kernel
theorem dX11_coldest_50 : decode cX11_coldest 50 = .ok (.astore 5, 2) := by decide +kernel
theorem dX11_coldest_52 : decode cX11_coldest 52 = .ok (.iload 4, 2) := by decide +kernel
theorem dX11_coldest_54 : decode cX11_coldest 54 = .ok (.iload_n 1, 1) := by decide +kernel
theorem dX11_coldest_55 : decode cX11_coldest 55 = .ok (.if_icmp .eq 37, 3) := by decide +kernel
theorem dX11_coldest_58 : decode cX11_coldest 58 = .ok (.aload 5, 2) := by decide +kernel
theorem dX11_coldest_60 : decode cX11_coldest 60 = .ok (.invokevirtual 163, 3) := by decide +kernel
theorem dX11_coldest_63 : decode cX11_coldest 63 = .ok (.ifCond .ne 29, 3) := by decide +kernel
theorem dX11_coldest_66 : decode cX11_coldest 66 = .ok (.bipush 20, 2) := by decide +kernel
theorem dX11_coldest_68 : decode cX11_coldest 68 = .ok (.aload 5, 2) := by decide +kernel
theorem dX11_coldest_70 : decode cX11_coldest 70 = .ok (.getfield 124, 3) := by decide +kernel
theorem dX11_coldest_73 : decode cX11_coldest 73 = .ok (.iload_n 2, 1) := by decide +kernel
theorem dX11_coldest_74 : decode cX11_coldest 74 = .ok (.iadd, 1) := by decide +kernel
theorem dX11_coldest_75 : decode cX11_coldest 75 = .ok (.invokestatic 238, 3) := by decide +kernel
theorem dX11_coldest_78 : decode cX11_coldest 78 = .ok (.aload 5, 2) := by decide +kernel
theorem dX11_coldest_80 : decode cX11_coldest 80 = .ok (.getfield 108, 3) := by decide +kernel
theorem dX11_coldest_83 : decode cX11_coldest 83 = .ok (.getfield 136, 3) := by decide +kernel
theorem dX11_coldest_86 : decode cX11_coldest 86 = .ok (.if_icmp .le 6, 3) := by decide +kernel
theorem dX11_coldest_89 : decode cX11_coldest 89 = .ok (.iinc 3 1, 3) := by decide +kernel
theorem dX11_coldest_92 : decode cX11_coldest 92 = .ok (.iinc 4 1, 3) := by decide +kernel
theorem dX11_coldest_95 : decode cX11_coldest 95 = .ok (.goto (-67), 3) := by decide +kernel
theorem dX11_coldest_98 : decode cX11_coldest 98 = .ok (.iload_n 3, 1) := by decide +kernel
theorem dX11_coldest_99 : decode cX11_coldest 99 = .ok (.ireturn, 1) := by decide +kernel
theorem dX11_last_0 : decode cX11_last 0 = .ok (.bipush (-4), 2) := by decide +kernel
theorem dX11_last_2 : decode cX11_last 2 = .ok (.istore_n 1, 1) := by decide +kernel
theorem dX11_last_3 : decode cX11_last 3 = .ok (.iconst 0, 1) := by decide +kernel
theorem dX11_last_4 : decode cX11_last 4 = .ok (.istore_n 2, 1) := by decide +kernel
theorem dX11_last_5 : decode cX11_last 5 = .ok (.iload_n 2, 1) := by decide +kernel
theorem dX11_last_6 : decode cX11_last 6 = .ok (.aload_n 0, 1) := by decide +kernel
theorem dX11_last_7 : decode cX11_last 7 = .ok (.getfield 46, 3) := by decide +kernel
theorem dX11_last_10 : decode cX11_last 10 = .ok (.getfield 161, 3) := by decide +kernel
theorem dX11_last_13 : decode cX11_last 13 = .ok (.if_icmp .ge 41, 3) := by decide +kernel
theorem dX11_last_16 : decode cX11_last 16 = .ok (.iload_n 1, 1) := by decide +kernel
theorem dX11_last_17 : decode cX11_last 17 = .ok (.bipush (-4), 2) := by decide +kernel
theorem dX11_last_19 : decode cX11_last 19 = .ok (.if_icmp .eq 27, 3) := by decide +kernel
theorem dX11_last_22 : decode cX11_last 22 = .ok (.aload_n 0, 1) := by decide +kernel
theorem dX11_last_23 : decode cX11_last 23 = .ok (.getfield 46, 3) := by decide +kernel
theorem dX11_last_26 : decode cX11_last 26 = .ok (.getfield 104, 3) := by decide +kernel
theorem dX11_last_29 : decode cX11_last 29 = .ok (.iload_n 2, 1) := by decide +kernel
theorem dX11_last_30 : decode cX11_last 30 = .ok (.aaload, 1) := by decide +kernel
theorem dX11_last_31 : decode cX11_last 31 = .ok (.aload_n 0, 1) := by decide +kernel
theorem dX11_last_32 : decode cX11_last 32 = .ok (.getfield 46, 3) := by decide +kernel
theorem dX11_last_35 : decode cX11_last 35 = .ok (.getfield 104, 3) := by decide +kernel
theorem dX11_last_38 : decode cX11_last 38 = .ok (.iload_n 1, 1) := by decide +kernel
theorem dX11_last_39 : decode cX11_last 39 = .ok (.aaload, 1) := by decide +kernel
theorem dX11_last_40 : decode cX11_last 40 = .ok (.invokevirtual 266, 3) := by decide +kernel
theorem dX11_last_43 : decode cX11_last 43 = .ok (.ifCond .eq 5, 3) := by decide +kernel
theorem dX11_last_46 : decode cX11_last 46 = .ok (.iload_n 2, 1) := by decide +kernel
theorem dX11_last_47 : decode cX11_last 47 = .ok (.istore_n 1, 1) := by decide +kernel
theorem dX11_last_48 : decode cX11_last 48 = .ok (.iinc 2 1, 3) := by decide +kernel
theorem dX11_last_51 : decode cX11_last 51 = .ok (.goto (-46), 3) := by decide +kernel
theorem dX11_last_54 : decode cX11_last 54 = .ok (.iload_n 1, 1) := by decide +kernel
theorem dX11_last_55 : decode cX11_last 55 = .ok (.ireturn, 1) := by decide +kernel
theorem dX11_mean_0 : decode cX11_mean 0 = .ok (.iload_n 1, 1) := by decide +kernel
theorem dX11_mean_1 : decode cX11_mean 1 = .ok (.iconst 0, 1) := by decide +kernel
theorem dX11_mean_2 : decode cX11_mean 2 = .ok (.iconst 1, 1) := by decide +kernel
theorem dX11_mean_3 : decode cX11_mean 3 = .ok (.invokestatic 145, 3) := by decide +kernel
theorem dX11_mean_6 : decode cX11_mean 6 = .ok (.ifCond .ne 7, 3) := by decide +kernel
theorem dX11_mean_9 : decode cX11_mean 9 = .ok (.ldc2_w 241, 3) := by decide +kernel
theorem dX11_mean_12 : decode cX11_mean 12 = .ok (.lreturn, 1) := by decide +kernel
theorem dX11_mean_13 : decode cX11_mean 13 = .ok (.aload_n 0, 1) := by decide +kernel
theorem dX11_mean_14 : decode cX11_mean 14 = .ok (.getfield 46, 3) := by decide +kernel
theorem dX11_mean_17 : decode cX11_mean 17 = .ok (.invokevirtual 183, 3) := by decide +kernel
theorem dX11_mean_20 : decode cX11_mean 20 = .ok (.i2l, 1) := by decide +kernel
theorem dX11_mean_21 : decode cX11_mean 21 = .ok (.iconst 1, 1) := by decide +kernel
theorem dX11_mean_22 : decode cX11_mean 22 = .ok (.aload_n 0, 1) := by decide +kernel
theorem dX11_mean_23 : decode cX11_mean 23 = .ok (.getfield 46, 3) := by decide +kernel
theorem dX11_mean_26 : decode cX11_mean 26 = .ok (.getfield 161, 3) := by decide +kernel
theorem dX11_mean_29 : decode cX11_mean 29 = .ok (.invokestatic 233, 3) := by decide +kernel
theorem dX11_mean_32 : decode cX11_mean 32 = .ok (.i2l, 1) := by decide +kernel
theorem dX11_mean_33 : decode cX11_mean 33 = .ok (.iload_n 1, 1) := by decide +kernel
theorem dX11_mean_34 : decode cX11_mean 34 = .ok (.invokestatic 247, 3) := by decide +kernel
theorem dX11_mean_37 : decode cX11_mean 37 = .ok (.lreturn, 1) := by decide +kernel
theorem dX11_forged_0 : decode cX11_forged 0 = .ok (.aload_n 0, 1) := by decide +kernel
theorem dX11_forged_1 : decode cX11_forged 1 = .ok (.iload_n 1, 1) := by decide +kernel
theorem dX11_forged_2 : decode cX11_forged 2 = .ok (.invokevirtual 63, 3) := by decide +kernel
theorem dX11_forged_5 : decode cX11_forged 5 = .ok (.astore_n 2, 1) := by decide +kernel
theorem dX11_forged_6 : decode cX11_forged 6 = .ok (.aload_n 2, 1) := by decide +kernel
theorem dX11_forged_7 : decode cX11_forged 7 = .ok (.ifnonnull 9, 3) := by decide +kernel
theorem dX11_forged_10 : decode cX11_forged 10 = .ok (.aload_n 0, 1) := by decide +kernel
theorem dX11_forged_11 : decode cX11_forged 11 = .ok (.iload_n 1, 1) := by decide +kernel
theorem dX11_forged_12 : decode cX11_forged 12 = .ok (.invokevirtual 67, 3) := by decide +kernel
theorem dX11_forged_15 : decode cX11_forged 15 = .ok (.ireturn, 1) := by decide +kernel
theorem dX11_forged_16 : decode cX11_forged 16 = .ok (.aload_n 2, 1) := by decide +kernel
theorem dX11_forged_17 : decode cX11_forged 17 = .ok (.invokevirtual 83, 3) := by decide +kernel
theorem dX11_forged_20 : decode cX11_forged 20 = .ok (.iconst 2, 1) := by decide +kernel
theorem dX11_forged_21 : decode cX11_forged 21 = .ok (.irem, 1) := by decide +kernel
theorem dX11_forged_22 : decode cX11_forged 22 = .ok (.ifCond .eq 6, 3) := by decide +kernel
theorem dX11_forged_25 : decode cX11_forged 25 = .ok (.bipush (-13), 2) := by decide +kernel
theorem dX11_forged_27 : decode cX11_forged 27 = .ok (.ireturn, 1) := by decide +kernel
theorem dX11_forged_28 : decode cX11_forged 28 = .ok (.aload_n 0, 1) := by decide +kernel
theorem dX11_forged_29 : decode cX11_forged 29 = .ok (.invokevirtual 79, 3) := by decide +kernel
theorem dX11_forged_32 : decode cX11_forged 32 = .ok (.astore_n 3, 1) := by decide +kernel
theorem dX11_forged_33 : decode cX11_forged 33 = .ok (.iconst 0, 1) := by decide +kernel
theorem dX11_forged_34 : decode cX11_forged 34 = .ok (.istore 4, 2) := by decide +kernel
theorem dX11_forged_36 : decode cX11_forged 36 = .ok (.iload 4, 2) := by decide +kernel
theorem dX11_forged_38 : decode cX11_forged 38 = .ok (.aload_n 2, 1) := by decide +kernel
theorem dX11_forged_39 : decode cX11_forged 39 = .ok (.invokevirtual 83, 3) := by decide +kernel
theorem dX11_forged_42 : decode cX11_forged 42 = .ok (.iconst 2, 1) := by decide +kernel
theorem dX11_forged_43 : decode cX11_forged 43 = .ok (.idiv, 1) := by decide +kernel
theorem dX11_forged_44 : decode cX11_forged 44 = .ok (.if_icmp .ge 54, 3) := by decide +kernel
theorem dX11_forged_47 : decode cX11_forged 47 = .ok (.aload_n 2, 1) := by decide +kernel
theorem dX11_forged_48 : decode cX11_forged 48 = .ok (.iconst 2, 1) := by decide +kernel
theorem dX11_forged_49 : decode cX11_forged 49 = .ok (.iload 4, 2) := by decide +kernel
theorem dX11_forged_51 : decode cX11_forged 51 = .ok (.imul, 1) := by decide +kernel
theorem dX11_forged_52 : decode cX11_forged 52 = .ok (.invokevirtual 90, 3) := by decide +kernel
theorem dX11_forged_55 : decode cX11_forged 55 = .ok (.istore 5, 2) := by decide +kernel
theorem dX11_forged_57 : decode cX11_forged 57 = .ok (.aload_n 2, 1) := by decide +kernel
theorem dX11_forged_58 : decode cX11_forged 58 = .ok (.iconst 2, 1) := by decide +kernel
theorem dX11_forged_59 : decode cX11_forged 59 = .ok (.iload 4, 2) := by decide +kernel
theorem dX11_forged_61 : decode cX11_forged 61 = .ok (.imul, 1) := by decide +kernel
theorem dX11_forged_62 : decode cX11_forged 62 = .ok (.iconst 1, 1) := by decide +kernel
theorem dX11_forged_63 : decode cX11_forged 63 = .ok (.iadd, 1) := by decide +kernel
theorem dX11_forged_64 : decode cX11_forged 64 = .ok (.invokevirtual 90, 3) := by decide +kernel
theorem dX11_forged_67 : decode cX11_forged 67 = .ok (.istore 6, 2) := by decide +kernel
theorem dX11_forged_69 : decode cX11_forged 69 = .ok (.aload_n 3, 1) := by decide +kernel
theorem dX11_forged_70 : decode cX11_forged 70 = .ok (.iload 5, 2) := by decide +kernel
theorem dX11_forged_72 : decode cX11_forged 72 = .ok (.iload 6, 2) := by decide +kernel
theorem dX11_forged_74 : decode cX11_forged 74 = .ok (.invokevirtual 270, 3) := by decide +kernel
theorem dX11_forged_77 : decode cX11_forged 77 = .ok (.ifCond .ne 6, 3) := by decide +kernel
theorem dX11_forged_80 : decode cX11_forged 80 = .ok (.iload 4, 2) := by decide +kernel
theorem dX11_forged_82 : decode cX11_forged 82 = .ok (.ireturn, 1) := by decide +kernel
theorem dX11_forged_83 : decode cX11_forged 83 = .ok (.aload_n 3, 1) := by decide +kernel
theorem dX11_forged_84 : decode cX11_forged 84 = .ok (.iload 5, 2) := by decide +kernel
theorem dX11_forged_86 : decode cX11_forged 86 = .ok (.iload 6, 2) := by decide +kernel
theorem dX11_forged_88 : decode cX11_forged 88 = .ok (.invokevirtual 169, 3) := by decide +kernel
theorem dX11_forged_91 : decode cX11_forged 91 = .ok (.pop, 1) := by decide +kernel
theorem dX11_forged_92 : decode cX11_forged 92 = .ok (.iinc 4 1, 3) := by decide +kernel
theorem dX11_forged_95 : decode cX11_forged 95 = .ok (.goto (-59), 3) := by decide +kernel
theorem dX11_forged_98 : decode cX11_forged 98 = .ok (.bipush (-4), 2) := by decide +kernel
theorem dX11_forged_100 : decode cX11_forged 100 = .ok (.ireturn, 1) := by decide +kernel
theorem dX11_judge_0 : decode cX11_judge 0 = .ok (.iload_n 1, 1) := by decide +kernel
theorem dX11_judge_1 : decode cX11_judge 1 = .ok (.invokestatic 142, 3) := by decide +kernel
theorem dX11_judge_4 : decode cX11_judge 4 = .ok (.ifCond .eq 14, 3) := by decide +kernel
theorem dX11_judge_7 : decode cX11_judge 7 = .ok (.aload_n 0, 1) := by decide +kernel
theorem dX11_judge_8 : decode cX11_judge 8 = .ok (.getfield 46, 3) := by decide +kernel
theorem dX11_judge_11 : decode cX11_judge 11 = .ok (.iload_n 2, 1) := by decide +kernel
theorem dX11_judge_12 : decode cX11_judge 12 = .ok (.invokevirtual 100, 3) := by decide +kernel
theorem dX11_judge_15 : decode cX11_judge 15 = .ok (.ifCond .ne 5, 3) := by decide +kernel
theorem dX11_judge_18 : decode cX11_judge 18 = .ok (.iconst (-1), 1) := by decide +kernel
theorem dX11_judge_19 : decode cX11_judge 19 = .ok (.ireturn, 1) := by decide +kernel
theorem dX11_judge_20 : decode cX11_judge 20 = .ok (.aload_n 0, 1) := by decide +kernel
theorem dX11_judge_21 : decode cX11_judge 21 = .ok (.iload_n 1, 1) := by decide +kernel
theorem dX11_judge_22 : decode cX11_judge 22 = .ok (.invokevirtual 63, 3) := by decide +kernel
theorem dX11_judge_25 : decode cX11_judge 25 = .ok (.astore_n 3, 1) := by decide +kernel
theorem dX11_judge_26 : decode cX11_judge 26 = .ok (.aload_n 3, 1) := by decide +kernel
theorem dX11_judge_27 : decode cX11_judge 27 = .ok (.ifnonnull 9, 3) := by decide +kernel
theorem dX11_judge_30 : decode cX11_judge 30 = .ok (.aload_n 0, 1) := by decide +kernel
theorem dX11_judge_31 : decode cX11_judge 31 = .ok (.iload_n 1, 1) := by decide +kernel
theorem dX11_judge_32 : decode cX11_judge 32 = .ok (.invokevirtual 67, 3) := by decide +kernel
theorem dX11_judge_35 : decode cX11_judge 35 = .ok (.ireturn, 1) := by decide +kernel
theorem dX11_judge_36 : decode cX11_judge 36 = .ok (.aload_n 0, 1) := by decide +kernel
theorem dX11_judge_37 : decode cX11_judge 37 = .ok (.invokevirtual 79, 3) := by decide +kernel
theorem dX11_judge_40 : decode cX11_judge 40 = .ok (.astore 4, 2) := by decide +kernel
theorem dX11_judge_42 : decode cX11_judge 42 = .ok (.iconst 0, 1) := by decide +kernel
theorem dX11_judge_43 : decode cX11_judge 43 = .ok (.istore 5, 2) := by decide +kernel
theorem dX11_judge_45 : decode cX11_judge 45 = .ok (.iload 5, 2) := by decide +kernel
theorem dX11_judge_47 : decode cX11_judge 47 = .ok (.aload_n 3, 1) := by decide +kernel
theorem dX11_judge_48 : decode cX11_judge 48 = .ok (.invokevirtual 83, 3) := by decide +kernel
theorem dX11_judge_51 : decode cX11_judge 51 = .ok (.if_icmp .ge 50, 3) := by decide +kernel
theorem dX11_judge_54 : decode cX11_judge 54 = .ok (.aload_n 3, 1) := by decide +kernel
theorem dX11_judge_55 : decode cX11_judge 55 = .ok (.iload 5, 2) := by decide +kernel
theorem dX11_judge_57 : decode cX11_judge 57 = .ok (.invokevirtual 90, 3) := by decide +kernel
theorem dX11_judge_60 : decode cX11_judge 60 = .ok (.aload_n 3, 1) := by decide +kernel
theorem dX11_judge_61 : decode cX11_judge 61 = .ok (.invokevirtual 273, 3) := by decide +kernel
theorem dX11_judge_64 : decode cX11_judge 64 = .ok (.if_icmp .eq 25, 3) := by decide +kernel
theorem dX11_judge_67 : decode cX11_judge 67 = .ok (.aload_n 3, 1) := by decide +kernel
theorem dX11_judge_68 : decode cX11_judge 68 = .ok (.iload 5, 2) := by decide +kernel
theorem dX11_judge_70 : decode cX11_judge 70 = .ok (.invokevirtual 90, 3) := by decide +kernel
theorem dX11_judge_73 : decode cX11_judge 73 = .ok (.aload 4, 2) := by decide +kernel
theorem dX11_judge_75 : decode cX11_judge 75 = .ok (.getfield 104, 3) := by decide +kernel
theorem dX11_judge_78 : decode cX11_judge 78 = .ok (.iload_n 2, 1) := by decide +kernel
theorem dX11_judge_79 : decode cX11_judge 79 = .ok (.aaload, 1) := by decide +kernel
theorem dX11_judge_80 : decode cX11_judge 80 = .ok (.getfield 118, 3) := by decide +kernel
theorem dX11_judge_83 : decode cX11_judge 83 = .ok (.if_icmp .eq 6, 3) := by decide +kernel
theorem dX11_judge_86 : decode cX11_judge 86 = .ok (.iload 5, 2) := by decide +kernel
theorem dX11_judge_88 : decode cX11_judge 88 = .ok (.ireturn, 1) := by decide +kernel
theorem dX11_judge_89 : decode cX11_judge 89 = .ok (.aload 4, 2) := by decide +kernel
theorem dX11_judge_91 : decode cX11_judge 91 = .ok (.invokevirtual 203, 3) := by decide +kernel
theorem dX11_judge_94 : decode cX11_judge 94 = .ok (.pop, 1) := by decide +kernel
theorem dX11_judge_95 : decode cX11_judge 95 = .ok (.iinc 5 1, 3) := by decide +kernel
theorem dX11_judge_98 : decode cX11_judge 98 = .ok (.goto (-53), 3) := by decide +kernel
theorem dX11_judge_101 : decode cX11_judge 101 = .ok (.bipush (-4), 2) := by decide +kernel
theorem dX11_judge_103 : decode cX11_judge 103 = .ok (.ireturn, 1) := by decide +kernel
theorem dX11_weeks_0 : decode cX11_weeks 0 = .ok (.iload_n 1, 1) := by decide +kernel
theorem dX11_weeks_1 : decode cX11_weeks 1 = .ok (.iconst 1, 1) := by decide +kernel
theorem dX11_weeks_2 : decode cX11_weeks 2 = .ok (.bipush 20, 2) := by decide +kernel
theorem dX11_weeks_4 : decode cX11_weeks 4 = .ok (.invokestatic 145, 3) := by decide +kernel
theorem dX11_weeks_7 : decode cX11_weeks 7 = .ok (.ifCond .eq 12, 3) := by decide +kernel
theorem dX11_weeks_10 : decode cX11_weeks 10 = .ok (.iload_n 3, 1) := by decide +kernel
theorem dX11_weeks_11 : decode cX11_weeks 11 = .ok (.iconst 0, 1) := by decide +kernel
theorem dX11_weeks_12 : decode cX11_weeks 12 = .ok (.iconst 1, 1) := by decide +kernel
theorem dX11_weeks_13 : decode cX11_weeks 13 = .ok (.invokestatic 145, 3) := by decide +kernel
theorem dX11_weeks_16 : decode cX11_weeks 16 = .ok (.ifCond .ne 5, 3) := by decide +kernel
theorem dX11_weeks_19 : decode cX11_weeks 19 = .ok (.iconst (-1), 1) := by decide +kernel
theorem dX11_weeks_20 : decode cX11_weeks 20 = .ok (.ireturn, 1) := by decide +kernel
theorem dX11_weeks_21 : decode cX11_weeks 21 = .ok (.aload_n 0, 1) := by decide +kernel
theorem dX11_weeks_22 : decode cX11_weeks 22 = .ok (.getfield 46, 3) := by decide +kernel
theorem dX11_weeks_25 : decode cX11_weeks 25 = .ok (.getfield 161, 3) := by decide +kernel
theorem dX11_weeks_28 : decode cX11_weeks 28 = .ok (.ifCond .ne 6, 3) := by decide +kernel
theorem dX11_weeks_31 : decode cX11_weeks 31 = .ok (.bipush (-3), 2) := by decide +kernel
theorem dX11_weeks_33 : decode cX11_weeks 33 = .ok (.ireturn, 1) := by decide +kernel
theorem dX11_weeks_34 : decode cX11_weeks 34 = .ok (.iload_n 2, 1) := by decide +kernel
theorem dX11_weeks_35 : decode cX11_weeks 35 = .ok (.istore 4, 2) := by decide +kernel
theorem dX11_weeks_37 : decode cX11_weeks 37 = .ok (.iconst 0, 1) := by decide +kernel
theorem dX11_weeks_38 : decode cX11_weeks 38 = .ok (.istore 5, 2) := by decide +kernel
theorem dX11_weeks_40 : decode cX11_weeks 40 = .ok (.iconst 0, 1) := by decide +kernel
theorem dX11_weeks_41 : decode cX11_weeks 41 = .ok (.istore 6, 2) := by decide +kernel
theorem dX11_weeks_43 : decode cX11_weeks 43 = .ok (.iconst 0, 1) := by decide +kernel
theorem dX11_weeks_44 : decode cX11_weeks 44 = .ok (.istore 7, 2) := by decide +kernel
theorem dX11_weeks_46 : decode cX11_weeks 46 = .ok (.iload 7, 2) := by decide +kernel
theorem dX11_weeks_48 : decode cX11_weeks 48 = .ok (.iload_n 1, 1) := by decide +kernel
theorem dX11_weeks_49 : decode cX11_weeks 49 = .ok (.if_icmp .ge 112, 3) := by decide +kernel
theorem dX11_weeks_52 : decode cX11_weeks 52 = .ok (.aload_n 0, 1) := by decide +kernel
theorem dX11_weeks_53 : decode cX11_weeks 53 = .ok (.invokevirtual 79, 3) := by decide +kernel
theorem dX11_weeks_56 : decode cX11_weeks 56 = .ok (.astore 8, 2) := by decide +kernel
theorem dX11_weeks_58 : decode cX11_weeks 58 = .ok (.iconst 0, 1) := by decide +kernel
theorem dX11_weeks_59 : decode cX11_weeks 59 = .ok (.istore 9, 2) := by decide +kernel
theorem dX11_weeks_61 : decode cX11_weeks 61 = .ok (.iload 9, 2) := by decide +kernel
theorem dX11_weeks_63 : decode cX11_weeks 63 = .ok (.bipush 10, 2) := by decide +kernel
theorem dX11_weeks_65 : decode cX11_weeks 65 = .ok (.if_icmp .ge 72, 3) := by decide +kernel
theorem dX11_weeks_68 : decode cX11_weeks 68 = .ok (.iload 4, 2) := by decide +kernel
theorem dX11_weeks_70 : decode cX11_weeks 70 = .ok (.invokestatic 276, 3) := by decide +kernel
theorem dX11_weeks_73 : decode cX11_weeks 73 = .ok (.istore 4, 2) := by decide +kernel
theorem dX11_weeks_75 : decode cX11_weeks 75 = .ok (.aload_n 0, 1) := by decide +kernel
theorem dX11_weeks_76 : decode cX11_weeks 76 = .ok (.getfield 46, 3) := by decide +kernel
theorem dX11_weeks_79 : decode cX11_weeks 79 = .ok (.getfield 161, 3) := by decide +kernel
theorem dX11_weeks_82 : decode cX11_weeks 82 = .ok (.iload 4, 2) := by decide +kernel
theorem dX11_weeks_84 : decode cX11_weeks 84 = .ok (.invokestatic 279, 3) := by decide +kernel
theorem dX11_weeks_87 : decode cX11_weeks 87 = .ok (.istore 10, 2) := by decide +kernel
theorem dX11_weeks_89 : decode cX11_weeks 89 = .ok (.iload 4, 2) := by decide +kernel
theorem dX11_weeks_91 : decode cX11_weeks 91 = .ok (.invokestatic 276, 3) := by decide +kernel
theorem dX11_weeks_94 : decode cX11_weeks 94 = .ok (.istore 4, 2) := by decide +kernel
theorem dX11_weeks_96 : decode cX11_weeks 96 = .ok (.iconst 4, 1) := by decide +kernel
theorem dX11_weeks_97 : decode cX11_weeks 97 = .ok (.iload 4, 2) := by decide +kernel
theorem dX11_weeks_99 : decode cX11_weeks 99 = .ok (.invokestatic 279, 3) := by decide +kernel
theorem dX11_weeks_102 : decode cX11_weeks 102 = .ok (.istore 11, 2) := by decide +kernel
theorem dX11_weeks_104 : decode cX11_weeks 104 = .ok (.aload 8, 2) := by decide +kernel
theorem dX11_weeks_106 : decode cX11_weeks 106 = .ok (.iload 10, 2) := by decide +kernel
theorem dX11_weeks_108 : decode cX11_weeks 108 = .ok (.iload 11, 2) := by decide +kernel
theorem dX11_weeks_110 : decode cX11_weeks 110 = .ok (.invokevirtual 270, 3) := by decide +kernel
theorem dX11_weeks_113 : decode cX11_weeks 113 = .ok (.ifCond .eq 18, 3) := by decide +kernel
theorem dX11_weeks_116 : decode cX11_weeks 116 = .ok (.aload 8, 2) := by decide +kernel
theorem dX11_weeks_118 : decode cX11_weeks 118 = .ok (.iload 10, 2) := by decide +kernel
theorem dX11_weeks_120 : decode cX11_weeks 120 = .ok (.iload 11, 2) := by decide +kernel
theorem dX11_weeks_122 : decode cX11_weeks 122 = .ok (.invokevirtual 169, 3) := by decide +kernel
theorem dX11_weeks_125 : decode cX11_weeks 125 = .ok (.ifCond .eq 6, 3) := by decide +kernel
theorem dX11_weeks_128 : decode cX11_weeks 128 = .ok (.iinc 6 1, 3) := by decide +kernel
theorem dX11_weeks_131 : decode cX11_weeks 131 = .ok (.iinc 9 1, 3) := by decide +kernel
theorem dX11_weeks_134 : decode cX11_weeks 134 = .ok (.goto (-73), 3) := by decide +kernel
theorem dX11_weeks_137 : decode cX11_weeks 137 = .ok (.iload 5, 2) := by decide +kernel
theorem dX11_weeks_139 : decode cX11_weeks 139 = .ok (.aload 8, 2) := by decide +kernel
theorem dX11_weeks_141 : decode cX11_weeks 141 = .ok (.invokevirtual 183, 3) := by decide +kernel
theorem dX11_weeks_144 : decode cX11_weeks 144 = .ok (.aload_n 0, 1) := by decide +kernel
theorem dX11_weeks_145 : decode cX11_weeks 145 = .ok (.getfield 46, 3) := by decide +kernel
theorem dX11_weeks_148 : decode cX11_weeks 148 = .ok (.invokevirtual 183, 3) := by decide +kernel
theorem dX11_weeks_151 : decode cX11_weeks 151 = .ok (.isub, 1) := by decide +kernel
theorem dX11_weeks_152 : decode cX11_weeks 152 = .ok (.iadd, 1) := by decide +kernel
theorem dX11_weeks_153 : decode cX11_weeks 153 = .ok (.istore 5, 2) := by decide +kernel
theorem dX11_weeks_155 : decode cX11_weeks 155 = .ok (.iinc 7 1, 3) := by decide +kernel
theorem dX11_weeks_158 : decode cX11_weeks 158 = .ok (.goto (-112), 3) := by decide +kernel
theorem dX11_weeks_161 : decode cX11_weeks 161 = .ok (.iload_n 3, 1) := by decide +kernel
theorem dX11_weeks_162 : decode cX11_weeks 162 = .ok (.ifCond .ne 8, 3) := by decide +kernel
theorem dX11_weeks_165 : decode cX11_weeks 165 = .ok (.iload 5, 2) := by decide +kernel
theorem dX11_weeks_167 : decode cX11_weeks 167 = .ok (.goto 5, 3) := by decide +kernel
theorem dX11_weeks_170 : decode cX11_weeks 170 = .ok (.iload 6, 2) := by decide +kernel
theorem dX11_weeks_172 : decode cX11_weeks 172 = .ok (.ireturn, 1) := by decide +kernel
theorem dX11_image_0 : decode cX11_image 0 = .ok (.aload_n 0, 1) := by decide +kernel
theorem dX11_image_1 : decode cX11_image 1 = .ok (.getfield 50, 3) := by decide +kernel
theorem dX11_image_4 : decode cX11_image 4 = .ok (.aload_n 0, 1) := by decide +kernel
theorem dX11_image_5 : decode cX11_image 5 = .ok (.getfield 46, 3) := by decide +kernel
theorem dX11_image_8 : decode cX11_image 8 = .ok (.invokevirtual 96, 3) := by decide +kernel
theorem dX11_image_11 : decode cX11_image 11 = .ok (.aload_n 0, 1) := by decide +kernel
theorem dX11_image_12 : decode cX11_image 12 = .ok (.iconst 1, 1) := by decide +kernel
theorem dX11_image_13 : decode cX11_image 13 = .ok (.putfield 282, 3) := by decide +kernel
theorem dX11_image_16 : decode cX11_image 16 = .ok (.aload_n 0, 1) := by decide +kernel
theorem dX11_image_17 : decode cX11_image 17 = .ok (.getfield 46, 3) := by decide +kernel
theorem dX11_image_20 : decode cX11_image 20 = .ok (.getfield 166, 3) := by decide +kernel
theorem dX11_image_23 : decode cX11_image 23 = .ok (.ireturn, 1) := by decide +kernel
theorem dX11_restore_0 : decode cX11_restore 0 = .ok (.aload_n 0, 1) := by decide +kernel
theorem dX11_restore_1 : decode cX11_restore 1 = .ok (.getfield 282, 3) := by decide +kernel
theorem dX11_restore_4 : decode cX11_restore 4 = .ok (.ifCond .ne 6, 3) := by decide +kernel
theorem dX11_restore_7 : decode cX11_restore 7 = .ok (.bipush (-3), 2) := by decide +kernel
theorem dX11_restore_9 : decode cX11_restore 9 = .ok (.ireturn, 1) := by decide +kernel
theorem dX11_restore_10 : decode cX11_restore 10 = .ok (.aload_n 0, 1) := by decide +kernel
theorem dX11_restore_11 : decode cX11_restore 11 = .ok (.getfield 46, 3) := by decide +kernel
theorem dX11_restore_14 : decode cX11_restore 14 = .ok (.aload_n 0, 1) := by decide +kernel
theorem dX11_restore_15 : decode cX11_restore 15 = .ok (.getfield 50, 3) := by decide +kernel
theorem dX11_restore_18 : decode cX11_restore 18 = .ok (.invokevirtual 96, 3) := by decide +kernel
theorem dX11_restore_21 : decode cX11_restore 21 = .ok (.aload_n 0, 1) := by decide +kernel
theorem dX11_restore_22 : decode cX11_restore 22 = .ok (.getfield 46, 3) := by decide +kernel
theorem dX11_restore_25 : decode cX11_restore 25 = .ok (.getfield 166, 3) := by decide +kernel
theorem dX11_restore_28 : decode cX11_restore 28 = .ok (.ireturn, 1) := by decide +kernel
theorem dX11_count_0 : decode cX11_count 0 = .ok (.iload_n 1, 1) := by decide +kernel
theorem dX11_count_1 : decode cX11_count 1 = .ok (.tableswitch 87 0 5 #[39, 47, 55, 63, 71, 79], 39) := by decide +kernel
theorem dX11_count_40 : decode cX11_count 40 = .ok (.aload_n 0, 1) := by decide +kernel
theorem dX11_count_41 : decode cX11_count 41 = .ok (.getfield 46, 3) := by decide +kernel
theorem dX11_count_44 : decode cX11_count 44 = .ok (.getfield 161, 3) := by decide +kernel
theorem dX11_count_47 : decode cX11_count 47 = .ok (.ireturn, 1) := by decide +kernel
theorem dX11_count_48 : decode cX11_count 48 = .ok (.aload_n 0, 1) := by decide +kernel
theorem dX11_count_49 : decode cX11_count 49 = .ok (.getfield 46, 3) := by decide +kernel
theorem dX11_count_52 : decode cX11_count 52 = .ok (.getfield 166, 3) := by decide +kernel
theorem dX11_count_55 : decode cX11_count 55 = .ok (.ireturn, 1) := by decide +kernel
theorem dX11_count_56 : decode cX11_count 56 = .ok (.aload_n 0, 1) := by decide +kernel
theorem dX11_count_57 : decode cX11_count 57 = .ok (.getfield 46, 3) := by decide +kernel
theorem dX11_count_60 : decode cX11_count 60 = .ok (.invokevirtual 286, 3) := by decide +kernel
theorem dX11_count_63 : decode cX11_count 63 = .ok (.ireturn, 1) := by decide +kernel
theorem dX11_count_64 : decode cX11_count 64 = .ok (.aload_n 0, 1) := by decide +kernel
theorem dX11_count_65 : decode cX11_count 65 = .ok (.getfield 46, 3) := by decide +kernel
theorem dX11_count_68 : decode cX11_count 68 = .ok (.invokevirtual 183, 3) := by decide +kernel
theorem dX11_count_71 : decode cX11_count 71 = .ok (.ireturn, 1) := by decide +kernel
theorem dX11_count_72 : decode cX11_count 72 = .ok (.aload_n 0, 1) := by decide +kernel
theorem dX11_count_73 : decode cX11_count 73 = .ok (.getfield 46, 3) := by decide +kernel
theorem dX11_count_76 : decode cX11_count 76 = .ok (.invokevirtual 289, 3) := by decide +kernel
theorem dX11_count_79 : decode cX11_count 79 = .ok (.ireturn, 1) := by decide +kernel
theorem dX11_count_80 : decode cX11_count 80 = .ok (.aload_n 0, 1) := by decide +kernel
theorem dX11_count_81 : decode cX11_count 81 = .ok (.getfield 46, 3) := by decide +kernel
theorem dX11_count_84 : decode cX11_count 84 = .ok (.invokevirtual 206, 3) := by decide +kernel
theorem dX11_count_87 : decode cX11_count 87 = .ok (.ireturn, 1) := by decide +kernel
theorem dX11_count_88 : decode cX11_count 88 = .ok (.iconst (-1), 1) := by decide +kernel
theorem dX11_count_89 : decode cX11_count 89 = .ok (.ireturn, 1) := by decide +kernel
theorem dX11_keep_0 : decode cX11_keep 0 = .ok (.iload_n 1, 1) := by decide +kernel
theorem dX11_keep_1 : decode cX11_keep 1 = .ok (.invokestatic 142, 3) := by decide +kernel
theorem dX11_keep_4 : decode cX11_keep 4 = .ok (.ifCond .eq 12, 3) := by decide +kernel
theorem dX11_keep_7 : decode cX11_keep 7 = .ok (.iload_n 2, 1) := by decide +kernel
theorem dX11_keep_8 : decode cX11_keep 8 = .ok (.iconst 0, 1) := by decide +kernel
theorem dX11_keep_9 : decode cX11_keep 9 = .ok (.iconst 1, 1) := by decide +kernel
theorem dX11_keep_10 : decode cX11_keep 10 = .ok (.invokestatic 145, 3) := by decide +kernel
theorem dX11_keep_13 : decode cX11_keep 13 = .ok (.ifCond .ne 5, 3) := by decide +kernel
theorem dX11_keep_16 : decode cX11_keep 16 = .ok (.iconst (-1), 1) := by decide +kernel
theorem dX11_keep_17 : decode cX11_keep 17 = .ok (.ireturn, 1) := by decide +kernel
theorem dX11_keep_18 : decode cX11_keep 18 = .ok (.iload_n 2, 1) := by decide +kernel
theorem dX11_keep_19 : decode cX11_keep 19 = .ok (.iconst 1, 1) := by decide +kernel
theorem dX11_keep_20 : decode cX11_keep 20 = .ok (.if_icmp .ne 26, 3) := by decide +kernel
theorem dX11_keep_23 : decode cX11_keep 23 = .ok (.iload_n 3, 1) := by decide +kernel
theorem dX11_keep_24 : decode cX11_keep 24 = .ok (.iconst 0, 1) := by decide +kernel
theorem dX11_keep_25 : decode cX11_keep 25 = .ok (.bipush 7, 2) := by decide +kernel
theorem dX11_keep_27 : decode cX11_keep 27 = .ok (.invokestatic 145, 3) := by decide +kernel
theorem dX11_keep_30 : decode cX11_keep 30 = .ok (.ifCond .eq 14, 3) := by decide +kernel
theorem dX11_keep_33 : decode cX11_keep 33 = .ok (.iload 4, 2) := by decide +kernel
theorem dX11_keep_35 : decode cX11_keep 35 = .ok (.iconst 0, 1) := by decide +kernel
theorem dX11_keep_36 : decode cX11_keep 36 = .ok (.bipush 9, 2) := by decide +kernel
theorem dX11_keep_38 : decode cX11_keep 38 = .ok (.invokestatic 145, 3) := by decide +kernel
theorem dX11_keep_41 : decode cX11_keep 41 = .ok (.ifCond .ne 5, 3) := by decide +kernel
theorem dX11_keep_44 : decode cX11_keep 44 = .ok (.iconst (-1), 1) := by decide +kernel
theorem dX11_keep_45 : decode cX11_keep 45 = .ok (.ireturn, 1) := by decide +kernel
theorem dX11_keep_46 : decode cX11_keep 46 = .ok (.aload_n 0, 1) := by decide +kernel
theorem dX11_keep_47 : decode cX11_keep 47 = .ok (.getfield 36, 3) := by decide +kernel
theorem dX11_keep_50 : decode cX11_keep 50 = .ok (.iload_n 1, 1) := by decide +kernel
theorem dX11_keep_51 : decode cX11_keep 51 = .ok (.aconst_null, 1) := by decide +kernel
theorem dX11_keep_52 : decode cX11_keep 52 = .ok (.aastore, 1) := by decide +kernel
theorem dX11_keep_53 : decode cX11_keep 53 = .ok (.aload_n 0, 1) := by decide +kernel
theorem dX11_keep_54 : decode cX11_keep 54 = .ok (.getfield 30, 3) := by decide +kernel
theorem dX11_keep_57 : decode cX11_keep 57 = .ok (.iload_n 1, 1) := by decide +kernel
theorem dX11_keep_58 : decode cX11_keep 58 = .ok (.iload_n 2, 1) := by decide +kernel
theorem dX11_keep_59 : decode cX11_keep 59 = .ok (.ifCond .ne 7, 3) := by decide +kernel
theorem dX11_keep_62 : decode cX11_keep 62 = .ok (.aconst_null, 1) := by decide +kernel
theorem dX11_keep_63 : decode cX11_keep 63 = .ok (.goto 9, 3) := by decide +kernel
theorem dX11_keep_66 : decode cX11_keep 66 = .ok (.iload_n 3, 1) := by decide +kernel
theorem dX11_keep_67 : decode cX11_keep 67 = .ok (.iload 4, 2) := by decide +kernel
theorem dX11_keep_69 : decode cX11_keep 69 = .ok (.invokestatic 251, 3) := by decide +kernel
theorem dX11_keep_72 : decode cX11_keep 72 = .ok (.aastore, 1) := by decide +kernel
theorem dX11_keep_73 : decode cX11_keep 73 = .ok (.iconst 0, 1) := by decide +kernel
theorem dX11_keep_74 : decode cX11_keep 74 = .ok (.ireturn, 1) := by decide +kernel
theorem dX11_row_0 : decode cX11_row 0 = .ok (.iload_n 1, 1) := by decide +kernel
theorem dX11_row_1 : decode cX11_row 1 = .ok (.invokestatic 142, 3) := by decide +kernel
theorem dX11_row_4 : decode cX11_row 4 = .ok (.ifCond .eq 18, 3) := by decide +kernel
theorem dX11_row_7 : decode cX11_row 7 = .ok (.iload_n 2, 1) := by decide +kernel
theorem dX11_row_8 : decode cX11_row 8 = .ok (.iconst 0, 1) := by decide +kernel
theorem dX11_row_9 : decode cX11_row 9 = .ok (.iconst 2, 1) := by decide +kernel
theorem dX11_row_10 : decode cX11_row 10 = .ok (.invokestatic 145, 3) := by decide +kernel
theorem dX11_row_13 : decode cX11_row 13 = .ok (.ifCond .eq 9, 3) := by decide +kernel
theorem dX11_row_16 : decode cX11_row 16 = .ok (.iload_n 3, 1) := by decide +kernel
theorem dX11_row_17 : decode cX11_row 17 = .ok (.bipush 100, 2) := by decide +kernel
theorem dX11_row_19 : decode cX11_row 19 = .ok (.if_icmp .le 5, 3) := by decide +kernel
theorem dX11_row_22 : decode cX11_row 22 = .ok (.iconst (-1), 1) := by decide +kernel
theorem dX11_row_23 : decode cX11_row 23 = .ok (.ireturn, 1) := by decide +kernel
theorem dX11_row_24 : decode cX11_row 24 = .ok (.iload_n 3, 1) := by decide +kernel
theorem dX11_row_25 : decode cX11_row 25 = .ok (.ifCond .ge 6, 3) := by decide +kernel
theorem dX11_row_28 : decode cX11_row 28 = .ok (.bipush (-14), 2) := by decide +kernel
theorem dX11_row_30 : decode cX11_row 30 = .ok (.ireturn, 1) := by decide +kernel
theorem dX11_row_31 : decode cX11_row 31 = .ok (.aload_n 0, 1) := by decide +kernel
theorem dX11_row_32 : decode cX11_row 32 = .ok (.getfield 30, 3) := by decide +kernel
theorem dX11_row_35 : decode cX11_row 35 = .ok (.iload_n 1, 1) := by decide +kernel
theorem dX11_row_36 : decode cX11_row 36 = .ok (.aconst_null, 1) := by decide +kernel
theorem dX11_row_37 : decode cX11_row 37 = .ok (.aastore, 1) := by decide +kernel
theorem dX11_row_38 : decode cX11_row 38 = .ok (.aload_n 0, 1) := by decide +kernel
theorem dX11_row_39 : decode cX11_row 39 = .ok (.getfield 36, 3) := by decide +kernel
theorem dX11_row_42 : decode cX11_row 42 = .ok (.iload_n 1, 1) := by decide +kernel
theorem dX11_row_43 : decode cX11_row 43 = .ok (.new 34, 3) := by decide +kernel
theorem dX11_row_46 : decode cX11_row 46 = .ok (.dup, 1) := by decide +kernel
theorem dX11_row_47 : decode cX11_row 47 = .ok (.iload_n 2, 1) := by decide +kernel
theorem dX11_row_48 : decode cX11_row 48 = .ok (.iload_n 3, 1) := by decide +kernel
theorem dX11_row_49 : decode cX11_row 49 = .ok (.invokespecial 292, 3) := by decide +kernel
theorem dX11_row_52 : decode cX11_row 52 = .ok (.aastore, 1) := by decide +kernel
theorem dX11_row_53 : decode cX11_row 53 = .ok (.iconst 0, 1) := by decide +kernel
theorem dX11_row_54 : decode cX11_row 54 = .ok (.ireturn, 1) := by decide +kernel
theorem dX11_put_0 : decode cX11_put 0 = .ok (.aload_n 0, 1) := by decide +kernel
theorem dX11_put_1 : decode cX11_put 1 = .ok (.iload_n 1, 1) := by decide +kernel
theorem dX11_put_2 : decode cX11_put 2 = .ok (.invokevirtual 63, 3) := by decide +kernel
theorem dX11_put_5 : decode cX11_put 5 = .ok (.astore 4, 2) := by decide +kernel
theorem dX11_put_7 : decode cX11_put 7 = .ok (.aload 4, 2) := by decide +kernel
theorem dX11_put_9 : decode cX11_put 9 = .ok (.ifnonnull 9, 3) := by decide +kernel
theorem dX11_put_12 : decode cX11_put 12 = .ok (.aload_n 0, 1) := by decide +kernel
theorem dX11_put_13 : decode cX11_put 13 = .ok (.iload_n 1, 1) := by decide +kernel
theorem dX11_put_14 : decode cX11_put 14 = .ok (.invokevirtual 67, 3) := by decide +kernel
theorem dX11_put_17 : decode cX11_put 17 = .ok (.ireturn, 1) := by decide +kernel
theorem dX11_put_18 : decode cX11_put 18 = .ok (.aload 4, 2) := by decide +kernel
theorem dX11_put_20 : decode cX11_put 20 = .ok (.iload_n 2, 1) := by decide +kernel
theorem dX11_put_21 : decode cX11_put 21 = .ok (.invokevirtual 294, 3) := by decide +kernel
theorem dX11_put_24 : decode cX11_put 24 = .ok (.ifCond .ne 6, 3) := by decide +kernel
theorem dX11_put_27 : decode cX11_put 27 = .ok (.bipush (-13), 2) := by decide +kernel
theorem dX11_put_29 : decode cX11_put 29 = .ok (.ireturn, 1) := by decide +kernel
theorem dX11_put_30 : decode cX11_put 30 = .ok (.aload 4, 2) := by decide +kernel
theorem dX11_put_32 : decode cX11_put 32 = .ok (.iload_n 2, 1) := by decide +kernel
theorem dX11_put_33 : decode cX11_put 33 = .ok (.iload_n 3, 1) := by decide +kernel
theorem dX11_put_34 : decode cX11_put 34 = .ok (.invokevirtual 295, 3) := by decide +kernel
theorem dX11_put_37 : decode cX11_put 37 = .ok (.iconst 0, 1) := by decide +kernel
theorem dX11_put_38 : decode cX11_put 38 = .ok (.ireturn, 1) := by decide +kernel
theorem dX11_element_0 : decode cX11_element 0 = .ok (.iload_n 1, 1) := by decide +kernel
theorem dX11_element_1 : decode cX11_element 1 = .ok (.invokestatic 142, 3) := by decide +kernel
theorem dX11_element_4 : decode cX11_element 4 = .ok (.ifCond .ne 14, 3) := by decide +kernel
theorem dX11_element_7 : decode cX11_element 7 = .ok (.new 298, 3) := by decide +kernel
theorem dX11_element_10 : decode cX11_element 10 = .ok (.dup, 1) := by decide +kernel
theorem dX11_element_11 : decode cX11_element 11 = .ok (.ldc_w 300, 3) := by decide +kernel
theorem dX11_element_14 : decode cX11_element 14 = .ok (.invokespecial 302, 3) := by decide +kernel
theorem dX11_element_17 : decode cX11_element 17 = .ok (.athrow, 1) := by decide +kernel
theorem dX11_element_18 : decode cX11_element 18 = .ok (.aload_n 0, 1) := by decide +kernel
theorem dX11_element_19 : decode cX11_element 19 = .ok (.iload_n 1, 1) := by decide +kernel
theorem dX11_element_20 : decode cX11_element 20 = .ok (.invokevirtual 63, 3) := by decide +kernel
theorem dX11_element_23 : decode cX11_element 23 = .ok (.astore_n 3, 1) := by decide +kernel
theorem dX11_element_24 : decode cX11_element 24 = .ok (.aload_n 3, 1) := by decide +kernel
theorem dX11_element_25 : decode cX11_element 25 = .ok (.ifnonnull 14, 3) := by decide +kernel
theorem dX11_element_28 : decode cX11_element 28 = .ok (.new 305, 3) := by decide +kernel
theorem dX11_element_31 : decode cX11_element 31 = .ok (.dup, 1) := by decide +kernel
theorem dX11_element_32 : decode cX11_element 32 = .ok (.ldc_w 307, 3) := by decide +kernel
theorem dX11_element_35 : decode cX11_element 35 = .ok (.invokespecial 309, 3) := by decide +kernel
theorem dX11_element_38 : decode cX11_element 38 = .ok (.athrow, 1) := by decide +kernel
theorem dX11_element_39 : decode cX11_element 39 = .ok (.aload_n 3, 1) := by decide +kernel
theorem dX11_element_40 : decode cX11_element 40 = .ok (.iload_n 2, 1) := by decide +kernel
theorem dX11_element_41 : decode cX11_element 41 = .ok (.invokevirtual 294, 3) := by decide +kernel
theorem dX11_element_44 : decode cX11_element 44 = .ok (.ifCond .ne 14, 3) := by decide +kernel
theorem dX11_element_47 : decode cX11_element 47 = .ok (.new 305, 3) := by decide +kernel
theorem dX11_element_50 : decode cX11_element 50 = .ok (.dup, 1) := by decide +kernel
theorem dX11_element_51 : decode cX11_element 51 = .ok (.ldc_w 310, 3) := by decide +kernel
theorem dX11_element_54 : decode cX11_element 54 = .ok (.invokespecial 309, 3) := by decide +kernel
theorem dX11_element_57 : decode cX11_element 57 = .ok (.athrow, 1) := by decide +kernel
theorem dX11_element_58 : decode cX11_element 58 = .ok (.aload_n 3, 1) := by decide +kernel
theorem dX11_element_59 : decode cX11_element 59 = .ok (.iload_n 2, 1) := by decide +kernel
theorem dX11_element_60 : decode cX11_element 60 = .ok (.invokevirtual 90, 3) := by decide +kernel
theorem dX11_element_63 : decode cX11_element 63 = .ok (.i2l, 1) := by decide +kernel
theorem dX11_element_64 : decode cX11_element 64 = .ok (.lreturn, 1) := by decide +kernel
theorem dX11_copy_0 : decode cX11_copy 0 = .ok (.iload_n 1, 1) := by decide +kernel
theorem dX11_copy_1 : decode cX11_copy 1 = .ok (.invokestatic 142, 3) := by decide +kernel
theorem dX11_copy_4 : decode cX11_copy 4 = .ok (.ifCond .eq 10, 3) := by decide +kernel
theorem dX11_copy_7 : decode cX11_copy 7 = .ok (.iload_n 3, 1) := by decide +kernel
theorem dX11_copy_8 : decode cX11_copy 8 = .ok (.invokestatic 142, 3) := by decide +kernel
theorem dX11_copy_11 : decode cX11_copy 11 = .ok (.ifCond .ne 5, 3) := by decide +kernel
theorem dX11_copy_14 : decode cX11_copy 14 = .ok (.iconst (-1), 1) := by decide +kernel
theorem dX11_copy_15 : decode cX11_copy 15 = .ok (.ireturn, 1) := by decide +kernel
theorem dX11_copy_16 : decode cX11_copy 16 = .ok (.aload_n 0, 1) := by decide +kernel
theorem dX11_copy_17 : decode cX11_copy 17 = .ok (.iload_n 1, 1) := by decide +kernel
theorem dX11_copy_18 : decode cX11_copy 18 = .ok (.invokevirtual 312, 3) := by decide +kernel
theorem dX11_copy_21 : decode cX11_copy 21 = .ok (.ifCond .ne 11, 3) := by decide +kernel
theorem dX11_copy_24 : decode cX11_copy 24 = .ok (.aload_n 0, 1) := by decide +kernel
theorem dX11_copy_25 : decode cX11_copy 25 = .ok (.iload_n 3, 1) := by decide +kernel
theorem dX11_copy_26 : decode cX11_copy 26 = .ok (.invokevirtual 312, 3) := by decide +kernel
theorem dX11_copy_29 : decode cX11_copy 29 = .ok (.ifCond .eq 6, 3) := by decide +kernel
theorem dX11_copy_32 : decode cX11_copy 32 = .ok (.bipush (-11), 2) := by decide +kernel
theorem dX11_copy_34 : decode cX11_copy 34 = .ok (.ireturn, 1) := by decide +kernel
theorem dX11_copy_35 : decode cX11_copy 35 = .ok (.aload_n 0, 1) := by decide +kernel
theorem dX11_copy_36 : decode cX11_copy 36 = .ok (.iload_n 1, 1) := by decide +kernel
theorem dX11_copy_37 : decode cX11_copy 37 = .ok (.invokevirtual 63, 3) := by decide +kernel
theorem dX11_copy_40 : decode cX11_copy 40 = .ok (.astore 6, 2) := by decide +kernel
theorem dX11_copy_42 : decode cX11_copy 42 = .ok (.aload_n 0, 1) := by decide +kernel
theorem dX11_copy_43 : decode cX11_copy 43 = .ok (.iload_n 3, 1) := by decide +kernel
theorem dX11_copy_44 : decode cX11_copy 44 = .ok (.invokevirtual 63, 3) := by decide +kernel
theorem dX11_copy_47 : decode cX11_copy 47 = .ok (.astore 7, 2) := by decide +kernel
theorem dX11_copy_49 : decode cX11_copy 49 = .ok (.aload 6, 2) := by decide +kernel
theorem dX11_copy_51 : decode cX11_copy 51 = .ok (.ifnull 21, 3) := by decide +kernel
theorem dX11_copy_54 : decode cX11_copy 54 = .ok (.aload 7, 2) := by decide +kernel
theorem dX11_copy_56 : decode cX11_copy 56 = .ok (.ifnull 16, 3) := by decide +kernel
theorem dX11_copy_59 : decode cX11_copy 59 = .ok (.aload 6, 2) := by decide +kernel
theorem dX11_copy_61 : decode cX11_copy 61 = .ok (.getfield 71, 3) := by decide +kernel
theorem dX11_copy_64 : decode cX11_copy 64 = .ok (.aload 7, 2) := by decide +kernel
theorem dX11_copy_66 : decode cX11_copy 66 = .ok (.getfield 71, 3) := by decide +kernel
theorem dX11_copy_69 : decode cX11_copy 69 = .ok (.if_icmp .eq 6, 3) := by decide +kernel
theorem dX11_copy_72 : decode cX11_copy 72 = .ok (.bipush (-12), 2) := by decide +kernel
theorem dX11_copy_74 : decode cX11_copy 74 = .ok (.ireturn, 1) := by decide +kernel
theorem dX11_copy_75 : decode cX11_copy 75 = .ok (.aload 6, 2) := by decide +kernel
theorem dX11_copy_77 : decode cX11_copy 77 = .ok (.iload_n 2, 1) := by decide +kernel
theorem dX11_copy_78 : decode cX11_copy 78 = .ok (.iload 5, 2) := by decide +kernel
theorem dX11_copy_80 : decode cX11_copy 80 = .ok (.invokevirtual 315, 3) := by decide +kernel
theorem dX11_copy_83 : decode cX11_copy 83 = .ok (.ifCond .eq 15, 3) := by decide +kernel
theorem dX11_copy_86 : decode cX11_copy 86 = .ok (.aload 7, 2) := by decide +kernel
theorem dX11_copy_88 : decode cX11_copy 88 = .ok (.iload 4, 2) := by decide +kernel
theorem dX11_copy_90 : decode cX11_copy 90 = .ok (.iload 5, 2) := by decide +kernel
theorem dX11_copy_92 : decode cX11_copy 92 = .ok (.invokevirtual 315, 3) := by decide +kernel
theorem dX11_copy_95 : decode cX11_copy 95 = .ok (.ifCond .ne 6, 3) := by decide +kernel
theorem dX11_copy_98 : decode cX11_copy 98 = .ok (.bipush (-13), 2) := by decide +kernel
theorem dX11_copy_100 : decode cX11_copy 100 = .ok (.ireturn, 1) := by decide +kernel
theorem dX11_copy_101 : decode cX11_copy 101 = .ok (.aload 6, 2) := by decide +kernel
theorem dX11_copy_103 : decode cX11_copy 103 = .ok (.getfield 318, 3) := by decide +kernel
theorem dX11_copy_106 : decode cX11_copy 106 = .ok (.iload_n 2, 1) := by decide +kernel
theorem dX11_copy_107 : decode cX11_copy 107 = .ok (.aload 7, 2) := by decide +kernel
theorem dX11_copy_109 : decode cX11_copy 109 = .ok (.getfield 318, 3) := by decide +kernel
theorem dX11_copy_112 : decode cX11_copy 112 = .ok (.iload 4, 2) := by decide +kernel
theorem dX11_copy_114 : decode cX11_copy 114 = .ok (.iload 5, 2) := by decide +kernel
theorem dX11_copy_116 : decode cX11_copy 116 = .ok (.invokestatic 321, 3) := by decide +kernel
theorem dX11_copy_119 : decode cX11_copy 119 = .ok (.iload 5, 2) := by decide +kernel
theorem dX11_copy_121 : decode cX11_copy 121 = .ok (.ireturn, 1) := by decide +kernel
theorem dX11_cost_0 : decode cX11_cost 0 = .ok (.aload_n 0, 1) := by decide +kernel
theorem dX11_cost_1 : decode cX11_cost 1 = .ok (.iload_n 1, 1) := by decide +kernel
theorem dX11_cost_2 : decode cX11_cost 2 = .ok (.invokevirtual 149, 3) := by decide +kernel
theorem dX11_cost_5 : decode cX11_cost 5 = .ok (.astore_n 2, 1) := by decide +kernel
theorem dX11_cost_6 : decode cX11_cost 6 = .ok (.aload_n 2, 1) := by decide +kernel
theorem dX11_cost_7 : decode cX11_cost 7 = .ok (.ifnonnull 11, 3) := by decide +kernel
theorem dX11_cost_10 : decode cX11_cost 10 = .ok (.aload_n 0, 1) := by decide +kernel
theorem dX11_cost_11 : decode cX11_cost 11 = .ok (.iload_n 1, 1) := by decide +kernel
theorem dX11_cost_12 : decode cX11_cost 12 = .ok (.invokevirtual 67, 3) := by decide +kernel
theorem dX11_cost_15 : decode cX11_cost 15 = .ok (.goto 7, 3) := by decide +kernel
