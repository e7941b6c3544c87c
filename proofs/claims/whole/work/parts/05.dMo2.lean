theorem d_Mo_copy_0 : decode c_Mo_copy 0 = .ok (.iconst 0, 1) := by decide +kernel
theorem d_Mo_copy_1 : decode c_Mo_copy 1 = .ok (.istore_n 3, 1) := by decide +kernel
theorem d_Mo_copy_2 : decode c_Mo_copy 2 = .ok (.iload_n 3, 1) := by decide +kernel
theorem d_Mo_copy_3 : decode c_Mo_copy 3 = .ok (.aload_n 0, 1) := by decide +kernel
theorem d_Mo_copy_4 : decode c_Mo_copy 4 = .ok (.getfield 13, 3) := by decide +kernel
theorem d_Mo_copy_7 : decode c_Mo_copy 7 = .ok (.iload_n 1, 1) := by decide +kernel
theorem d_Mo_copy_8 : decode c_Mo_copy 8 = .ok (.iaload, 1) := by decide +kernel
theorem d_Mo_copy_9 : decode c_Mo_copy 9 = .ok (.if_icmp .ge 33, 3) := by decide +kernel
theorem d_Mo_copy_12 : decode c_Mo_copy 12 = .ok (.aload_n 0, 1) := by decide +kernel
theorem d_Mo_copy_13 : decode c_Mo_copy 13 = .ok (.getfield 7, 3) := by decide +kernel
theorem d_Mo_copy_16 : decode c_Mo_copy 16 = .ok (.sipush 320, 3) := by decide +kernel
theorem d_Mo_copy_19 : decode c_Mo_copy 19 = .ok (.iload_n 2, 1) := by decide +kernel
theorem d_Mo_copy_20 : decode c_Mo_copy 20 = .ok (.imul, 1) := by decide +kernel
theorem d_Mo_copy_21 : decode c_Mo_copy 21 = .ok (.iload_n 3, 1) := by decide +kernel
theorem d_Mo_copy_22 : decode c_Mo_copy 22 = .ok (.iadd, 1) := by decide +kernel
theorem d_Mo_copy_23 : decode c_Mo_copy 23 = .ok (.aload_n 0, 1) := by decide +kernel
theorem d_Mo_copy_24 : decode c_Mo_copy 24 = .ok (.getfield 7, 3) := by decide +kernel
theorem d_Mo_copy_27 : decode c_Mo_copy 27 = .ok (.sipush 320, 3) := by decide +kernel
theorem d_Mo_copy_30 : decode c_Mo_copy 30 = .ok (.iload_n 1, 1) := by decide +kernel
theorem d_Mo_copy_31 : decode c_Mo_copy 31 = .ok (.imul, 1) := by decide +kernel
theorem d_Mo_copy_32 : decode c_Mo_copy 32 = .ok (.iload_n 3, 1) := by decide +kernel
theorem d_Mo_copy_33 : decode c_Mo_copy 33 = .ok (.iadd, 1) := by decide +kernel
theorem d_Mo_copy_34 : decode c_Mo_copy 34 = .ok (.iaload, 1) := by decide +kernel
theorem d_Mo_copy_35 : decode c_Mo_copy 35 = .ok (.iastore, 1) := by decide +kernel
theorem d_Mo_copy_36 : decode c_Mo_copy 36 = .ok (.iinc 3 1, 3) := by decide +kernel
theorem d_Mo_copy_39 : decode c_Mo_copy 39 = .ok (.goto (-37), 3) := by decide +kernel
theorem d_Mo_copy_42 : decode c_Mo_copy 42 = .ok (.aload_n 0, 1) := by decide +kernel
theorem d_Mo_copy_43 : decode c_Mo_copy 43 = .ok (.getfield 13, 3) := by decide +kernel
theorem d_Mo_copy_46 : decode c_Mo_copy 46 = .ok (.iload_n 2, 1) := by decide +kernel
theorem d_Mo_copy_47 : decode c_Mo_copy 47 = .ok (.aload_n 0, 1) := by decide +kernel
theorem d_Mo_copy_48 : decode c_Mo_copy 48 = .ok (.getfield 13, 3) := by decide +kernel
theorem d_Mo_copy_51 : decode c_Mo_copy 51 = .ok (.iload_n 1, 1) := by decide +kernel
theorem d_Mo_copy_52 : decode c_Mo_copy 52 = .ok (.iaload, 1) := by decide +kernel
theorem d_Mo_copy_53 : decode c_Mo_copy 53 = .ok (.iastore, 1) := by decide +kernel
theorem d_Mo_copy_54 : decode c_Mo_copy 54 = .ok (.aload_n 0, 1) := by decide +kernel
theorem d_Mo_copy_55 : decode c_Mo_copy 55 = .ok (.getfield 16, 3) := by decide +kernel
theorem d_Mo_copy_58 : decode c_Mo_copy 58 = .ok (.iload_n 2, 1) := by decide +kernel
theorem d_Mo_copy_59 : decode c_Mo_copy 59 = .ok (.aload_n 0, 1) := by decide +kernel
theorem d_Mo_copy_60 : decode c_Mo_copy 60 = .ok (.getfield 16, 3) := by decide +kernel
theorem d_Mo_copy_63 : decode c_Mo_copy 63 = .ok (.iload_n 1, 1) := by decide +kernel
theorem d_Mo_copy_64 : decode c_Mo_copy 64 = .ok (.iaload, 1) := by decide +kernel
theorem d_Mo_copy_65 : decode c_Mo_copy 65 = .ok (.iastore, 1) := by decide +kernel
theorem d_Mo_copy_66 : decode c_Mo_copy 66 = .ok (.aload_n 0, 1) := by decide +kernel
theorem d_Mo_copy_67 : decode c_Mo_copy 67 = .ok (.getfield 19, 3) := by decide +kernel
theorem d_Mo_copy_70 : decode c_Mo_copy 70 = .ok (.iload_n 2, 1) := by decide +kernel
theorem d_Mo_copy_71 : decode c_Mo_copy 71 = .ok (.aload_n 0, 1) := by decide +kernel
theorem d_Mo_copy_72 : decode c_Mo_copy 72 = .ok (.getfield 19, 3) := by decide +kernel
theorem d_Mo_copy_75 : decode c_Mo_copy 75 = .ok (.iload_n 1, 1) := by decide +kernel
theorem d_Mo_copy_76 : decode c_Mo_copy 76 = .ok (.iaload, 1) := by decide +kernel
theorem d_Mo_copy_77 : decode c_Mo_copy 77 = .ok (.iastore, 1) := by decide +kernel
theorem d_Mo_copy_78 : decode c_Mo_copy 78 = .ok (.return_, 1) := by decide +kernel
theorem d_Mo_topOf_0 : decode c_Mo_topOf 0 = .ok (.aload_n 0, 1) := by decide +kernel
theorem d_Mo_topOf_1 : decode c_Mo_topOf 1 = .ok (.getfield 13, 3) := by decide +kernel
theorem d_Mo_topOf_4 : decode c_Mo_topOf 4 = .ok (.iload_n 1, 1) := by decide +kernel
theorem d_Mo_topOf_5 : decode c_Mo_topOf 5 = .ok (.iaload, 1) := by decide +kernel
theorem d_Mo_topOf_6 : decode c_Mo_topOf 6 = .ok (.aload_n 0, 1) := by decide +kernel
theorem d_Mo_topOf_7 : decode c_Mo_topOf 7 = .ok (.getfield 16, 3) := by decide +kernel
theorem d_Mo_topOf_10 : decode c_Mo_topOf 10 = .ok (.iload_n 1, 1) := by decide +kernel
theorem d_Mo_topOf_11 : decode c_Mo_topOf 11 = .ok (.iaload, 1) := by decide +kernel
theorem d_Mo_topOf_12 : decode c_Mo_topOf 12 = .ok (.iadd, 1) := by decide +kernel
theorem d_Mo_topOf_13 : decode c_Mo_topOf 13 = .ok (.ireturn, 1) := by decide +kernel
theorem d_Mo_order_0 : decode c_Mo_order 0 = .ok (.iload 4, 2) := by decide +kernel
theorem d_Mo_order_2 : decode c_Mo_order 2 = .ok (.iconst 1, 1) := by decide +kernel
theorem d_Mo_order_3 : decode c_Mo_order 3 = .ok (.isub, 1) := by decide +kernel
theorem d_Mo_order_4 : decode c_Mo_order 4 = .ok (.istore 5, 2) := by decide +kernel
theorem d_Mo_order_6 : decode c_Mo_order 6 = .ok (.iload 5, 2) := by decide +kernel
theorem d_Mo_order_8 : decode c_Mo_order 8 = .ok (.iload_n 3, 1) := by decide +kernel
theorem d_Mo_order_9 : decode c_Mo_order 9 = .ok (.if_icmp .lt 34, 3) := by decide +kernel
theorem d_Mo_order_12 : decode c_Mo_order 12 = .ok (.aload_n 0, 1) := by decide +kernel
theorem d_Mo_order_13 : decode c_Mo_order 13 = .ok (.iload_n 1, 1) := by decide +kernel
theorem d_Mo_order_14 : decode c_Mo_order 14 = .ok (.iload 5, 2) := by decide +kernel
theorem d_Mo_order_16 : decode c_Mo_order 16 = .ok (.invokevirtual 77, 3) := by decide +kernel
theorem d_Mo_order_19 : decode c_Mo_order 19 = .ok (.aload_n 0, 1) := by decide +kernel
theorem d_Mo_order_20 : decode c_Mo_order 20 = .ok (.iload_n 2, 1) := by decide +kernel
theorem d_Mo_order_21 : decode c_Mo_order 21 = .ok (.iload 5, 2) := by decide +kernel
theorem d_Mo_order_23 : decode c_Mo_order 23 = .ok (.invokevirtual 77, 3) := by decide +kernel
theorem d_Mo_order_26 : decode c_Mo_order 26 = .ok (.isub, 1) := by decide +kernel
theorem d_Mo_order_27 : decode c_Mo_order 27 = .ok (.istore 6, 2) := by decide +kernel
theorem d_Mo_order_29 : decode c_Mo_order 29 = .ok (.iload 6, 2) := by decide +kernel
theorem d_Mo_order_31 : decode c_Mo_order 31 = .ok (.ifCond .eq 6, 3) := by decide +kernel
theorem d_Mo_order_34 : decode c_Mo_order 34 = .ok (.iload 6, 2) := by decide +kernel
theorem d_Mo_order_36 : decode c_Mo_order 36 = .ok (.ireturn, 1) := by decide +kernel
theorem d_Mo_order_37 : decode c_Mo_order 37 = .ok (.iinc 5 (-1), 3) := by decide +kernel
theorem d_Mo_order_40 : decode c_Mo_order 40 = .ok (.goto (-34), 3) := by decide +kernel
theorem d_Mo_order_43 : decode c_Mo_order 43 = .ok (.iconst 0, 1) := by decide +kernel
theorem d_Mo_order_44 : decode c_Mo_order 44 = .ok (.ireturn, 1) := by decide +kernel
theorem d_Mo_digitAt_0 : decode c_Mo_digitAt 0 = .ok (.iload_n 2, 1) := by decide +kernel
theorem d_Mo_digitAt_1 : decode c_Mo_digitAt 1 = .ok (.aload_n 0, 1) := by decide +kernel
theorem d_Mo_digitAt_2 : decode c_Mo_digitAt 2 = .ok (.getfield 16, 3) := by decide +kernel
theorem d_Mo_digitAt_5 : decode c_Mo_digitAt 5 = .ok (.iload_n 1, 1) := by decide +kernel
theorem d_Mo_digitAt_6 : decode c_Mo_digitAt 6 = .ok (.iaload, 1) := by decide +kernel
theorem d_Mo_digitAt_7 : decode c_Mo_digitAt 7 = .ok (.isub, 1) := by decide +kernel
theorem d_Mo_digitAt_8 : decode c_Mo_digitAt 8 = .ok (.istore_n 3, 1) := by decide +kernel
theorem d_Mo_digitAt_9 : decode c_Mo_digitAt 9 = .ok (.iload_n 3, 1) := by decide +kernel
theorem d_Mo_digitAt_10 : decode c_Mo_digitAt 10 = .ok (.ifCond .lt 28, 3) := by decide +kernel
theorem d_Mo_digitAt_13 : decode c_Mo_digitAt 13 = .ok (.iload_n 3, 1) := by decide +kernel
theorem d_Mo_digitAt_14 : decode c_Mo_digitAt 14 = .ok (.aload_n 0, 1) := by decide +kernel
theorem d_Mo_digitAt_15 : decode c_Mo_digitAt 15 = .ok (.getfield 13, 3) := by decide +kernel
theorem d_Mo_digitAt_18 : decode c_Mo_digitAt 18 = .ok (.iload_n 1, 1) := by decide +kernel
theorem d_Mo_digitAt_19 : decode c_Mo_digitAt 19 = .ok (.iaload, 1) := by decide +kernel
theorem d_Mo_digitAt_20 : decode c_Mo_digitAt 20 = .ok (.if_icmp .ge 18, 3) := by decide +kernel
theorem d_Mo_digitAt_23 : decode c_Mo_digitAt 23 = .ok (.aload_n 0, 1) := by decide +kernel
theorem d_Mo_digitAt_24 : decode c_Mo_digitAt 24 = .ok (.getfield 7, 3) := by decide +kernel
theorem d_Mo_digitAt_27 : decode c_Mo_digitAt 27 = .ok (.sipush 320, 3) := by decide +kernel
theorem d_Mo_digitAt_30 : decode c_Mo_digitAt 30 = .ok (.iload_n 1, 1) := by decide +kernel
theorem d_Mo_digitAt_31 : decode c_Mo_digitAt 31 = .ok (.imul, 1) := by decide +kernel
theorem d_Mo_digitAt_32 : decode c_Mo_digitAt 32 = .ok (.iload_n 3, 1) := by decide +kernel
theorem d_Mo_digitAt_33 : decode c_Mo_digitAt 33 = .ok (.iadd, 1) := by decide +kernel
theorem d_Mo_digitAt_34 : decode c_Mo_digitAt 34 = .ok (.iaload, 1) := by decide +kernel
theorem d_Mo_digitAt_35 : decode c_Mo_digitAt 35 = .ok (.goto 4, 3) := by decide +kernel
theorem d_Mo_digitAt_38 : decode c_Mo_digitAt 38 = .ok (.iconst 0, 1) := by decide +kernel
theorem d_Mo_digitAt_39 : decode c_Mo_digitAt 39 = .ok (.ireturn, 1) := by decide +kernel
theorem d_Mo_multiply_0 : decode c_Mo_multiply 0 = .ok (.aload_n 0, 1) := by decide +kernel
theorem d_Mo_multiply_1 : decode c_Mo_multiply 1 = .ok (.getfield 13, 3) := by decide +kernel
theorem d_Mo_multiply_4 : decode c_Mo_multiply 4 = .ok (.iconst 0, 1) := by decide +kernel
theorem d_Mo_multiply_5 : decode c_Mo_multiply 5 = .ok (.iaload, 1) := by decide +kernel
theorem d_Mo_multiply_6 : decode c_Mo_multiply 6 = .ok (.aload_n 0, 1) := by decide +kernel
theorem d_Mo_multiply_7 : decode c_Mo_multiply 7 = .ok (.getfield 13, 3) := by decide +kernel
theorem d_Mo_multiply_10 : decode c_Mo_multiply 10 = .ok (.iconst 1, 1) := by decide +kernel
theorem d_Mo_multiply_11 : decode c_Mo_multiply 11 = .ok (.iaload, 1) := by decide +kernel
theorem d_Mo_multiply_12 : decode c_Mo_multiply 12 = .ok (.iadd, 1) := by decide +kernel
theorem d_Mo_multiply_13 : decode c_Mo_multiply 13 = .ok (.istore_n 1, 1) := by decide +kernel
theorem d_Mo_multiply_14 : decode c_Mo_multiply 14 = .ok (.iconst 0, 1) := by decide +kernel
theorem d_Mo_multiply_15 : decode c_Mo_multiply 15 = .ok (.istore_n 2, 1) := by decide +kernel
theorem d_Mo_multiply_16 : decode c_Mo_multiply 16 = .ok (.iload_n 2, 1) := by decide +kernel
theorem d_Mo_multiply_17 : decode c_Mo_multiply 17 = .ok (.iload_n 1, 1) := by decide +kernel
theorem d_Mo_multiply_18 : decode c_Mo_multiply 18 = .ok (.if_icmp .ge 20, 3) := by decide +kernel
theorem d_Mo_multiply_21 : decode c_Mo_multiply 21 = .ok (.aload_n 0, 1) := by decide +kernel
theorem d_Mo_multiply_22 : decode c_Mo_multiply 22 = .ok (.getfield 7, 3) := by decide +kernel
theorem d_Mo_multiply_25 : decode c_Mo_multiply 25 = .ok (.sipush 640, 3) := by decide +kernel
theorem d_Mo_multiply_28 : decode c_Mo_multiply 28 = .ok (.iload_n 2, 1) := by decide +kernel
theorem d_Mo_multiply_29 : decode c_Mo_multiply 29 = .ok (.iadd, 1) := by decide +kernel
theorem d_Mo_multiply_30 : decode c_Mo_multiply 30 = .ok (.iconst 0, 1) := by decide +kernel
theorem d_Mo_multiply_31 : decode c_Mo_multiply 31 = .ok (.iastore, 1) := by decide +kernel
theorem d_Mo_multiply_32 : decode c_Mo_multiply 32 = .ok (.iinc 2 1, 3) := by decide +kernel
theorem d_Mo_multiply_35 : decode c_Mo_multiply 35 = .ok (.goto (-19), 3) := by decide +kernel
theorem d_Mo_multiply_38 : decode c_Mo_multiply 38 = .ok (.iconst 0, 1) := by decide +kernel
theorem d_Mo_multiply_39 : decode c_Mo_multiply 39 = .ok (.istore_n 2, 1) := by decide +kernel
theorem d_Mo_multiply_40 : decode c_Mo_multiply 40 = .ok (.iload_n 2, 1) := by decide +kernel
theorem d_Mo_multiply_41 : decode c_Mo_multiply 41 = .ok (.aload_n 0, 1) := by decide +kernel
theorem d_Mo_multiply_42 : decode c_Mo_multiply 42 = .ok (.getfield 13, 3) := by decide +kernel
theorem d_Mo_multiply_45 : decode c_Mo_multiply 45 = .ok (.iconst 0, 1) := by decide +kernel
theorem d_Mo_multiply_46 : decode c_Mo_multiply 46 = .ok (.iaload, 1) := by decide +kernel
theorem d_Mo_multiply_47 : decode c_Mo_multiply 47 = .ok (.if_icmp .ge 114, 3) := by decide +kernel
theorem d_Mo_multiply_50 : decode c_Mo_multiply 50 = .ok (.iconst 0, 1) := by decide +kernel
theorem d_Mo_multiply_51 : decode c_Mo_multiply 51 = .ok (.istore_n 3, 1) := by decide +kernel
theorem d_Mo_multiply_52 : decode c_Mo_multiply 52 = .ok (.iconst 0, 1) := by decide +kernel
theorem d_Mo_multiply_53 : decode c_Mo_multiply 53 = .ok (.istore 4, 2) := by decide +kernel
theorem d_Mo_multiply_55 : decode c_Mo_multiply 55 = .ok (.iload 4, 2) := by decide +kernel
theorem d_Mo_multiply_57 : decode c_Mo_multiply 57 = .ok (.aload_n 0, 1) := by decide +kernel
theorem d_Mo_multiply_58 : decode c_Mo_multiply 58 = .ok (.getfield 13, 3) := by decide +kernel
theorem d_Mo_multiply_61 : decode c_Mo_multiply 61 = .ok (.iconst 1, 1) := by decide +kernel
theorem d_Mo_multiply_62 : decode c_Mo_multiply 62 = .ok (.iaload, 1) := by decide +kernel
theorem d_Mo_multiply_63 : decode c_Mo_multiply 63 = .ok (.if_icmp .ge 71, 3) := by decide +kernel
theorem d_Mo_multiply_66 : decode c_Mo_multiply 66 = .ok (.aload_n 0, 1) := by decide +kernel
theorem d_Mo_multiply_67 : decode c_Mo_multiply 67 = .ok (.getfield 7, 3) := by decide +kernel
theorem d_Mo_multiply_70 : decode c_Mo_multiply 70 = .ok (.sipush 640, 3) := by decide +kernel
theorem d_Mo_multiply_73 : decode c_Mo_multiply 73 = .ok (.iload_n 2, 1) := by decide +kernel
theorem d_Mo_multiply_74 : decode c_Mo_multiply 74 = .ok (.iadd, 1) := by decide +kernel
theorem d_Mo_multiply_75 : decode c_Mo_multiply 75 = .ok (.iload 4, 2) := by decide +kernel
theorem d_Mo_multiply_77 : decode c_Mo_multiply 77 = .ok (.iadd, 1) := by decide +kernel
theorem d_Mo_multiply_78 : decode c_Mo_multiply 78 = .ok (.iaload, 1) := by decide +kernel
theorem d_Mo_multiply_79 : decode c_Mo_multiply 79 = .ok (.aload_n 0, 1) := by decide +kernel
theorem d_Mo_multiply_80 : decode c_Mo_multiply 80 = .ok (.getfield 7, 3) := by decide +kernel
theorem d_Mo_multiply_83 : decode c_Mo_multiply 83 = .ok (.iconst 0, 1) := by decide +kernel
theorem d_Mo_multiply_84 : decode c_Mo_multiply 84 = .ok (.iload_n 2, 1) := by decide +kernel
theorem d_Mo_multiply_85 : decode c_Mo_multiply 85 = .ok (.iadd, 1) := by decide +kernel
theorem d_Mo_multiply_86 : decode c_Mo_multiply 86 = .ok (.iaload, 1) := by decide +kernel
theorem d_Mo_multiply_87 : decode c_Mo_multiply 87 = .ok (.aload_n 0, 1) := by decide +kernel
theorem d_Mo_multiply_88 : decode c_Mo_multiply 88 = .ok (.getfield 7, 3) := by decide +kernel
theorem d_Mo_multiply_91 : decode c_Mo_multiply 91 = .ok (.sipush 320, 3) := by decide +kernel
theorem d_Mo_multiply_94 : decode c_Mo_multiply 94 = .ok (.iload 4, 2) := by decide +kernel
theorem d_Mo_multiply_96 : decode c_Mo_multiply 96 = .ok (.iadd, 1) := by decide +kernel
theorem d_Mo_multiply_97 : decode c_Mo_multiply 97 = .ok (.iaload, 1) := by decide +kernel
theorem d_Mo_multiply_98 : decode c_Mo_multiply 98 = .ok (.imul, 1) := by decide +kernel
theorem d_Mo_multiply_99 : decode c_Mo_multiply 99 = .ok (.iadd, 1) := by decide +kernel
theorem d_Mo_multiply_100 : decode c_Mo_multiply 100 = .ok (.iload_n 3, 1) := by decide +kernel
theorem d_Mo_multiply_101 : decode c_Mo_multiply 101 = .ok (.iadd, 1) := by decide +kernel
theorem d_Mo_multiply_102 : decode c_Mo_multiply 102 = .ok (.istore 5, 2) := by decide +kernel
theorem d_Mo_multiply_104 : decode c_Mo_multiply 104 = .ok (.aload_n 0, 1) := by decide +kernel
theorem d_Mo_multiply_105 : decode c_Mo_multiply 105 = .ok (.getfield 7, 3) := by decide +kernel
theorem d_Mo_multiply_108 : decode c_Mo_multiply 108 = .ok (.sipush 640, 3) := by decide +kernel
theorem d_Mo_multiply_111 : decode c_Mo_multiply 111 = .ok (.iload_n 2, 1) := by decide +kernel
theorem d_Mo_multiply_112 : decode c_Mo_multiply 112 = .ok (.iadd, 1) := by decide +kernel
theorem d_Mo_multiply_113 : decode c_Mo_multiply 113 = .ok (.iload 4, 2) := by decide +kernel
theorem d_Mo_multiply_115 : decode c_Mo_multiply 115 = .ok (.iadd, 1) := by decide +kernel
theorem d_Mo_multiply_116 : decode c_Mo_multiply 116 = .ok (.iload 5, 2) := by decide +kernel
theorem d_Mo_multiply_118 : decode c_Mo_multiply 118 = .ok (.bipush 10, 2) := by decide +kernel
theorem d_Mo_multiply_120 : decode c_Mo_multiply 120 = .ok (.irem, 1) := by decide +kernel
theorem d_Mo_multiply_121 : decode c_Mo_multiply 121 = .ok (.iastore, 1) := by decide +kernel
theorem d_Mo_multiply_122 : decode c_Mo_multiply 122 = .ok (.iload 5, 2) := by decide +kernel
theorem d_Mo_multiply_124 : decode c_Mo_multiply 124 = .ok (.bipush 10, 2) := by decide +kernel
theorem d_Mo_multiply_126 : decode c_Mo_multiply 126 = .ok (.idiv, 1) := by decide +kernel
theorem d_Mo_multiply_127 : decode c_Mo_multiply 127 = .ok (.istore_n 3, 1) := by decide +kernel
theorem d_Mo_multiply_128 : decode c_Mo_multiply 128 = .ok (.iinc 4 1, 3) := by decide +kernel
theorem d_Mo_multiply_131 : decode c_Mo_multiply 131 = .ok (.goto (-76), 3) := by decide +kernel
theorem d_Mo_multiply_134 : decode c_Mo_multiply 134 = .ok (.aload_n 0, 1) := by decide +kernel
theorem d_Mo_multiply_135 : decode c_Mo_multiply 135 = .ok (.getfield 7, 3) := by decide +kernel
theorem d_Mo_multiply_138 : decode c_Mo_multiply 138 = .ok (.sipush 640, 3) := by decide +kernel
theorem d_Mo_multiply_141 : decode c_Mo_multiply 141 = .ok (.iload_n 2, 1) := by decide +kernel
theorem d_Mo_multiply_142 : decode c_Mo_multiply 142 = .ok (.iadd, 1) := by decide +kernel
theorem d_Mo_multiply_143 : decode c_Mo_multiply 143 = .ok (.aload_n 0, 1) := by decide +kernel
theorem d_Mo_multiply_144 : decode c_Mo_multiply 144 = .ok (.getfield 13, 3) := by decide +kernel
theorem d_Mo_multiply_147 : decode c_Mo_multiply 147 = .ok (.iconst 1, 1) := by decide +kernel
theorem d_Mo_multiply_148 : decode c_Mo_multiply 148 = .ok (.iaload, 1) := by decide +kernel
theorem d_Mo_multiply_149 : decode c_Mo_multiply 149 = .ok (.iadd, 1) := by decide +kernel
theorem d_Mo_multiply_150 : decode c_Mo_multiply 150 = .ok (.dup2, 1) := by decide +kernel
theorem d_Mo_multiply_151 : decode c_Mo_multiply 151 = .ok (.iaload, 1) := by decide +kernel
theorem d_Mo_multiply_152 : decode c_Mo_multiply 152 = .ok (.iload_n 3, 1) := by decide +kernel
theorem d_Mo_multiply_153 : decode c_Mo_multiply 153 = .ok (.iadd, 1) := by decide +kernel
theorem d_Mo_multiply_154 : decode c_Mo_multiply 154 = .ok (.iastore, 1) := by decide +kernel
theorem d_Mo_multiply_155 : decode c_Mo_multiply 155 = .ok (.iinc 2 1, 3) := by decide +kernel
theorem d_Mo_multiply_158 : decode c_Mo_multiply 158 = .ok (.goto (-118), 3) := by decide +kernel
theorem d_Mo_multiply_161 : decode c_Mo_multiply 161 = .ok (.aload_n 0, 1) := by decide +kernel
theorem d_Mo_multiply_162 : decode c_Mo_multiply 162 = .ok (.getfield 13, 3) := by decide +kernel
theorem d_Mo_multiply_165 : decode c_Mo_multiply 165 = .ok (.iconst 2, 1) := by decide +kernel
theorem d_Mo_multiply_166 : decode c_Mo_multiply 166 = .ok (.iload_n 1, 1) := by decide +kernel
theorem d_Mo_multiply_167 : decode c_Mo_multiply 167 = .ok (.iastore, 1) := by decide +kernel
theorem d_Mo_multiply_168 : decode c_Mo_multiply 168 = .ok (.aload_n 0, 1) := by decide +kernel
theorem d_Mo_multiply_169 : decode c_Mo_multiply 169 = .ok (.getfield 16, 3) := by decide +kernel
theorem d_Mo_multiply_172 : decode c_Mo_multiply 172 = .ok (.iconst 2, 1) := by decide +kernel
theorem d_Mo_multiply_173 : decode c_Mo_multiply 173 = .ok (.aload_n 0, 1) := by decide +kernel
theorem d_Mo_multiply_174 : decode c_Mo_multiply 174 = .ok (.getfield 16, 3) := by decide +kernel
theorem d_Mo_multiply_177 : decode c_Mo_multiply 177 = .ok (.iconst 0, 1) := by decide +kernel
theorem d_Mo_multiply_178 : decode c_Mo_multiply 178 = .ok (.iaload, 1) := by decide +kernel
theorem d_Mo_multiply_179 : decode c_Mo_multiply 179 = .ok (.aload_n 0, 1) := by decide +kernel
theorem d_Mo_multiply_180 : decode c_Mo_multiply 180 = .ok (.getfield 16, 3) := by decide +kernel
theorem d_Mo_multiply_183 : decode c_Mo_multiply 183 = .ok (.iconst 1, 1) := by decide +kernel
theorem d_Mo_multiply_184 : decode c_Mo_multiply 184 = .ok (.iaload, 1) := by decide +kernel
theorem d_Mo_multiply_185 : decode c_Mo_multiply 185 = .ok (.iadd, 1) := by decide +kernel
theorem d_Mo_multiply_186 : decode c_Mo_multiply 186 = .ok (.iastore, 1) := by decide +kernel
theorem d_Mo_multiply_187 : decode c_Mo_multiply 187 = .ok (.aload_n 0, 1) := by decide +kernel
theorem d_Mo_multiply_188 : decode c_Mo_multiply 188 = .ok (.getfield 19, 3) := by decide +kernel
theorem d_Mo_multiply_191 : decode c_Mo_multiply 191 = .ok (.iconst 2, 1) := by decide +kernel
theorem d_Mo_multiply_192 : decode c_Mo_multiply 192 = .ok (.aload_n 0, 1) := by decide +kernel
theorem d_Mo_multiply_193 : decode c_Mo_multiply 193 = .ok (.getfield 19, 3) := by decide +kernel
theorem d_Mo_multiply_196 : decode c_Mo_multiply 196 = .ok (.iconst 0, 1) := by decide +kernel
theorem d_Mo_multiply_197 : decode c_Mo_multiply 197 = .ok (.iaload, 1) := by decide +kernel
theorem d_Mo_multiply_198 : decode c_Mo_multiply 198 = .ok (.aload_n 0, 1) := by decide +kernel
theorem d_Mo_multiply_199 : decode c_Mo_multiply 199 = .ok (.getfield 19, 3) := by decide +kernel
theorem d_Mo_multiply_202 : decode c_Mo_multiply 202 = .ok (.iconst 1, 1) := by decide +kernel
theorem d_Mo_multiply_203 : decode c_Mo_multiply 203 = .ok (.iaload, 1) := by decide +kernel
theorem d_Mo_multiply_204 : decode c_Mo_multiply 204 = .ok (.imul, 1) := by decide +kernel
theorem d_Mo_multiply_205 : decode c_Mo_multiply 205 = .ok (.iastore, 1) := by decide +kernel
theorem d_Mo_multiply_206 : decode c_Mo_multiply 206 = .ok (.aload_n 0, 1) := by decide +kernel
theorem d_Mo_multiply_207 : decode c_Mo_multiply 207 = .ok (.iconst 2, 1) := by decide +kernel
theorem d_Mo_multiply_208 : decode c_Mo_multiply 208 = .ok (.aload_n 0, 1) := by decide +kernel
theorem d_Mo_multiply_209 : decode c_Mo_multiply 209 = .ok (.getfield 60, 3) := by decide +kernel
theorem d_Mo_multiply_212 : decode c_Mo_multiply 212 = .ok (.invokevirtual 84, 3) := by decide +kernel
theorem d_Mo_multiply_215 : decode c_Mo_multiply 215 = .ok (.ireturn, 1) := by decide +kernel
theorem d_Mo_divide_0 : decode c_Mo_divide 0 = .ok (.aload_n 0, 1) := by decide +kernel
theorem d_Mo_divide_1 : decode c_Mo_divide 1 = .ok (.getfield 13, 3) := by decide +kernel
theorem d_Mo_divide_4 : decode c_Mo_divide 4 = .ok (.iconst 1, 1) := by decide +kernel
theorem d_Mo_divide_5 : decode c_Mo_divide 5 = .ok (.iaload, 1) := by decide +kernel
theorem d_Mo_divide_6 : decode c_Mo_divide 6 = .ok (.ifCond .ne 5, 3) := by decide +kernel
theorem d_Mo_divide_9 : decode c_Mo_divide 9 = .ok (.iconst 2, 1) := by decide +kernel
theorem d_Mo_divide_10 : decode c_Mo_divide 10 = .ok (.ireturn, 1) := by decide +kernel
theorem d_Mo_divide_11 : decode c_Mo_divide 11 = .ok (.aload_n 0, 1) := by decide +kernel
theorem d_Mo_divide_12 : decode c_Mo_divide 12 = .ok (.getfield 60, 3) := by decide +kernel
theorem d_Mo_divide_15 : decode c_Mo_divide 15 = .ok (.aload_n 0, 1) := by decide +kernel
theorem d_Mo_divide_16 : decode c_Mo_divide 16 = .ok (.getfield 13, 3) := by decide +kernel
theorem d_Mo_divide_19 : decode c_Mo_divide 19 = .ok (.iconst 1, 1) := by decide +kernel
theorem d_Mo_divide_20 : decode c_Mo_divide 20 = .ok (.iaload, 1) := by decide +kernel
theorem d_Mo_divide_21 : decode c_Mo_divide 21 = .ok (.iadd, 1) := by decide +kernel
theorem d_Mo_divide_22 : decode c_Mo_divide 22 = .ok (.istore_n 1, 1) := by decide +kernel
theorem d_Mo_divide_23 : decode c_Mo_divide 23 = .ok (.aload_n 0, 1) := by decide +kernel
theorem d_Mo_divide_24 : decode c_Mo_divide 24 = .ok (.getfield 13, 3) := by decide +kernel
theorem d_Mo_divide_27 : decode c_Mo_divide 27 = .ok (.iconst 0, 1) := by decide +kernel
theorem d_Mo_divide_28 : decode c_Mo_divide 28 = .ok (.iaload, 1) := by decide +kernel
theorem d_Mo_divide_29 : decode c_Mo_divide 29 = .ok (.iload_n 1, 1) := by decide +kernel
theorem d_Mo_divide_30 : decode c_Mo_divide 30 = .ok (.iadd, 1) := by decide +kernel
theorem d_Mo_divide_31 : decode c_Mo_divide 31 = .ok (.istore_n 2, 1) := by decide +kernel
theorem d_Mo_divide_32 : decode c_Mo_divide 32 = .ok (.iconst 0, 1) := by decide +kernel
theorem d_Mo_divide_33 : decode c_Mo_divide 33 = .ok (.istore_n 3, 1) := by decide +kernel
theorem d_Mo_divide_34 : decode c_Mo_divide 34 = .ok (.iload_n 3, 1) := by decide +kernel
theorem d_Mo_divide_35 : decode c_Mo_divide 35 = .ok (.bipush 40, 2) := by decide +kernel
theorem d_Mo_divide_37 : decode c_Mo_divide 37 = .ok (.if_icmp .ge 16, 3) := by decide +kernel
theorem d_Mo_divide_40 : decode c_Mo_divide 40 = .ok (.aload_n 0, 1) := by decide +kernel
theorem d_Mo_divide_41 : decode c_Mo_divide 41 = .ok (.getfield 22, 3) := by decide +kernel
theorem d_Mo_divide_44 : decode c_Mo_divide 44 = .ok (.iload_n 3, 1) := by decide +kernel
theorem d_Mo_divide_45 : decode c_Mo_divide 45 = .ok (.iconst 0, 1) := by decide +kernel
theorem d_Mo_divide_46 : decode c_Mo_divide 46 = .ok (.iastore, 1) := by decide +kernel
theorem d_Mo_divide_47 : decode c_Mo_divide 47 = .ok (.iinc 3 1, 3) := by decide +kernel
theorem d_Mo_divide_50 : decode c_Mo_divide 50 = .ok (.goto (-16), 3) := by decide +kernel
theorem d_Mo_divide_53 : decode c_Mo_divide 53 = .ok (.iload_n 2, 1) := by decide +kernel
theorem d_Mo_divide_54 : decode c_Mo_divide 54 = .ok (.iconst 1, 1) := by decide +kernel
theorem d_Mo_divide_55 : decode c_Mo_divide 55 = .ok (.isub, 1) := by decide +kernel
theorem d_Mo_divide_56 : decode c_Mo_divide 56 = .ok (.istore_n 3, 1) := by decide +kernel
theorem d_Mo_divide_57 : decode c_Mo_divide 57 = .ok (.iload_n 3, 1) := by decide +kernel
theorem d_Mo_divide_58 : decode c_Mo_divide 58 = .ok (.ifCond .lt 101, 3) := by decide +kernel
theorem d_Mo_divide_61 : decode c_Mo_divide 61 = .ok (.aload_n 0, 1) := by decide +kernel
theorem d_Mo_divide_62 : decode c_Mo_divide 62 = .ok (.getfield 13, 3) := by decide +kernel
theorem d_Mo_divide_65 : decode c_Mo_divide 65 = .ok (.iconst 1, 1) := by decide +kernel
theorem d_Mo_divide_66 : decode c_Mo_divide 66 = .ok (.iaload, 1) := by decide +kernel
theorem d_Mo_divide_67 : decode c_Mo_divide 67 = .ok (.istore 4, 2) := by decide +kernel
theorem d_Mo_divide_69 : decode c_Mo_divide 69 = .ok (.iload 4, 2) := by decide +kernel
theorem d_Mo_divide_71 : decode c_Mo_divide 71 = .ok (.ifCond .le 25, 3) := by decide +kernel
theorem d_Mo_divide_74 : decode c_Mo_divide 74 = .ok (.aload_n 0, 1) := by decide +kernel
theorem d_Mo_divide_75 : decode c_Mo_divide 75 = .ok (.getfield 22, 3) := by decide +kernel
theorem d_Mo_divide_78 : decode c_Mo_divide 78 = .ok (.iload 4, 2) := by decide +kernel
theorem d_Mo_divide_80 : decode c_Mo_divide 80 = .ok (.aload_n 0, 1) := by decide +kernel
theorem d_Mo_divide_81 : decode c_Mo_divide 81 = .ok (.getfield 22, 3) := by decide +kernel
theorem d_Mo_divide_84 : decode c_Mo_divide 84 = .ok (.iload 4, 2) := by decide +kernel
theorem d_Mo_divide_86 : decode c_Mo_divide 86 = .ok (.iconst 1, 1) := by decide +kernel
theorem d_Mo_divide_87 : decode c_Mo_divide 87 = .ok (.isub, 1) := by decide +kernel
theorem d_Mo_divide_88 : decode c_Mo_divide 88 = .ok (.iaload, 1) := by decide +kernel
theorem d_Mo_divide_89 : decode c_Mo_divide 89 = .ok (.iastore, 1) := by decide +kernel
theorem d_Mo_divide_90 : decode c_Mo_divide 90 = .ok (.iinc 4 (-1), 3) := by decide +kernel
theorem d_Mo_divide_93 : decode c_Mo_divide 93 = .ok (.goto (-24), 3) := by decide +kernel
theorem d_Mo_divide_96 : decode c_Mo_divide 96 = .ok (.aload_n 0, 1) := by decide +kernel
theorem d_Mo_divide_97 : decode c_Mo_divide 97 = .ok (.getfield 22, 3) := by decide +kernel
theorem d_Mo_divide_100 : decode c_Mo_divide 100 = .ok (.iconst 0, 1) := by decide +kernel
theorem d_Mo_divide_101 : decode c_Mo_divide 101 = .ok (.iload_n 3, 1) := by decide +kernel
theorem d_Mo_divide_102 : decode c_Mo_divide 102 = .ok (.iload_n 1, 1) := by decide +kernel
theorem d_Mo_divide_103 : decode c_Mo_divide 103 = .ok (.if_icmp .lt 16, 3) := by decide +kernel
theorem d_Mo_divide_106 : decode c_Mo_divide 106 = .ok (.aload_n 0, 1) := by decide +kernel
theorem d_Mo_divide_107 : decode c_Mo_divide 107 = .ok (.getfield 7, 3) := by decide +kernel
theorem d_Mo_divide_110 : decode c_Mo_divide 110 = .ok (.iconst 0, 1) := by decide +kernel
theorem d_Mo_divide_111 : decode c_Mo_divide 111 = .ok (.iload_n 3, 1) := by decide +kernel
theorem d_Mo_divide_112 : decode c_Mo_divide 112 = .ok (.iadd, 1) := by decide +kernel
theorem d_Mo_divide_113 : decode c_Mo_divide 113 = .ok (.iload_n 1, 1) := by decide +kernel
theorem d_Mo_divide_114 : decode c_Mo_divide 114 = .ok (.isub, 1) := by decide +kernel
theorem d_Mo_divide_115 : decode c_Mo_divide 115 = .ok (.iaload, 1) := by decide +kernel
theorem d_Mo_divide_116 : decode c_Mo_divide 116 = .ok (.goto 4, 3) := by decide +kernel
theorem d_Mo_divide_119 : decode c_Mo_divide 119 = .ok (.iconst 0, 1) := by decide +kernel
theorem d_Mo_divide_120 : decode c_Mo_divide 120 = .ok (.iastore, 1) := by decide +kernel
theorem d_Mo_divide_121 : decode c_Mo_divide 121 = .ok (.iconst 0, 1) := by decide +kernel
theorem d_Mo_divide_122 : decode c_Mo_divide 122 = .ok (.istore 4, 2) := by decide +kernel
theorem d_Mo_divide_124 : decode c_Mo_divide 124 = .ok (.aload_n 0, 1) := by decide +kernel
theorem d_Mo_divide_125 : decode c_Mo_divide 125 = .ok (.invokevirtual 95, 3) := by decide +kernel
theorem d_Mo_divide_128 : decode c_Mo_divide 128 = .ok (.ifCond .eq 13, 3) := by decide +kernel
theorem d_Mo_divide_131 : decode c_Mo_divide 131 = .ok (.aload_n 0, 1) := by decide +kernel
theorem d_Mo_divide_132 : decode c_Mo_divide 132 = .ok (.invokevirtual 99, 3) := by decide +kernel
theorem d_Mo_divide_135 : decode c_Mo_divide 135 = .ok (.iinc 4 1, 3) := by decide +kernel
theorem d_Mo_divide_138 : decode c_Mo_divide 138 = .ok (.goto (-14), 3) := by decide +kernel
theorem d_Mo_divide_141 : decode c_Mo_divide 141 = .ok (.aload_n 0, 1) := by decide +kernel
theorem d_Mo_divide_142 : decode c_Mo_divide 142 = .ok (.getfield 7, 3) := by decide +kernel
theorem d_Mo_divide_145 : decode c_Mo_divide 145 = .ok (.sipush 640, 3) := by decide +kernel
theorem d_Mo_divide_148 : decode c_Mo_divide 148 = .ok (.iload_n 3, 1) := by decide +kernel
theorem d_Mo_divide_149 : decode c_Mo_divide 149 = .ok (.iadd, 1) := by decide +kernel
theorem d_Mo_divide_150 : decode c_Mo_divide 150 = .ok (.iload 4, 2) := by decide +kernel
theorem d_Mo_divide_152 : decode c_Mo_divide 152 = .ok (.iastore, 1) := by decide +kernel
theorem d_Mo_divide_153 : decode c_Mo_divide 153 = .ok (.iinc 3 (-1), 3) := by decide +kernel
theorem d_Mo_divide_156 : decode c_Mo_divide 156 = .ok (.goto (-99), 3) := by decide +kernel
theorem d_Mo_divide_159 : decode c_Mo_divide 159 = .ok (.aload_n 0, 1) := by decide +kernel
theorem d_Mo_divide_160 : decode c_Mo_divide 160 = .ok (.getfield 13, 3) := by decide +kernel
theorem d_Mo_divide_163 : decode c_Mo_divide 163 = .ok (.iconst 2, 1) := by decide +kernel
theorem d_Mo_divide_164 : decode c_Mo_divide 164 = .ok (.aload_n 0, 1) := by decide +kernel
theorem d_Mo_divide_165 : decode c_Mo_divide 165 = .ok (.getfield 13, 3) := by decide +kernel
theorem d_Mo_divide_168 : decode c_Mo_divide 168 = .ok (.iconst 0, 1) := by decide +kernel
theorem d_Mo_divide_169 : decode c_Mo_divide 169 = .ok (.iaload, 1) := by decide +kernel
theorem d_Mo_divide_170 : decode c_Mo_divide 170 = .ok (.ifCond .ne 7, 3) := by decide +kernel
theorem d_Mo_divide_173 : decode c_Mo_divide 173 = .ok (.iconst 0, 1) := by decide +kernel
theorem d_Mo_divide_174 : decode c_Mo_divide 174 = .ok (.goto 4, 3) := by decide +kernel
theorem d_Mo_divide_177 : decode c_Mo_divide 177 = .ok (.iload_n 2, 1) := by decide +kernel
theorem d_Mo_divide_178 : decode c_Mo_divide 178 = .ok (.iastore, 1) := by decide +kernel
theorem d_Mo_divide_179 : decode c_Mo_divide 179 = .ok (.aload_n 0, 1) := by decide +kernel
theorem d_Mo_divide_180 : decode c_Mo_divide 180 = .ok (.getfield 16, 3) := by decide +kernel
theorem d_Mo_divide_183 : decode c_Mo_divide 183 = .ok (.iconst 2, 1) := by decide +kernel
theorem d_Mo_divide_184 : decode c_Mo_divide 184 = .ok (.aload_n 0, 1) := by decide +kernel
theorem d_Mo_divide_185 : decode c_Mo_divide 185 = .ok (.getfield 16, 3) := by decide +kernel
theorem d_Mo_divide_188 : decode c_Mo_divide 188 = .ok (.iconst 0, 1) := by decide +kernel
theorem d_Mo_divide_189 : decode c_Mo_divide 189 = .ok (.iaload, 1) := by decide +kernel
theorem d_Mo_divide_190 : decode c_Mo_divide 190 = .ok (.iload_n 1, 1) := by decide +kernel
theorem d_Mo_divide_191 : decode c_Mo_divide 191 = .ok (.isub, 1) := by decide +kernel
theorem d_Mo_divide_192 : decode c_Mo_divide 192 = .ok (.aload_n 0, 1) := by decide +kernel
theorem d_Mo_divide_193 : decode c_Mo_divide 193 = .ok (.getfield 16, 3) := by decide +kernel
theorem d_Mo_divide_196 : decode c_Mo_divide 196 = .ok (.iconst 1, 1) := by decide +kernel
theorem d_Mo_divide_197 : decode c_Mo_divide 197 = .ok (.iaload, 1) := by decide +kernel
theorem d_Mo_divide_198 : decode c_Mo_divide 198 = .ok (.isub, 1) := by decide +kernel
theorem d_Mo_divide_199 : decode c_Mo_divide 199 = .ok (.iastore, 1) := by decide +kernel
theorem d_Mo_divide_200 : decode c_Mo_divide 200 = .ok (.aload_n 0, 1) := by decide +kernel
theorem d_Mo_divide_201 : decode c_Mo_divide 201 = .ok (.getfield 19, 3) := by decide +kernel
theorem d_Mo_divide_204 : decode c_Mo_divide 204 = .ok (.iconst 2, 1) := by decide +kernel
theorem d_Mo_divide_205 : decode c_Mo_divide 205 = .ok (.aload_n 0, 1) := by decide +kernel
theorem d_Mo_divide_206 : decode c_Mo_divide 206 = .ok (.getfield 19, 3) := by decide +kernel
theorem d_Mo_divide_209 : decode c_Mo_divide 209 = .ok (.iconst 0, 1) := by decide +kernel
theorem d_Mo_divide_210 : decode c_Mo_divide 210 = .ok (.iaload, 1) := by decide +kernel
theorem d_Mo_divide_211 : decode c_Mo_divide 211 = .ok (.aload_n 0, 1) := by decide +kernel
theorem d_Mo_divide_212 : decode c_Mo_divide 212 = .ok (.getfield 19, 3) := by decide +kernel
theorem d_Mo_divide_215 : decode c_Mo_divide 215 = .ok (.iconst 1, 1) := by decide +kernel
theorem d_Mo_divide_216 : decode c_Mo_divide 216 = .ok (.iaload, 1) := by decide +kernel
theorem d_Mo_divide_217 : decode c_Mo_divide 217 = .ok (.imul, 1) := by decide +kernel
theorem d_Mo_divide_218 : decode c_Mo_divide 218 = .ok (.iastore, 1) := by decide +kernel
theorem d_Mo_divide_219 : decode c_Mo_divide 219 = .ok (.aload_n 0, 1) := by decide +kernel
theorem d_Mo_divide_220 : decode c_Mo_divide 220 = .ok (.iconst 2, 1) := by decide +kernel
theorem d_Mo_divide_221 : decode c_Mo_divide 221 = .ok (.aload_n 0, 1) := by decide +kernel
theorem d_Mo_divide_222 : decode c_Mo_divide 222 = .ok (.getfield 60, 3) := by decide +kernel
theorem d_Mo_divide_225 : decode c_Mo_divide 225 = .ok (.invokevirtual 84, 3) := by decide +kernel
theorem d_Mo_divide_228 : decode c_Mo_divide 228 = .ok (.ireturn, 1) := by decide +kernel
theorem d_Mo_isEnough_0 : decode c_Mo_isEnough 0 = .ok (.aload_n 0, 1) := by decide +kernel
theorem d_Mo_isEnough_1 : decode c_Mo_isEnough 1 = .ok (.getfield 13, 3) := by decide +kernel
theorem d_Mo_isEnough_4 : decode c_Mo_isEnough 4 = .ok (.iconst 1, 1) := by decide +kernel
theorem d_Mo_isEnough_5 : decode c_Mo_isEnough 5 = .ok (.iaload, 1) := by decide +kernel
theorem d_Mo_isEnough_6 : decode c_Mo_isEnough 6 = .ok (.istore_n 1, 1) := by decide +kernel
theorem d_Mo_isEnough_7 : decode c_Mo_isEnough 7 = .ok (.iload_n 1, 1) := by decide +kernel
theorem d_Mo_isEnough_8 : decode c_Mo_isEnough 8 = .ok (.istore_n 2, 1) := by decide +kernel
theorem d_Mo_isEnough_9 : decode c_Mo_isEnough 9 = .ok (.iload_n 2, 1) := by decide +kernel
theorem d_Mo_isEnough_10 : decode c_Mo_isEnough 10 = .ok (.ifCond .lt 50, 3) := by decide +kernel
theorem d_Mo_isEnough_13 : decode c_Mo_isEnough 13 = .ok (.aload_n 0, 1) := by decide +kernel
theorem d_Mo_isEnough_14 : decode c_Mo_isEnough 14 = .ok (.getfield 22, 3) := by decide +kernel
theorem d_Mo_isEnough_17 : decode c_Mo_isEnough 17 = .ok (.iload_n 2, 1) := by decide +kernel
theorem d_Mo_isEnough_18 : decode c_Mo_isEnough 18 = .ok (.iaload, 1) := by decide +kernel
theorem d_Mo_isEnough_19 : decode c_Mo_isEnough 19 = .ok (.iload_n 2, 1) := by decide +kernel
theorem d_Mo_isEnough_20 : decode c_Mo_isEnough 20 = .ok (.iload_n 1, 1) := by decide +kernel
theorem d_Mo_isEnough_21 : decode c_Mo_isEnough 21 = .ok (.if_icmp .ge 16, 3) := by decide +kernel
theorem d_Mo_isEnough_24 : decode c_Mo_isEnough 24 = .ok (.aload_n 0, 1) := by decide +kernel
theorem d_Mo_isEnough_25 : decode c_Mo_isEnough 25 = .ok (.getfield 7, 3) := by decide +kernel
theorem d_Mo_isEnough_28 : decode c_Mo_isEnough 28 = .ok (.sipush 320, 3) := by decide +kernel
theorem d_Mo_isEnough_31 : decode c_Mo_isEnough 31 = .ok (.iload_n 2, 1) := by decide +kernel
theorem d_Mo_isEnough_32 : decode c_Mo_isEnough 32 = .ok (.iadd, 1) := by decide +kernel
theorem d_Mo_isEnough_33 : decode c_Mo_isEnough 33 = .ok (.iaload, 1) := by decide +kernel
theorem d_Mo_isEnough_34 : decode c_Mo_isEnough 34 = .ok (.goto 4, 3) := by decide +kernel
theorem d_Mo_isEnough_37 : decode c_Mo_isEnough 37 = .ok (.iconst 0, 1) := by decide +kernel
theorem d_Mo_isEnough_38 : decode c_Mo_isEnough 38 = .ok (.isub, 1) := by decide +kernel
theorem d_Mo_isEnough_39 : decode c_Mo_isEnough 39 = .ok (.istore_n 3, 1) := by decide +kernel
theorem d_Mo_isEnough_40 : decode c_Mo_isEnough 40 = .ok (.iload_n 3, 1) := by decide +kernel
theorem d_Mo_isEnough_41 : decode c_Mo_isEnough 41 = .ok (.ifCond .eq 13, 3) := by decide +kernel
theorem d_Mo_isEnough_44 : decode c_Mo_isEnough 44 = .ok (.iload_n 3, 1) := by decide +kernel
theorem d_Mo_isEnough_45 : decode c_Mo_isEnough 45 = .ok (.ifCond .le 7, 3) := by decide +kernel
theorem d_Mo_isEnough_48 : decode c_Mo_isEnough 48 = .ok (.iconst 1, 1) := by decide +kernel
theorem d_Mo_isEnough_49 : decode c_Mo_isEnough 49 = .ok (.goto 4, 3) := by decide +kernel
theorem d_Mo_isEnough_52 : decode c_Mo_isEnough 52 = .ok (.iconst 0, 1) := by decide +kernel
theorem d_Mo_isEnough_53 : decode c_Mo_isEnough 53 = .ok (.ireturn, 1) := by decide +kernel
theorem d_Mo_isEnough_54 : decode c_Mo_isEnough 54 = .ok (.iinc 2 (-1), 3) := by decide +kernel
theorem d_Mo_isEnough_57 : decode c_Mo_isEnough 57 = .ok (.goto (-48), 3) := by decide +kernel
theorem d_Mo_isEnough_60 : decode c_Mo_isEnough 60 = .ok (.iconst 1, 1) := by decide +kernel
theorem d_Mo_isEnough_61 : decode c_Mo_isEnough 61 = .ok (.ireturn, 1) := by decide +kernel
theorem d_Mo_lessen_0 : decode c_Mo_lessen 0 = .ok (.iconst 0, 1) := by decide +kernel
theorem d_Mo_lessen_1 : decode c_Mo_lessen 1 = .ok (.istore_n 1, 1) := by decide +kernel
theorem d_Mo_lessen_2 : decode c_Mo_lessen 2 = .ok (.iconst 0, 1) := by decide +kernel
theorem d_Mo_lessen_3 : decode c_Mo_lessen 3 = .ok (.istore_n 2, 1) := by decide +kernel
theorem d_Mo_lessen_4 : decode c_Mo_lessen 4 = .ok (.iload_n 2, 1) := by decide +kernel
theorem d_Mo_lessen_5 : decode c_Mo_lessen 5 = .ok (.aload_n 0, 1) := by decide +kernel
theorem d_Mo_lessen_6 : decode c_Mo_lessen 6 = .ok (.getfield 13, 3) := by decide +kernel
theorem d_Mo_lessen_9 : decode c_Mo_lessen 9 = .ok (.iconst 1, 1) := by decide +kernel
theorem d_Mo_lessen_10 : decode c_Mo_lessen 10 = .ok (.iaload, 1) := by decide +kernel
theorem d_Mo_lessen_11 : decode c_Mo_lessen 11 = .ok (.if_icmp .gt 65, 3) := by decide +kernel
theorem d_Mo_lessen_14 : decode c_Mo_lessen 14 = .ok (.aload_n 0, 1) := by decide +kernel
theorem d_Mo_lessen_15 : decode c_Mo_lessen 15 = .ok (.getfield 22, 3) := by decide +kernel
theorem d_Mo_lessen_18 : decode c_Mo_lessen 18 = .ok (.iload_n 2, 1) := by decide +kernel
theorem d_Mo_lessen_19 : decode c_Mo_lessen 19 = .ok (.iaload, 1) := by decide +kernel
theorem d_Mo_lessen_20 : decode c_Mo_lessen 20 = .ok (.iload_n 2, 1) := by decide +kernel
theorem d_Mo_lessen_21 : decode c_Mo_lessen 21 = .ok (.aload_n 0, 1) := by decide +kernel
theorem d_Mo_lessen_22 : decode c_Mo_lessen 22 = .ok (.getfield 13, 3) := by decide +kernel
theorem d_Mo_lessen_25 : decode c_Mo_lessen 25 = .ok (.iconst 1, 1) := by decide +kernel
theorem d_Mo_lessen_26 : decode c_Mo_lessen 26 = .ok (.iaload, 1) := by decide +kernel
theorem d_Mo_lessen_27 : decode c_Mo_lessen 27 = .ok (.if_icmp .ge 16, 3) := by decide +kernel
theorem d_Mo_lessen_30 : decode c_Mo_lessen 30 = .ok (.aload_n 0, 1) := by decide +kernel
theorem d_Mo_lessen_31 : decode c_Mo_lessen 31 = .ok (.getfield 7, 3) := by decide +kernel
theorem d_Mo_lessen_34 : decode c_Mo_lessen 34 = .ok (.sipush 320, 3) := by decide +kernel
theorem d_Mo_lessen_37 : decode c_Mo_lessen 37 = .ok (.iload_n 2, 1) := by decide +kernel
theorem d_Mo_lessen_38 : decode c_Mo_lessen 38 = .ok (.iadd, 1) := by decide +kernel
theorem d_Mo_lessen_39 : decode c_Mo_lessen 39 = .ok (.iaload, 1) := by decide +kernel
theorem d_Mo_lessen_40 : decode c_Mo_lessen 40 = .ok (.goto 4, 3) := by decide +kernel
theorem d_Mo_lessen_43 : decode c_Mo_lessen 43 = .ok (.iconst 0, 1) := by decide +kernel
theorem d_Mo_lessen_44 : decode c_Mo_lessen 44 = .ok (.isub, 1) := by decide +kernel
theorem d_Mo_lessen_45 : decode c_Mo_lessen 45 = .ok (.iload_n 1, 1) := by decide +kernel
theorem d_Mo_lessen_46 : decode c_Mo_lessen 46 = .ok (.iadd, 1) := by decide +kernel
theorem d_Mo_lessen_47 : decode c_Mo_lessen 47 = .ok (.istore_n 3, 1) := by decide +kernel
theorem d_Mo_lessen_48 : decode c_Mo_lessen 48 = .ok (.iload_n 3, 1) := by decide +kernel
theorem d_Mo_lessen_49 : decode c_Mo_lessen 49 = .ok (.ifCond .ge 7, 3) := by decide +kernel
theorem d_Mo_lessen_52 : decode c_Mo_lessen 52 = .ok (.iconst (-1), 1) := by decide +kernel
theorem d_Mo_lessen_53 : decode c_Mo_lessen 53 = .ok (.goto 4, 3) := by decide +kernel
theorem d_Mo_lessen_56 : decode c_Mo_lessen 56 = .ok (.iconst 0, 1) := by decide +kernel
theorem d_Mo_lessen_57 : decode c_Mo_lessen 57 = .ok (.istore_n 1, 1) := by decide +kernel
theorem d_Mo_lessen_58 : decode c_Mo_lessen 58 = .ok (.aload_n 0, 1) := by decide +kernel
theorem d_Mo_lessen_59 : decode c_Mo_lessen 59 = .ok (.getfield 22, 3) := by decide +kernel
theorem d_Mo_lessen_62 : decode c_Mo_lessen 62 = .ok (.iload_n 2, 1) := by decide +kernel
theorem d_Mo_lessen_63 : decode c_Mo_lessen 63 = .ok (.iload_n 3, 1) := by decide +kernel
theorem d_Mo_lessen_64 : decode c_Mo_lessen 64 = .ok (.bipush 10, 2) := by decide +kernel
theorem d_Mo_lessen_66 : decode c_Mo_lessen 66 = .ok (.iload_n 1, 1) := by decide +kernel
theorem d_Mo_lessen_67 : decode c_Mo_lessen 67 = .ok (.imul, 1) := by decide +kernel
theorem d_Mo_lessen_68 : decode c_Mo_lessen 68 = .ok (.isub, 1) := by decide +kernel
theorem d_Mo_lessen_69 : decode c_Mo_lessen 69 = .ok (.iastore, 1) := by decide +kernel
theorem d_Mo_lessen_70 : decode c_Mo_lessen 70 = .ok (.iinc 2 1, 3) := by decide +kernel
theorem d_Mo_lessen_73 : decode c_Mo_lessen 73 = .ok (.goto (-69), 3) := by decide +kernel
theorem d_Mo_lessen_76 : decode c_Mo_lessen 76 = .ok (.return_, 1) := by decide +kernel
theorem d_Mo_raise_0 : decode c_Mo_raise 0 = .ok (.aload_n 0, 1) := by decide +kernel
theorem d_Mo_raise_1 : decode c_Mo_raise 1 = .ok (.invokevirtual 102, 3) := by decide +kernel
theorem d_Mo_raise_4 : decode c_Mo_raise 4 = .ok (.istore_n 1, 1) := by decide +kernel
theorem d_Mo_raise_5 : decode c_Mo_raise 5 = .ok (.iload_n 1, 1) := by decide +kernel
theorem d_Mo_raise_6 : decode c_Mo_raise 6 = .ok (.bipush 100, 2) := by decide +kernel
theorem d_Mo_raise_8 : decode c_Mo_raise 8 = .ok (.if_icmp .eq 16, 3) := by decide +kernel
theorem d_Mo_raise_11 : decode c_Mo_raise 11 = .ok (.iload_n 1, 1) := by decide +kernel
theorem d_Mo_raise_12 : decode c_Mo_raise 12 = .ok (.ifCond .ne 14, 3) := by decide +kernel
theorem d_Mo_raise_15 : decode c_Mo_raise 15 = .ok (.aload_n 0, 1) := by decide +kernel
theorem d_Mo_raise_16 : decode c_Mo_raise 16 = .ok (.getfield 13, 3) := by decide +kernel
theorem d_Mo_raise_19 : decode c_Mo_raise 19 = .ok (.iconst 0, 1) := by decide +kernel
theorem d_Mo_raise_20 : decode c_Mo_raise 20 = .ok (.iaload, 1) := by decide +kernel
theorem d_Mo_raise_21 : decode c_Mo_raise 21 = .ok (.ifCond .ne 5, 3) := by decide +kernel
theorem d_Mo_raise_24 : decode c_Mo_raise 24 = .ok (.iconst 1, 1) := by decide +kernel
theorem d_Mo_raise_25 : decode c_Mo_raise 25 = .ok (.ireturn, 1) := by decide +kernel
theorem d_Mo_raise_26 : decode c_Mo_raise 26 = .ok (.iload_n 1, 1) := by decide +kernel
theorem d_Mo_raise_27 : decode c_Mo_raise 27 = .ok (.ifCond .ge 14, 3) := by decide +kernel
theorem d_Mo_raise_30 : decode c_Mo_raise 30 = .ok (.aload_n 0, 1) := by decide +kernel
theorem d_Mo_raise_31 : decode c_Mo_raise 31 = .ok (.getfield 13, 3) := by decide +kernel
theorem d_Mo_raise_34 : decode c_Mo_raise 34 = .ok (.iconst 0, 1) := by decide +kernel
theorem d_Mo_raise_35 : decode c_Mo_raise 35 = .ok (.iaload, 1) := by decide +kernel
theorem d_Mo_raise_36 : decode c_Mo_raise 36 = .ok (.ifCond .ne 5, 3) := by decide +kernel
theorem d_Mo_raise_39 : decode c_Mo_raise 39 = .ok (.iconst 2, 1) := by decide +kernel
theorem d_Mo_raise_40 : decode c_Mo_raise 40 = .ok (.ireturn, 1) := by decide +kernel
theorem d_Mo_raise_41 : decode c_Mo_raise 41 = .ok (.aload_n 0, 1) := by decide +kernel
theorem d_Mo_raise_42 : decode c_Mo_raise 42 = .ok (.iconst 0, 1) := by decide +kernel
theorem d_Mo_raise_43 : decode c_Mo_raise 43 = .ok (.bipush 6, 2) := by decide +kernel
theorem d_Mo_raise_45 : decode c_Mo_raise 45 = .ok (.invokevirtual 81, 3) := by decide +kernel
theorem d_Mo_raise_48 : decode c_Mo_raise 48 = .ok (.aload_n 0, 1) := by decide +kernel
theorem d_Mo_raise_49 : decode c_Mo_raise 49 = .ok (.lconst 1, 1) := by decide +kernel
theorem d_Mo_raise_50 : decode c_Mo_raise 50 = .ok (.iconst 0, 1) := by decide +kernel
theorem d_Mo_raise_51 : decode c_Mo_raise 51 = .ok (.iconst 2, 1) := by decide +kernel
theorem d_Mo_raise_52 : decode c_Mo_raise 52 = .ok (.invokevirtual 106, 3) := by decide +kernel
theorem d_Mo_raise_55 : decode c_Mo_raise 55 = .ok (.iconst 0, 1) := by decide +kernel
theorem d_Mo_raise_56 : decode c_Mo_raise 56 = .ok (.istore_n 2, 1) := by decide +kernel
theorem d_Mo_raise_57 : decode c_Mo_raise 57 = .ok (.iconst 0, 1) := by decide +kernel
theorem d_Mo_raise_58 : decode c_Mo_raise 58 = .ok (.istore_n 3, 1) := by decide +kernel
theorem d_Mo_raise_59 : decode c_Mo_raise 59 = .ok (.iload_n 3, 1) := by decide +kernel
theorem d_Mo_raise_60 : decode c_Mo_raise 60 = .ok (.iload_n 1, 1) := by decide +kernel
theorem d_Mo_raise_61 : decode c_Mo_raise 61 = .ok (.ifCond .ge 9, 3) := by decide +kernel
theorem d_Mo_raise_64 : decode c_Mo_raise 64 = .ok (.iconst 0, 1) := by decide +kernel
theorem d_Mo_raise_65 : decode c_Mo_raise 65 = .ok (.iload_n 1, 1) := by decide +kernel
theorem d_Mo_raise_66 : decode c_Mo_raise 66 = .ok (.isub, 1) := by decide +kernel
theorem d_Mo_raise_67 : decode c_Mo_raise 67 = .ok (.goto 4, 3) := by decide +kernel
theorem d_Mo_raise_70 : decode c_Mo_raise 70 = .ok (.iload_n 1, 1) := by decide +kernel
theorem d_Mo_raise_71 : decode c_Mo_raise 71 = .ok (.if_icmp .ge 31, 3) := by decide +kernel
theorem d_Mo_raise_74 : decode c_Mo_raise 74 = .ok (.iload_n 2, 1) := by decide +kernel
theorem d_Mo_raise_75 : decode c_Mo_raise 75 = .ok (.ifCond .ne 27, 3) := by decide +kernel
theorem d_Mo_raise_78 : decode c_Mo_raise 78 = .ok (.aload_n 0, 1) := by decide +kernel
theorem d_Mo_raise_79 : decode c_Mo_raise 79 = .ok (.iconst 2, 1) := by decide +kernel
theorem d_Mo_raise_80 : decode c_Mo_raise 80 = .ok (.iconst 0, 1) := by decide +kernel
theorem d_Mo_raise_81 : decode c_Mo_raise 81 = .ok (.invokevirtual 81, 3) := by decide +kernel
theorem d_Mo_raise_84 : decode c_Mo_raise 84 = .ok (.aload_n 0, 1) := by decide +kernel
theorem d_Mo_raise_85 : decode c_Mo_raise 85 = .ok (.bipush 6, 2) := by decide +kernel
theorem d_Mo_raise_87 : decode c_Mo_raise 87 = .ok (.iconst 1, 1) := by decide +kernel
theorem d_Mo_raise_88 : decode c_Mo_raise 88 = .ok (.invokevirtual 81, 3) := by decide +kernel
theorem d_Mo_raise_91 : decode c_Mo_raise 91 = .ok (.aload_n 0, 1) := by decide +kernel
theorem d_Mo_raise_92 : decode c_Mo_raise 92 = .ok (.invokevirtual 110, 3) := by decide +kernel
theorem d_Mo_raise_95 : decode c_Mo_raise 95 = .ok (.istore_n 2, 1) := by decide +kernel
theorem d_Mo_raise_96 : decode c_Mo_raise 96 = .ok (.iinc 3 1, 3) := by decide +kernel
theorem d_Mo_raise_99 : decode c_Mo_raise 99 = .ok (.goto (-40), 3) := by decide +kernel
theorem d_Mo_raise_102 : decode c_Mo_raise 102 = .ok (.iload_n 1, 1) := by decide +kernel
theorem d_Mo_raise_103 : decode c_Mo_raise 103 = .ok (.ifCond .ge 7, 3) := by decide +kernel
theorem d_Mo_raise_106 : decode c_Mo_raise 106 = .ok (.iload_n 2, 1) := by decide +kernel
theorem d_Mo_raise_107 : decode c_Mo_raise 107 = .ok (.ifCond .eq 5, 3) := by decide +kernel
theorem d_Mo_raise_110 : decode c_Mo_raise 110 = .ok (.iload_n 2, 1) := by decide +kernel
theorem d_Mo_raise_111 : decode c_Mo_raise 111 = .ok (.ireturn, 1) := by decide +kernel
theorem d_Mo_raise_112 : decode c_Mo_raise 112 = .ok (.aload_n 0, 1) := by decide +kernel
theorem d_Mo_raise_113 : decode c_Mo_raise 113 = .ok (.iconst 2, 1) := by decide +kernel
theorem d_Mo_raise_114 : decode c_Mo_raise 114 = .ok (.iconst 1, 1) := by decide +kernel
theorem d_Mo_raise_115 : decode c_Mo_raise 115 = .ok (.invokevirtual 81, 3) := by decide +kernel
theorem d_Mo_raise_118 : decode c_Mo_raise 118 = .ok (.aload_n 0, 1) := by decide +kernel
theorem d_Mo_raise_119 : decode c_Mo_raise 119 = .ok (.lconst 1, 1) := by decide +kernel
theorem d_Mo_raise_120 : decode c_Mo_raise 120 = .ok (.iconst 0, 1) := by decide +kernel
theorem d_Mo_raise_121 : decode c_Mo_raise 121 = .ok (.iconst 0, 1) := by decide +kernel
theorem d_Mo_raise_122 : decode c_Mo_raise 122 = .ok (.invokevirtual 106, 3) := by decide +kernel
theorem d_Mo_raise_125 : decode c_Mo_raise 125 = .ok (.aload_n 0, 1) := by decide +kernel
theorem d_Mo_raise_126 : decode c_Mo_raise 126 = .ok (.invokevirtual 113, 3) := by decide +kernel
theorem d_Mo_raise_129 : decode c_Mo_raise 129 = .ok (.ireturn, 1) := by decide +kernel
theorem d_Mo_power_0 : decode c_Mo_power 0 = .ok (.aload_n 0, 1) := by decide +kernel
theorem d_Mo_power_1 : decode c_Mo_power 1 = .ok (.getfield 13, 3) := by decide +kernel
theorem d_Mo_power_4 : decode c_Mo_power 4 = .ok (.iconst 1, 1) := by decide +kernel
theorem d_Mo_power_5 : decode c_Mo_power 5 = .ok (.iaload, 1) := by decide +kernel
theorem d_Mo_power_6 : decode c_Mo_power 6 = .ok (.ifCond .ne 5, 3) := by decide +kernel
theorem d_Mo_power_9 : decode c_Mo_power 9 = .ok (.iconst 0, 1) := by decide +kernel
theorem d_Mo_power_10 : decode c_Mo_power 10 = .ok (.ireturn, 1) := by decide +kernel
theorem d_Mo_power_11 : decode c_Mo_power 11 = .ok (.aload_n 0, 1) := by decide +kernel
theorem d_Mo_power_12 : decode c_Mo_power 12 = .ok (.getfield 16, 3) := by decide +kernel
theorem d_Mo_power_15 : decode c_Mo_power 15 = .ok (.iconst 1, 1) := by decide +kernel
theorem d_Mo_power_16 : decode c_Mo_power 16 = .ok (.iaload, 1) := by decide +kernel
theorem d_Mo_power_17 : decode c_Mo_power 17 = .ok (.ifCond .lt 12, 3) := by decide +kernel
theorem d_Mo_power_20 : decode c_Mo_power 20 = .ok (.aload_n 0, 1) := by decide +kernel
theorem d_Mo_power_21 : decode c_Mo_power 21 = .ok (.iconst 1, 1) := by decide +kernel
theorem d_Mo_power_22 : decode c_Mo_power 22 = .ok (.invokevirtual 87, 3) := by decide +kernel
theorem d_Mo_power_25 : decode c_Mo_power 25 = .ok (.iconst 2, 1) := by decide +kernel
theorem d_Mo_power_26 : decode c_Mo_power 26 = .ok (.if_icmp .le 6, 3) := by decide +kernel
theorem d_Mo_power_29 : decode c_Mo_power 29 = .ok (.bipush 100, 2) := by decide +kernel
theorem d_Mo_power_31 : decode c_Mo_power 31 = .ok (.ireturn, 1) := by decide +kernel
theorem d_Mo_power_32 : decode c_Mo_power 32 = .ok (.aload_n 0, 1) := by decide +kernel
theorem d_Mo_power_33 : decode c_Mo_power 33 = .ok (.getfield 19, 3) := by decide +kernel
theorem d_Mo_power_36 : decode c_Mo_power 36 = .ok (.iconst 1, 1) := by decide +kernel
theorem d_Mo_power_37 : decode c_Mo_power 37 = .ok (.iaload, 1) := by decide +kernel
theorem d_Mo_power_38 : decode c_Mo_power 38 = .ok (.aload_n 0, 1) := by decide +kernel
theorem d_Mo_power_39 : decode c_Mo_power 39 = .ok (.iconst 1, 1) := by decide +kernel
theorem d_Mo_power_40 : decode c_Mo_power 40 = .ok (.iconst 0, 1) := by decide +kernel
theorem d_Mo_power_41 : decode c_Mo_power 41 = .ok (.invokevirtual 77, 3) := by decide +kernel
theorem d_Mo_power_44 : decode c_Mo_power 44 = .ok (.bipush 10, 2) := by decide +kernel
theorem d_Mo_power_46 : decode c_Mo_power 46 = .ok (.aload_n 0, 1) := by decide +kernel
theorem d_Mo_power_47 : decode c_Mo_power 47 = .ok (.iconst 1, 1) := by decide +kernel
theorem d_Mo_power_48 : decode c_Mo_power 48 = .ok (.iconst 1, 1) := by decide +kernel
theorem d_Mo_power_49 : decode c_Mo_power 49 = .ok (.invokevirtual 77, 3) := by decide +kernel
theorem d_Mo_power_52 : decode c_Mo_power 52 = .ok (.imul, 1) := by decide +kernel
theorem d_Mo_power_53 : decode c_Mo_power 53 = .ok (.iadd, 1) := by decide +kernel
theorem d_Mo_power_54 : decode c_Mo_power 54 = .ok (.imul, 1) := by decide +kernel
theorem d_Mo_power_55 : decode c_Mo_power 55 = .ok (.ireturn, 1) := by decide +kernel
theorem d_Mo_raises_0 : decode c_Mo_raises 0 = .ok (.aload_n 0, 1) := by decide +kernel
theorem d_Mo_raises_1 : decode c_Mo_raises 1 = .ok (.iconst 0, 1) := by decide +kernel
theorem d_Mo_raises_2 : decode c_Mo_raises 2 = .ok (.putfield 64, 3) := by decide +kernel
theorem d_Mo_raises_5 : decode c_Mo_raises 5 = .ok (.aload_n 0, 1) := by decide +kernel
theorem d_Mo_raises_6 : decode c_Mo_raises 6 = .ok (.iload_n 1, 1) := by decide +kernel
theorem d_Mo_raises_7 : decode c_Mo_raises 7 = .ok (.invokevirtual 128, 3) := by decide +kernel
theorem d_Mo_raises_10 : decode c_Mo_raises 10 = .ok (.ifCond .eq 12, 3) := by decide +kernel
theorem d_Mo_raises_13 : decode c_Mo_raises 13 = .ok (.aload_n 0, 1) := by decide +kernel
theorem d_Mo_raises_14 : decode c_Mo_raises 14 = .ok (.getfield 37, 3) := by decide +kernel
theorem d_Mo_raises_17 : decode c_Mo_raises 17 = .ok (.iload_n 1, 1) := by decide +kernel
theorem d_Mo_raises_18 : decode c_Mo_raises 18 = .ok (.iaload, 1) := by decide +kernel
theorem d_Mo_raises_19 : decode c_Mo_raises 19 = .ok (.goto 5, 3) := by decide +kernel
theorem d_Mo_raises_22 : decode c_Mo_raises 22 = .ok (.bipush (-2), 2) := by decide +kernel
theorem d_Mo_raises_24 : decode c_Mo_raises 24 = .ok (.ireturn, 1) := by decide +kernel
theorem d_Mo_exact_0 : decode c_Mo_exact 0 = .ok (.aload_n 0, 1) := by decide +kernel
theorem d_Mo_exact_1 : decode c_Mo_exact 1 = .ok (.iconst 0, 1) := by decide +kernel
theorem d_Mo_exact_2 : decode c_Mo_exact 2 = .ok (.putfield 64, 3) := by decide +kernel
theorem d_Mo_exact_5 : decode c_Mo_exact 5 = .ok (.aload_n 0, 1) := by decide +kernel
theorem d_Mo_exact_6 : decode c_Mo_exact 6 = .ok (.iload_n 1, 1) := by decide +kernel
theorem d_Mo_exact_7 : decode c_Mo_exact 7 = .ok (.invokevirtual 128, 3) := by decide +kernel
theorem d_Mo_exact_10 : decode c_Mo_exact 10 = .ok (.ifCond .eq 7, 3) := by decide +kernel
theorem d_Mo_exact_13 : decode c_Mo_exact 13 = .ok (.iload_n 2, 1) := by decide +kernel
theorem d_Mo_exact_14 : decode c_Mo_exact 14 = .ok (.ifCond .ge 7, 3) := by decide +kernel
theorem d_Mo_exact_17 : decode c_Mo_exact 17 = .ok (.ldc2_w 138, 3) := by decide +kernel
theorem d_Mo_exact_20 : decode c_Mo_exact 20 = .ok (.lreturn, 1) := by decide +kernel
theorem d_Mo_exact_21 : decode c_Mo_exact 21 = .ok (.aload_n 0, 1) := by decide +kernel
theorem d_Mo_exact_22 : decode c_Mo_exact 22 = .ok (.getfield 37, 3) := by decide +kernel
theorem d_Mo_exact_25 : decode c_Mo_exact 25 = .ok (.iload_n 1, 1) := by decide +kernel
theorem d_Mo_exact_26 : decode c_Mo_exact 26 = .ok (.iaload, 1) := by decide +kernel
theorem d_Mo_exact_27 : decode c_Mo_exact 27 = .ok (.ifCond .eq 10, 3) := by decide +kernel
theorem d_Mo_exact_30 : decode c_Mo_exact 30 = .ok (.aload_n 0, 1) := by decide +kernel
theorem d_Mo_exact_31 : decode c_Mo_exact 31 = .ok (.iconst 1, 1) := by decide +kernel
theorem d_Mo_exact_32 : decode c_Mo_exact 32 = .ok (.putfield 64, 3) := by decide +kernel
theorem d_Mo_exact_35 : decode c_Mo_exact 35 = .ok (.lconst 0, 1) := by decide +kernel
theorem d_Mo_exact_36 : decode c_Mo_exact 36 = .ok (.lreturn, 1) := by decide +kernel
theorem d_Mo_exact_37 : decode c_Mo_exact 37 = .ok (.iload_n 2, 1) := by decide +kernel
theorem d_Mo_exact_38 : decode c_Mo_exact 38 = .ok (.ifCond .ne 11, 3) := by decide +kernel
theorem d_Mo_exact_41 : decode c_Mo_exact 41 = .ok (.aload_n 0, 1) := by decide +kernel
theorem d_Mo_exact_42 : decode c_Mo_exact 42 = .ok (.getfield 34, 3) := by decide +kernel
theorem d_Mo_exact_45 : decode c_Mo_exact 45 = .ok (.iload_n 1, 1) := by decide +kernel
theorem d_Mo_exact_46 : decode c_Mo_exact 46 = .ok (.iaload, 1) := by decide +kernel
theorem d_Mo_exact_47 : decode c_Mo_exact 47 = .ok (.i2l, 1) := by decide +kernel
theorem d_Mo_exact_48 : decode c_Mo_exact 48 = .ok (.lreturn, 1) := by decide +kernel
theorem d_Mo_exact_49 : decode c_Mo_exact 49 = .ok (.iload_n 2, 1) := by decide +kernel
theorem d_Mo_exact_50 : decode c_Mo_exact 50 = .ok (.iconst 1, 1) := by decide +kernel
theorem d_Mo_exact_51 : decode c_Mo_exact 51 = .ok (.if_icmp .ne 11, 3) := by decide +kernel
theorem d_Mo_exact_54 : decode c_Mo_exact 54 = .ok (.aload_n 0, 1) := by decide +kernel
theorem d_Mo_exact_55 : decode c_Mo_exact 55 = .ok (.getfield 28, 3) := by decide +kernel
theorem d_Mo_exact_58 : decode c_Mo_exact 58 = .ok (.iload_n 1, 1) := by decide +kernel
theorem d_Mo_exact_59 : decode c_Mo_exact 59 = .ok (.iaload, 1) := by decide +kernel
theorem d_Mo_exact_60 : decode c_Mo_exact 60 = .ok (.i2l, 1) := by decide +kernel
theorem d_Mo_exact_61 : decode c_Mo_exact 61 = .ok (.lreturn, 1) := by decide +kernel
theorem d_Mo_exact_62 : decode c_Mo_exact 62 = .ok (.iload_n 2, 1) := by decide +kernel
theorem d_Mo_exact_63 : decode c_Mo_exact 63 = .ok (.iconst 2, 1) := by decide +kernel
theorem d_Mo_exact_64 : decode c_Mo_exact 64 = .ok (.if_icmp .ne 11, 3) := by decide +kernel
theorem d_Mo_exact_67 : decode c_Mo_exact 67 = .ok (.aload_n 0, 1) := by decide +kernel
theorem d_Mo_exact_68 : decode c_Mo_exact 68 = .ok (.getfield 31, 3) := by decide +kernel
theorem d_Mo_exact_71 : decode c_Mo_exact 71 = .ok (.iload_n 1, 1) := by decide +kernel
theorem d_Mo_exact_72 : decode c_Mo_exact 72 = .ok (.iaload, 1) := by decide +kernel
theorem d_Mo_exact_73 : decode c_Mo_exact 73 = .ok (.i2l, 1) := by decide +kernel
theorem d_Mo_exact_74 : decode c_Mo_exact 74 = .ok (.lreturn, 1) := by decide +kernel
theorem d_Mo_exact_75 : decode c_Mo_exact 75 = .ok (.iload_n 2, 1) := by decide +kernel
theorem d_Mo_exact_76 : decode c_Mo_exact 76 = .ok (.iconst 3, 1) := by decide +kernel
theorem d_Mo_exact_77 : decode c_Mo_exact 77 = .ok (.isub, 1) := by decide +kernel
theorem d_Mo_exact_78 : decode c_Mo_exact 78 = .ok (.istore_n 3, 1) := by decide +kernel
theorem d_Mo_exact_79 : decode c_Mo_exact 79 = .ok (.iload_n 3, 1) := by decide +kernel
theorem d_Mo_exact_80 : decode c_Mo_exact 80 = .ok (.aload_n 0, 1) := by decide +kernel
theorem d_Mo_exact_81 : decode c_Mo_exact 81 = .ok (.getfield 28, 3) := by decide +kernel
theorem d_Mo_exact_84 : decode c_Mo_exact 84 = .ok (.iload_n 1, 1) := by decide +kernel
theorem d_Mo_exact_85 : decode c_Mo_exact 85 = .ok (.iaload, 1) := by decide +kernel
theorem d_Mo_exact_86 : decode c_Mo_exact 86 = .ok (.if_icmp .ge 27, 3) := by decide +kernel
theorem d_Mo_exact_89 : decode c_Mo_exact 89 = .ok (.aload_n 0, 1) := by decide +kernel
theorem d_Mo_exact_90 : decode c_Mo_exact 90 = .ok (.getfield 25, 3) := by decide +kernel
theorem d_Mo_exact_93 : decode c_Mo_exact 93 = .ok (.bipush 31, 2) := by decide +kernel
theorem d_Mo_exact_95 : decode c_Mo_exact 95 = .ok (.iload_n 1, 1) := by decide +kernel
theorem d_Mo_exact_96 : decode c_Mo_exact 96 = .ok (.imul, 1) := by decide +kernel
theorem d_Mo_exact_97 : decode c_Mo_exact 97 = .ok (.aload_n 0, 1) := by decide +kernel
theorem d_Mo_exact_98 : decode c_Mo_exact 98 = .ok (.getfield 28, 3) := by decide +kernel
theorem d_Mo_exact_101 : decode c_Mo_exact 101 = .ok (.iload_n 1, 1) := by decide +kernel
theorem d_Mo_exact_102 : decode c_Mo_exact 102 = .ok (.iaload, 1) := by decide +kernel
theorem d_Mo_exact_103 : decode c_Mo_exact 103 = .ok (.iadd, 1) := by decide +kernel
theorem d_Mo_exact_104 : decode c_Mo_exact 104 = .ok (.iconst 1, 1) := by decide +kernel
theorem d_Mo_exact_105 : decode c_Mo_exact 105 = .ok (.isub, 1) := by decide +kernel
theorem d_Mo_exact_106 : decode c_Mo_exact 106 = .ok (.iload_n 3, 1) := by decide +kernel
theorem d_Mo_exact_107 : decode c_Mo_exact 107 = .ok (.isub, 1) := by decide +kernel
theorem d_Mo_exact_108 : decode c_Mo_exact 108 = .ok (.iaload, 1) := by decide +kernel
theorem d_Mo_exact_109 : decode c_Mo_exact 109 = .ok (.i2l, 1) := by decide +kernel
theorem d_Mo_exact_110 : decode c_Mo_exact 110 = .ok (.goto 6, 3) := by decide +kernel
theorem d_Mo_exact_113 : decode c_Mo_exact 113 = .ok (.ldc2_w 138, 3) := by decide +kernel
theorem d_Mo_exact_116 : decode c_Mo_exact 116 = .ok (.lreturn, 1) := by decide +kernel
theorem d_Mo_receiver_0 : decode c_Mo_receiver 0 = .ok (.aload_n 0, 1) := by decide +kernel
theorem d_Mo_receiver_1 : decode c_Mo_receiver 1 = .ok (.iconst 0, 1) := by decide +kernel
theorem d_Mo_receiver_2 : decode c_Mo_receiver 2 = .ok (.putfield 64, 3) := by decide +kernel
theorem d_Mo_receiver_5 : decode c_Mo_receiver 5 = .ok (.iload_n 1, 1) := by decide +kernel
theorem d_Mo_receiver_6 : decode c_Mo_receiver 6 = .ok (.iconst 1, 1) := by decide +kernel
theorem d_Mo_receiver_7 : decode c_Mo_receiver 7 = .ok (.if_icmp .lt 28, 3) := by decide +kernel
theorem d_Mo_receiver_10 : decode c_Mo_receiver 10 = .ok (.iload_n 1, 1) := by decide +kernel
theorem d_Mo_receiver_11 : decode c_Mo_receiver 11 = .ok (.bipush 18, 2) := by decide +kernel
theorem d_Mo_receiver_13 : decode c_Mo_receiver 13 = .ok (.if_icmp .gt 22, 3) := by decide +kernel
theorem d_Mo_receiver_16 : decode c_Mo_receiver 16 = .ok (.iload_n 2, 1) := by decide +kernel
theorem d_Mo_receiver_17 : decode c_Mo_receiver 17 = .ok (.ifCond .lt 18, 3) := by decide +kernel
theorem d_Mo_receiver_20 : decode c_Mo_receiver 20 = .ok (.iload_n 2, 1) := by decide +kernel
theorem d_Mo_receiver_21 : decode c_Mo_receiver 21 = .ok (.iload_n 1, 1) := by decide +kernel
theorem d_Mo_receiver_22 : decode c_Mo_receiver 22 = .ok (.if_icmp .gt 13, 3) := by decide +kernel
theorem d_Mo_receiver_25 : decode c_Mo_receiver 25 = .ok (.iload_n 3, 1) := by decide +kernel
theorem d_Mo_receiver_26 : decode c_Mo_receiver 26 = .ok (.ifCond .lt 9, 3) := by decide +kernel
theorem d_Mo_receiver_29 : decode c_Mo_receiver 29 = .ok (.iload_n 3, 1) := by decide +kernel
theorem d_Mo_receiver_30 : decode c_Mo_receiver 30 = .ok (.bipush 7, 2) := by decide +kernel
theorem d_Mo_receiver_32 : decode c_Mo_receiver 32 = .ok (.if_icmp .le 6, 3) := by decide +kernel
theorem d_Mo_receiver_35 : decode c_Mo_receiver 35 = .ok (.bipush (-4), 2) := by decide +kernel
theorem d_Mo_receiver_37 : decode c_Mo_receiver 37 = .ok (.ireturn, 1) := by decide +kernel
theorem d_Mo_receiver_38 : decode c_Mo_receiver 38 = .ok (.aload_n 0, 1) := by decide +kernel
theorem d_Mo_receiver_39 : decode c_Mo_receiver 39 = .ok (.getfield 140, 3) := by decide +kernel
theorem d_Mo_receiver_42 : decode c_Mo_receiver 42 = .ok (.bipush 20, 2) := by decide +kernel
theorem d_Mo_receiver_44 : decode c_Mo_receiver 44 = .ok (.if_icmp .ne 5, 3) := by decide +kernel
theorem d_Mo_receiver_47 : decode c_Mo_receiver 47 = .ok (.iconst (-1), 1) := by decide +kernel
theorem d_Mo_receiver_48 : decode c_Mo_receiver 48 = .ok (.ireturn, 1) := by decide +kernel
theorem d_Mo_receiver_49 : decode c_Mo_receiver 49 = .ok (.aload_n 0, 1) := by decide +kernel
theorem d_Mo_receiver_50 : decode c_Mo_receiver 50 = .ok (.dup, 1) := by decide +kernel
theorem d_Mo_receiver_51 : decode c_Mo_receiver 51 = .ok (.getfield 140, 3) := by decide +kernel
theorem d_Mo_receiver_54 : decode c_Mo_receiver 54 = .ok (.iconst 1, 1) := by decide +kernel
theorem d_Mo_receiver_55 : decode c_Mo_receiver 55 = .ok (.iadd, 1) := by decide +kernel
theorem d_Mo_receiver_56 : decode c_Mo_receiver 56 = .ok (.putfield 140, 3) := by decide +kernel
theorem d_Mo_receiver_59 : decode c_Mo_receiver 59 = .ok (.aload_n 0, 1) := by decide +kernel
theorem d_Mo_receiver_60 : decode c_Mo_receiver 60 = .ok (.getfield 40, 3) := by decide +kernel
theorem d_Mo_receiver_63 : decode c_Mo_receiver 63 = .ok (.aload_n 0, 1) := by decide +kernel
theorem d_Mo_receiver_64 : decode c_Mo_receiver 64 = .ok (.getfield 140, 3) := by decide +kernel
theorem d_Mo_receiver_67 : decode c_Mo_receiver 67 = .ok (.iload_n 1, 1) := by decide +kernel
theorem d_Mo_receiver_68 : decode c_Mo_receiver 68 = .ok (.iastore, 1) := by decide +kernel
theorem d_Mo_receiver_69 : decode c_Mo_receiver 69 = .ok (.aload_n 0, 1) := by decide +kernel
theorem d_Mo_receiver_70 : decode c_Mo_receiver 70 = .ok (.getfield 43, 3) := by decide +kernel
theorem d_Mo_receiver_73 : decode c_Mo_receiver 73 = .ok (.aload_n 0, 1) := by decide +kernel
theorem d_Mo_receiver_74 : decode c_Mo_receiver 74 = .ok (.getfield 140, 3) := by decide +kernel
theorem d_Mo_receiver_77 : decode c_Mo_receiver 77 = .ok (.iload_n 2, 1) := by decide +kernel
theorem d_Mo_receiver_78 : decode c_Mo_receiver 78 = .ok (.iastore, 1) := by decide +kernel
theorem d_Mo_receiver_79 : decode c_Mo_receiver 79 = .ok (.aload_n 0, 1) := by decide +kernel
theorem d_Mo_receiver_80 : decode c_Mo_receiver 80 = .ok (.getfield 46, 3) := by decide +kernel
theorem d_Mo_receiver_83 : decode c_Mo_receiver 83 = .ok (.aload_n 0, 1) := by decide +kernel
theorem d_Mo_receiver_84 : decode c_Mo_receiver 84 = .ok (.getfield 140, 3) := by decide +kernel
theorem d_Mo_receiver_87 : decode c_Mo_receiver 87 = .ok (.iload_n 3, 1) := by decide +kernel
theorem d_Mo_receiver_88 : decode c_Mo_receiver 88 = .ok (.iastore, 1) := by decide +kernel
theorem d_Mo_receiver_89 : decode c_Mo_receiver 89 = .ok (.aload_n 0, 1) := by decide +kernel
theorem d_Mo_receiver_90 : decode c_Mo_receiver 90 = .ok (.getfield 140, 3) := by decide +kernel
theorem d_Mo_receiver_93 : decode c_Mo_receiver 93 = .ok (.ireturn, 1) := by decide +kernel
theorem d_Mo_set_0 : decode c_Mo_set 0 = .ok (.aload_n 0, 1) := by decide +kernel
theorem d_Mo_set_1 : decode c_Mo_set 1 = .ok (.iconst 0, 1) := by decide +kernel
theorem d_Mo_set_2 : decode c_Mo_set 2 = .ok (.putfield 64, 3) := by decide +kernel
theorem d_Mo_set_5 : decode c_Mo_set 5 = .ok (.aload_n 0, 1) := by decide +kernel
theorem d_Mo_set_6 : decode c_Mo_set 6 = .ok (.iload_n 1, 1) := by decide +kernel
theorem d_Mo_set_7 : decode c_Mo_set 7 = .ok (.invokevirtual 143, 3) := by decide +kernel
theorem d_Mo_set_10 : decode c_Mo_set 10 = .ok (.ifCond .ne 6, 3) := by decide +kernel
theorem d_Mo_set_13 : decode c_Mo_set 13 = .ok (.bipush (-2), 2) := by decide +kernel
theorem d_Mo_set_15 : decode c_Mo_set 15 = .ok (.ireturn, 1) := by decide +kernel
theorem d_Mo_set_16 : decode c_Mo_set 16 = .ok (.aload_n 0, 1) := by decide +kernel
theorem d_Mo_set_17 : decode c_Mo_set 17 = .ok (.getfield 49, 3) := by decide +kernel
theorem d_Mo_set_20 : decode c_Mo_set 20 = .ok (.iload_n 1, 1) := by decide +kernel
theorem d_Mo_set_21 : decode c_Mo_set 21 = .ok (.lload_n 2, 1) := by decide +kernel
theorem d_Mo_set_22 : decode c_Mo_set 22 = .ok (.aload_n 0, 1) := by decide +kernel
theorem d_Mo_set_23 : decode c_Mo_set 23 = .ok (.getfield 40, 3) := by decide +kernel
theorem d_Mo_set_26 : decode c_Mo_set 26 = .ok (.iload_n 1, 1) := by decide +kernel
theorem d_Mo_set_27 : decode c_Mo_set 27 = .ok (.iaload, 1) := by decide +kernel
theorem d_Mo_set_28 : decode c_Mo_set 28 = .ok (.invokestatic 146, 3) := by decide +kernel
theorem d_Mo_set_31 : decode c_Mo_set 31 = .ok (.lrem, 1) := by decide +kernel
theorem d_Mo_set_32 : decode c_Mo_set 32 = .ok (.lastore, 1) := by decide +kernel
theorem d_Mo_set_33 : decode c_Mo_set 33 = .ok (.iconst 1, 1) := by decide +kernel
theorem d_Mo_set_34 : decode c_Mo_set 34 = .ok (.ireturn, 1) := by decide +kernel
theorem d_Mo_isReceiver_0 : decode c_Mo_isReceiver 0 = .ok (.iload_n 1, 1) := by decide +kernel
theorem d_Mo_isReceiver_1 : decode c_Mo_isReceiver 1 = .ok (.ifCond .le 15, 3) := by decide +kernel
theorem d_Mo_isReceiver_4 : decode c_Mo_isReceiver 4 = .ok (.iload_n 1, 1) := by decide +kernel
theorem d_Mo_isReceiver_5 : decode c_Mo_isReceiver 5 = .ok (.aload_n 0, 1) := by decide +kernel
theorem d_Mo_isReceiver_6 : decode c_Mo_isReceiver 6 = .ok (.getfield 140, 3) := by decide +kernel
theorem d_Mo_isReceiver_9 : decode c_Mo_isReceiver 9 = .ok (.if_icmp .gt 7, 3) := by decide +kernel
theorem d_Mo_isReceiver_12 : decode c_Mo_isReceiver 12 = .ok (.iconst 1, 1) := by decide +kernel
theorem d_Mo_isReceiver_13 : decode c_Mo_isReceiver 13 = .ok (.goto 4, 3) := by decide +kernel
theorem d_Mo_isReceiver_16 : decode c_Mo_isReceiver 16 = .ok (.iconst 0, 1) := by decide +kernel
theorem d_Mo_isReceiver_17 : decode c_Mo_isReceiver 17 = .ok (.ireturn, 1) := by decide +kernel
theorem d_Mo_ten_0 : decode c_Mo_ten 0 = .ok (.lconst 1, 1) := by decide +kernel
theorem d_Mo_ten_1 : decode c_Mo_ten 1 = .ok (.lstore_n 1, 1) := by decide +kernel
theorem d_Mo_ten_2 : decode c_Mo_ten 2 = .ok (.iconst 0, 1) := by decide +kernel
theorem d_Mo_ten_3 : decode c_Mo_ten 3 = .ok (.istore_n 3, 1) := by decide +kernel
theorem d_Mo_ten_4 : decode c_Mo_ten 4 = .ok (.iload_n 3, 1) := by decide +kernel
theorem d_Mo_ten_5 : decode c_Mo_ten 5 = .ok (.iload_n 0, 1) := by decide +kernel
theorem d_Mo_ten_6 : decode c_Mo_ten 6 = .ok (.if_icmp .ge 15, 3) := by decide +kernel
theorem d_Mo_ten_9 : decode c_Mo_ten 9 = .ok (.lload_n 1, 1) := by decide +kernel
theorem d_Mo_ten_10 : decode c_Mo_ten 10 = .ok (.ldc2_w 71, 3) := by decide +kernel
theorem d_Mo_ten_13 : decode c_Mo_ten 13 = .ok (.lmul, 1) := by decide +kernel
theorem d_Mo_ten_14 : decode c_Mo_ten 14 = .ok (.lstore_n 1, 1) := by decide +kernel
theorem d_Mo_ten_15 : decode c_Mo_ten 15 = .ok (.iinc 3 1, 3) := by decide +kernel
theorem d_Mo_ten_18 : decode c_Mo_ten 18 = .ok (.goto (-14), 3) := by decide +kernel
theorem d_Mo_ten_21 : decode c_Mo_ten 21 = .ok (.lload_n 1, 1) := by decide +kernel
theorem d_Mo_ten_22 : decode c_Mo_ten 22 = .ok (.lreturn, 1) := by decide +kernel
