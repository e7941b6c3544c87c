theorem d_Mo_init_0 : decode c_Mo_init 0 = .ok (.aload_n 0, 1) := by decide +kernel
theorem d_Mo_init_1 : decode c_Mo_init 1 = .ok (.invokespecial 1, 3) := by decide +kernel
theorem d_Mo_init_4 : decode c_Mo_init 4 = .ok (.aload_n 0, 1) := by decide +kernel
theorem d_Mo_init_5 : decode c_Mo_init 5 = .ok (.sipush 2240, 3) := by decide +kernel
theorem d_Mo_init_8 : decode c_Mo_init 8 = .ok (.newarray .int, 2) := by decide +kernel
theorem d_Mo_init_10 : decode c_Mo_init 10 = .ok (.putfield 7, 3) := by decide +kernel
theorem d_Mo_init_13 : decode c_Mo_init 13 = .ok (.aload_n 0, 1) := by decide +kernel
theorem d_Mo_init_14 : decode c_Mo_init 14 = .ok (.bipush 7, 2) := by decide +kernel
theorem d_Mo_init_16 : decode c_Mo_init 16 = .ok (.newarray .int, 2) := by decide +kernel
theorem d_Mo_init_18 : decode c_Mo_init 18 = .ok (.putfield 13, 3) := by decide +kernel
theorem d_Mo_init_21 : decode c_Mo_init 21 = .ok (.aload_n 0, 1) := by decide +kernel
theorem d_Mo_init_22 : decode c_Mo_init 22 = .ok (.bipush 7, 2) := by decide +kernel
theorem d_Mo_init_24 : decode c_Mo_init 24 = .ok (.newarray .int, 2) := by decide +kernel
theorem d_Mo_init_26 : decode c_Mo_init 26 = .ok (.putfield 16, 3) := by decide +kernel
theorem d_Mo_init_29 : decode c_Mo_init 29 = .ok (.aload_n 0, 1) := by decide +kernel
theorem d_Mo_init_30 : decode c_Mo_init 30 = .ok (.bipush 7, 2) := by decide +kernel
theorem d_Mo_init_32 : decode c_Mo_init 32 = .ok (.newarray .int, 2) := by decide +kernel
theorem d_Mo_init_34 : decode c_Mo_init 34 = .ok (.putfield 19, 3) := by decide +kernel
theorem d_Mo_init_37 : decode c_Mo_init 37 = .ok (.aload_n 0, 1) := by decide +kernel
theorem d_Mo_init_38 : decode c_Mo_init 38 = .ok (.bipush 40, 2) := by decide +kernel
theorem d_Mo_init_40 : decode c_Mo_init 40 = .ok (.newarray .int, 2) := by decide +kernel
theorem d_Mo_init_42 : decode c_Mo_init 42 = .ok (.putfield 22, 3) := by decide +kernel
theorem d_Mo_init_45 : decode c_Mo_init 45 = .ok (.aload_n 0, 1) := by decide +kernel
theorem d_Mo_init_46 : decode c_Mo_init 46 = .ok (.sipush 3131, 3) := by decide +kernel
theorem d_Mo_init_49 : decode c_Mo_init 49 = .ok (.newarray .int, 2) := by decide +kernel
theorem d_Mo_init_51 : decode c_Mo_init 51 = .ok (.putfield 25, 3) := by decide +kernel
theorem d_Mo_init_54 : decode c_Mo_init 54 = .ok (.aload_n 0, 1) := by decide +kernel
theorem d_Mo_init_55 : decode c_Mo_init 55 = .ok (.bipush 101, 2) := by decide +kernel
theorem d_Mo_init_57 : decode c_Mo_init 57 = .ok (.newarray .int, 2) := by decide +kernel
theorem d_Mo_init_59 : decode c_Mo_init 59 = .ok (.putfield 28, 3) := by decide +kernel
theorem d_Mo_init_62 : decode c_Mo_init 62 = .ok (.aload_n 0, 1) := by decide +kernel
theorem d_Mo_init_63 : decode c_Mo_init 63 = .ok (.bipush 101, 2) := by decide +kernel
theorem d_Mo_init_65 : decode c_Mo_init 65 = .ok (.newarray .int, 2) := by decide +kernel
theorem d_Mo_init_67 : decode c_Mo_init 67 = .ok (.putfield 31, 3) := by decide +kernel
theorem d_Mo_init_70 : decode c_Mo_init 70 = .ok (.aload_n 0, 1) := by decide +kernel
theorem d_Mo_init_71 : decode c_Mo_init 71 = .ok (.bipush 101, 2) := by decide +kernel
theorem d_Mo_init_73 : decode c_Mo_init 73 = .ok (.newarray .int, 2) := by decide +kernel
theorem d_Mo_init_75 : decode c_Mo_init 75 = .ok (.putfield 34, 3) := by decide +kernel
theorem d_Mo_init_78 : decode c_Mo_init 78 = .ok (.aload_n 0, 1) := by decide +kernel
theorem d_Mo_init_79 : decode c_Mo_init 79 = .ok (.bipush 101, 2) := by decide +kernel
theorem d_Mo_init_81 : decode c_Mo_init 81 = .ok (.newarray .int, 2) := by decide +kernel
theorem d_Mo_init_83 : decode c_Mo_init 83 = .ok (.putfield 37, 3) := by decide +kernel
theorem d_Mo_init_86 : decode c_Mo_init 86 = .ok (.aload_n 0, 1) := by decide +kernel
theorem d_Mo_init_87 : decode c_Mo_init 87 = .ok (.bipush 21, 2) := by decide +kernel
theorem d_Mo_init_89 : decode c_Mo_init 89 = .ok (.newarray .int, 2) := by decide +kernel
theorem d_Mo_init_91 : decode c_Mo_init 91 = .ok (.putfield 40, 3) := by decide +kernel
theorem d_Mo_init_94 : decode c_Mo_init 94 = .ok (.aload_n 0, 1) := by decide +kernel
theorem d_Mo_init_95 : decode c_Mo_init 95 = .ok (.bipush 21, 2) := by decide +kernel
theorem d_Mo_init_97 : decode c_Mo_init 97 = .ok (.newarray .int, 2) := by decide +kernel
theorem d_Mo_init_99 : decode c_Mo_init 99 = .ok (.putfield 43, 3) := by decide +kernel
theorem d_Mo_init_102 : decode c_Mo_init 102 = .ok (.aload_n 0, 1) := by decide +kernel
theorem d_Mo_init_103 : decode c_Mo_init 103 = .ok (.bipush 21, 2) := by decide +kernel
theorem d_Mo_init_105 : decode c_Mo_init 105 = .ok (.newarray .int, 2) := by decide +kernel
theorem d_Mo_init_107 : decode c_Mo_init 107 = .ok (.putfield 46, 3) := by decide +kernel
theorem d_Mo_init_110 : decode c_Mo_init 110 = .ok (.aload_n 0, 1) := by decide +kernel
theorem d_Mo_init_111 : decode c_Mo_init 111 = .ok (.bipush 21, 2) := by decide +kernel
theorem d_Mo_init_113 : decode c_Mo_init 113 = .ok (.newarray .long, 2) := by decide +kernel
theorem d_Mo_init_115 : decode c_Mo_init 115 = .ok (.putfield 49, 3) := by decide +kernel
theorem d_Mo_init_118 : decode c_Mo_init 118 = .ok (.aload_n 0, 1) := by decide +kernel
theorem d_Mo_init_119 : decode c_Mo_init 119 = .ok (.bipush 21, 2) := by decide +kernel
theorem d_Mo_init_121 : decode c_Mo_init 121 = .ok (.newarray .long, 2) := by decide +kernel
theorem d_Mo_init_123 : decode c_Mo_init 123 = .ok (.putfield 53, 3) := by decide +kernel
theorem d_Mo_init_126 : decode c_Mo_init 126 = .ok (.aload_n 0, 1) := by decide +kernel
theorem d_Mo_init_127 : decode c_Mo_init 127 = .ok (.bipush 21, 2) := by decide +kernel
theorem d_Mo_init_129 : decode c_Mo_init 129 = .ok (.newarray .boolean, 2) := by decide +kernel
theorem d_Mo_init_131 : decode c_Mo_init 131 = .ok (.putfield 56, 3) := by decide +kernel
theorem d_Mo_init_134 : decode c_Mo_init 134 = .ok (.aload_n 0, 1) := by decide +kernel
theorem d_Mo_init_135 : decode c_Mo_init 135 = .ok (.iload_n 1, 1) := by decide +kernel
theorem d_Mo_init_136 : decode c_Mo_init 136 = .ok (.iconst 1, 1) := by decide +kernel
theorem d_Mo_init_137 : decode c_Mo_init 137 = .ok (.if_icmp .ge 7, 3) := by decide +kernel
theorem d_Mo_init_140 : decode c_Mo_init 140 = .ok (.iconst 1, 1) := by decide +kernel
theorem d_Mo_init_141 : decode c_Mo_init 141 = .ok (.goto 15, 3) := by decide +kernel
theorem d_Mo_init_144 : decode c_Mo_init 144 = .ok (.iload_n 1, 1) := by decide +kernel
theorem d_Mo_init_145 : decode c_Mo_init 145 = .ok (.bipush 31, 2) := by decide +kernel
theorem d_Mo_init_147 : decode c_Mo_init 147 = .ok (.if_icmp .le 8, 3) := by decide +kernel
theorem d_Mo_init_150 : decode c_Mo_init 150 = .ok (.bipush 31, 2) := by decide +kernel
theorem d_Mo_init_152 : decode c_Mo_init 152 = .ok (.goto 4, 3) := by decide +kernel
theorem d_Mo_init_155 : decode c_Mo_init 155 = .ok (.iload_n 1, 1) := by decide +kernel
theorem d_Mo_init_156 : decode c_Mo_init 156 = .ok (.putfield 60, 3) := by decide +kernel
theorem d_Mo_init_159 : decode c_Mo_init 159 = .ok (.return_, 1) := by decide +kernel
theorem d_Mo_thrown_0 : decode c_Mo_thrown 0 = .ok (.aload_n 0, 1) := by decide +kernel
theorem d_Mo_thrown_1 : decode c_Mo_thrown 1 = .ok (.getfield 64, 3) := by decide +kernel
theorem d_Mo_thrown_4 : decode c_Mo_thrown 4 = .ok (.ireturn, 1) := by decide +kernel
theorem d_Mo_value_0 : decode c_Mo_value 0 = .ok (.aload_n 0, 1) := by decide +kernel
theorem d_Mo_value_1 : decode c_Mo_value 1 = .ok (.iconst 0, 1) := by decide +kernel
theorem d_Mo_value_2 : decode c_Mo_value 2 = .ok (.putfield 64, 3) := by decide +kernel
theorem d_Mo_value_5 : decode c_Mo_value 5 = .ok (.iload_n 3, 1) := by decide +kernel
theorem d_Mo_value_6 : decode c_Mo_value 6 = .ok (.ifCond .lt 9, 3) := by decide +kernel
theorem d_Mo_value_9 : decode c_Mo_value 9 = .ok (.iload_n 3, 1) := by decide +kernel
theorem d_Mo_value_10 : decode c_Mo_value 10 = .ok (.bipush 18, 2) := by decide +kernel
theorem d_Mo_value_12 : decode c_Mo_value 12 = .ok (.if_icmp .le 6, 3) := by decide +kernel
theorem d_Mo_value_15 : decode c_Mo_value 15 = .ok (.bipush (-4), 2) := by decide +kernel
theorem d_Mo_value_17 : decode c_Mo_value 17 = .ok (.ireturn, 1) := by decide +kernel
theorem d_Mo_value_18 : decode c_Mo_value 18 = .ok (.aload_n 0, 1) := by decide +kernel
theorem d_Mo_value_19 : decode c_Mo_value 19 = .ok (.getfield 116, 3) := by decide +kernel
theorem d_Mo_value_22 : decode c_Mo_value 22 = .ok (.bipush 100, 2) := by decide +kernel
theorem d_Mo_value_24 : decode c_Mo_value 24 = .ok (.if_icmp .ne 5, 3) := by decide +kernel
theorem d_Mo_value_27 : decode c_Mo_value 27 = .ok (.iconst (-1), 1) := by decide +kernel
theorem d_Mo_value_28 : decode c_Mo_value 28 = .ok (.ireturn, 1) := by decide +kernel
theorem d_Mo_value_29 : decode c_Mo_value 29 = .ok (.aload_n 0, 1) := by decide +kernel
theorem d_Mo_value_30 : decode c_Mo_value 30 = .ok (.lload_n 1, 1) := by decide +kernel
theorem d_Mo_value_31 : decode c_Mo_value 31 = .ok (.iconst 0, 1) := by decide +kernel
theorem d_Mo_value_32 : decode c_Mo_value 32 = .ok (.iload_n 3, 1) := by decide +kernel
theorem d_Mo_value_33 : decode c_Mo_value 33 = .ok (.isub, 1) := by decide +kernel
theorem d_Mo_value_34 : decode c_Mo_value 34 = .ok (.iconst 2, 1) := by decide +kernel
theorem d_Mo_value_35 : decode c_Mo_value 35 = .ok (.invokevirtual 106, 3) := by decide +kernel
theorem d_Mo_value_38 : decode c_Mo_value 38 = .ok (.aload_n 0, 1) := by decide +kernel
theorem d_Mo_value_39 : decode c_Mo_value 39 = .ok (.aload_n 0, 1) := by decide +kernel
theorem d_Mo_value_40 : decode c_Mo_value 40 = .ok (.iconst 2, 1) := by decide +kernel
theorem d_Mo_value_41 : decode c_Mo_value 41 = .ok (.aload_n 0, 1) := by decide +kernel
theorem d_Mo_value_42 : decode c_Mo_value 42 = .ok (.getfield 60, 3) := by decide +kernel
theorem d_Mo_value_45 : decode c_Mo_value 45 = .ok (.invokevirtual 84, 3) := by decide +kernel
theorem d_Mo_value_48 : decode c_Mo_value 48 = .ok (.invokevirtual 119, 3) := by decide +kernel
theorem d_Mo_value_51 : decode c_Mo_value 51 = .ok (.ireturn, 1) := by decide +kernel
theorem d_Mo_whole_0 : decode c_Mo_whole 0 = .ok (.aload_n 0, 1) := by decide +kernel
theorem d_Mo_whole_1 : decode c_Mo_whole 1 = .ok (.iload 4, 2) := by decide +kernel
theorem d_Mo_whole_3 : decode c_Mo_whole 3 = .ok (.invokevirtual 67, 3) := by decide +kernel
theorem d_Mo_whole_6 : decode c_Mo_whole 6 = .ok (.lload_n 1, 1) := by decide +kernel
theorem d_Mo_whole_7 : decode c_Mo_whole 7 = .ok (.lstore 5, 2) := by decide +kernel
theorem d_Mo_whole_9 : decode c_Mo_whole 9 = .ok (.lload 5, 2) := by decide +kernel
theorem d_Mo_whole_11 : decode c_Mo_whole 11 = .ok (.lconst 0, 1) := by decide +kernel
theorem d_Mo_whole_12 : decode c_Mo_whole 12 = .ok (.lcmp, 1) := by decide +kernel
theorem d_Mo_whole_13 : decode c_Mo_whole 13 = .ok (.ifCond .eq 69, 3) := by decide +kernel
theorem d_Mo_whole_16 : decode c_Mo_whole 16 = .ok (.lload 5, 2) := by decide +kernel
theorem d_Mo_whole_18 : decode c_Mo_whole 18 = .ok (.ldc2_w 71, 3) := by decide +kernel
theorem d_Mo_whole_21 : decode c_Mo_whole 21 = .ok (.lrem, 1) := by decide +kernel
theorem d_Mo_whole_22 : decode c_Mo_whole 22 = .ok (.lstore 7, 2) := by decide +kernel
theorem d_Mo_whole_24 : decode c_Mo_whole 24 = .ok (.aload_n 0, 1) := by decide +kernel
theorem d_Mo_whole_25 : decode c_Mo_whole 25 = .ok (.getfield 7, 3) := by decide +kernel
theorem d_Mo_whole_28 : decode c_Mo_whole 28 = .ok (.sipush 320, 3) := by decide +kernel
theorem d_Mo_whole_31 : decode c_Mo_whole 31 = .ok (.iload 4, 2) := by decide +kernel
theorem d_Mo_whole_33 : decode c_Mo_whole 33 = .ok (.imul, 1) := by decide +kernel
theorem d_Mo_whole_34 : decode c_Mo_whole 34 = .ok (.aload_n 0, 1) := by decide +kernel
theorem d_Mo_whole_35 : decode c_Mo_whole 35 = .ok (.getfield 13, 3) := by decide +kernel
theorem d_Mo_whole_38 : decode c_Mo_whole 38 = .ok (.iload 4, 2) := by decide +kernel
theorem d_Mo_whole_40 : decode c_Mo_whole 40 = .ok (.iaload, 1) := by decide +kernel
theorem d_Mo_whole_41 : decode c_Mo_whole 41 = .ok (.iadd, 1) := by decide +kernel
theorem d_Mo_whole_42 : decode c_Mo_whole 42 = .ok (.lload 7, 2) := by decide +kernel
theorem d_Mo_whole_44 : decode c_Mo_whole 44 = .ok (.lconst 0, 1) := by decide +kernel
theorem d_Mo_whole_45 : decode c_Mo_whole 45 = .ok (.lcmp, 1) := by decide +kernel
theorem d_Mo_whole_46 : decode c_Mo_whole 46 = .ok (.ifCond .ge 10, 3) := by decide +kernel
theorem d_Mo_whole_49 : decode c_Mo_whole 49 = .ok (.lconst 0, 1) := by decide +kernel
theorem d_Mo_whole_50 : decode c_Mo_whole 50 = .ok (.lload 7, 2) := by decide +kernel
theorem d_Mo_whole_52 : decode c_Mo_whole 52 = .ok (.lsub, 1) := by decide +kernel
theorem d_Mo_whole_53 : decode c_Mo_whole 53 = .ok (.goto 5, 3) := by decide +kernel
theorem d_Mo_whole_56 : decode c_Mo_whole 56 = .ok (.lload 7, 2) := by decide +kernel
theorem d_Mo_whole_58 : decode c_Mo_whole 58 = .ok (.l2i, 1) := by decide +kernel
theorem d_Mo_whole_59 : decode c_Mo_whole 59 = .ok (.iastore, 1) := by decide +kernel
theorem d_Mo_whole_60 : decode c_Mo_whole 60 = .ok (.aload_n 0, 1) := by decide +kernel
theorem d_Mo_whole_61 : decode c_Mo_whole 61 = .ok (.getfield 13, 3) := by decide +kernel
theorem d_Mo_whole_64 : decode c_Mo_whole 64 = .ok (.iload 4, 2) := by decide +kernel
theorem d_Mo_whole_66 : decode c_Mo_whole 66 = .ok (.dup2, 1) := by decide +kernel
theorem d_Mo_whole_67 : decode c_Mo_whole 67 = .ok (.iaload, 1) := by decide +kernel
theorem d_Mo_whole_68 : decode c_Mo_whole 68 = .ok (.iconst 1, 1) := by decide +kernel
theorem d_Mo_whole_69 : decode c_Mo_whole 69 = .ok (.iadd, 1) := by decide +kernel
theorem d_Mo_whole_70 : decode c_Mo_whole 70 = .ok (.iastore, 1) := by decide +kernel
theorem d_Mo_whole_71 : decode c_Mo_whole 71 = .ok (.lload 5, 2) := by decide +kernel
theorem d_Mo_whole_73 : decode c_Mo_whole 73 = .ok (.ldc2_w 71, 3) := by decide +kernel
theorem d_Mo_whole_76 : decode c_Mo_whole 76 = .ok (.ldiv, 1) := by decide +kernel
theorem d_Mo_whole_77 : decode c_Mo_whole 77 = .ok (.lstore 5, 2) := by decide +kernel
theorem d_Mo_whole_79 : decode c_Mo_whole 79 = .ok (.goto (-70), 3) := by decide +kernel
theorem d_Mo_whole_82 : decode c_Mo_whole 82 = .ok (.aload_n 0, 1) := by decide +kernel
theorem d_Mo_whole_83 : decode c_Mo_whole 83 = .ok (.getfield 19, 3) := by decide +kernel
theorem d_Mo_whole_86 : decode c_Mo_whole 86 = .ok (.iload 4, 2) := by decide +kernel
theorem d_Mo_whole_88 : decode c_Mo_whole 88 = .ok (.lload_n 1, 1) := by decide +kernel
theorem d_Mo_whole_89 : decode c_Mo_whole 89 = .ok (.lconst 0, 1) := by decide +kernel
theorem d_Mo_whole_90 : decode c_Mo_whole 90 = .ok (.lcmp, 1) := by decide +kernel
theorem d_Mo_whole_91 : decode c_Mo_whole 91 = .ok (.ifCond .ge 7, 3) := by decide +kernel
theorem d_Mo_whole_94 : decode c_Mo_whole 94 = .ok (.iconst (-1), 1) := by decide +kernel
theorem d_Mo_whole_95 : decode c_Mo_whole 95 = .ok (.goto 14, 3) := by decide +kernel
theorem d_Mo_whole_98 : decode c_Mo_whole 98 = .ok (.lload_n 1, 1) := by decide +kernel
theorem d_Mo_whole_99 : decode c_Mo_whole 99 = .ok (.lconst 0, 1) := by decide +kernel
theorem d_Mo_whole_100 : decode c_Mo_whole 100 = .ok (.lcmp, 1) := by decide +kernel
theorem d_Mo_whole_101 : decode c_Mo_whole 101 = .ok (.ifCond .le 7, 3) := by decide +kernel
theorem d_Mo_whole_104 : decode c_Mo_whole 104 = .ok (.iconst 1, 1) := by decide +kernel
theorem d_Mo_whole_105 : decode c_Mo_whole 105 = .ok (.goto 4, 3) := by decide +kernel
theorem d_Mo_whole_108 : decode c_Mo_whole 108 = .ok (.iconst 0, 1) := by decide +kernel
theorem d_Mo_whole_109 : decode c_Mo_whole 109 = .ok (.iastore, 1) := by decide +kernel
theorem d_Mo_whole_110 : decode c_Mo_whole 110 = .ok (.aload_n 0, 1) := by decide +kernel
theorem d_Mo_whole_111 : decode c_Mo_whole 111 = .ok (.getfield 16, 3) := by decide +kernel
theorem d_Mo_whole_114 : decode c_Mo_whole 114 = .ok (.iload 4, 2) := by decide +kernel
theorem d_Mo_whole_116 : decode c_Mo_whole 116 = .ok (.lload_n 1, 1) := by decide +kernel
theorem d_Mo_whole_117 : decode c_Mo_whole 117 = .ok (.lconst 0, 1) := by decide +kernel
theorem d_Mo_whole_118 : decode c_Mo_whole 118 = .ok (.lcmp, 1) := by decide +kernel
theorem d_Mo_whole_119 : decode c_Mo_whole 119 = .ok (.ifCond .ne 7, 3) := by decide +kernel
theorem d_Mo_whole_122 : decode c_Mo_whole 122 = .ok (.iconst 0, 1) := by decide +kernel
theorem d_Mo_whole_123 : decode c_Mo_whole 123 = .ok (.goto 4, 3) := by decide +kernel
theorem d_Mo_whole_126 : decode c_Mo_whole 126 = .ok (.iload_n 3, 1) := by decide +kernel
theorem d_Mo_whole_127 : decode c_Mo_whole 127 = .ok (.iastore, 1) := by decide +kernel
theorem d_Mo_whole_128 : decode c_Mo_whole 128 = .ok (.return_, 1) := by decide +kernel
theorem d_Mo_zero_0 : decode c_Mo_zero 0 = .ok (.aload_n 0, 1) := by decide +kernel
theorem d_Mo_zero_1 : decode c_Mo_zero 1 = .ok (.getfield 13, 3) := by decide +kernel
theorem d_Mo_zero_4 : decode c_Mo_zero 4 = .ok (.iload_n 1, 1) := by decide +kernel
theorem d_Mo_zero_5 : decode c_Mo_zero 5 = .ok (.iconst 0, 1) := by decide +kernel
theorem d_Mo_zero_6 : decode c_Mo_zero 6 = .ok (.iastore, 1) := by decide +kernel
theorem d_Mo_zero_7 : decode c_Mo_zero 7 = .ok (.aload_n 0, 1) := by decide +kernel
theorem d_Mo_zero_8 : decode c_Mo_zero 8 = .ok (.getfield 16, 3) := by decide +kernel
theorem d_Mo_zero_11 : decode c_Mo_zero 11 = .ok (.iload_n 1, 1) := by decide +kernel
theorem d_Mo_zero_12 : decode c_Mo_zero 12 = .ok (.iconst 0, 1) := by decide +kernel
theorem d_Mo_zero_13 : decode c_Mo_zero 13 = .ok (.iastore, 1) := by decide +kernel
theorem d_Mo_zero_14 : decode c_Mo_zero 14 = .ok (.aload_n 0, 1) := by decide +kernel
theorem d_Mo_zero_15 : decode c_Mo_zero 15 = .ok (.getfield 19, 3) := by decide +kernel
theorem d_Mo_zero_18 : decode c_Mo_zero 18 = .ok (.iload_n 1, 1) := by decide +kernel
theorem d_Mo_zero_19 : decode c_Mo_zero 19 = .ok (.iconst 0, 1) := by decide +kernel
theorem d_Mo_zero_20 : decode c_Mo_zero 20 = .ok (.iastore, 1) := by decide +kernel
theorem d_Mo_zero_21 : decode c_Mo_zero 21 = .ok (.return_, 1) := by decide +kernel
theorem d_Mo_cut_0 : decode c_Mo_cut 0 = .ok (.aload_n 0, 1) := by decide +kernel
theorem d_Mo_cut_1 : decode c_Mo_cut 1 = .ok (.getfield 13, 3) := by decide +kernel
theorem d_Mo_cut_4 : decode c_Mo_cut 4 = .ok (.iload_n 1, 1) := by decide +kernel
theorem d_Mo_cut_5 : decode c_Mo_cut 5 = .ok (.iaload, 1) := by decide +kernel
theorem d_Mo_cut_6 : decode c_Mo_cut 6 = .ok (.ifCond .le 38, 3) := by decide +kernel
theorem d_Mo_cut_9 : decode c_Mo_cut 9 = .ok (.aload_n 0, 1) := by decide +kernel
theorem d_Mo_cut_10 : decode c_Mo_cut 10 = .ok (.getfield 7, 3) := by decide +kernel
theorem d_Mo_cut_13 : decode c_Mo_cut 13 = .ok (.sipush 320, 3) := by decide +kernel
theorem d_Mo_cut_16 : decode c_Mo_cut 16 = .ok (.iload_n 1, 1) := by decide +kernel
theorem d_Mo_cut_17 : decode c_Mo_cut 17 = .ok (.imul, 1) := by decide +kernel
theorem d_Mo_cut_18 : decode c_Mo_cut 18 = .ok (.aload_n 0, 1) := by decide +kernel
theorem d_Mo_cut_19 : decode c_Mo_cut 19 = .ok (.getfield 13, 3) := by decide +kernel
theorem d_Mo_cut_22 : decode c_Mo_cut 22 = .ok (.iload_n 1, 1) := by decide +kernel
theorem d_Mo_cut_23 : decode c_Mo_cut 23 = .ok (.iaload, 1) := by decide +kernel
theorem d_Mo_cut_24 : decode c_Mo_cut 24 = .ok (.iadd, 1) := by decide +kernel
theorem d_Mo_cut_25 : decode c_Mo_cut 25 = .ok (.iconst 1, 1) := by decide +kernel
theorem d_Mo_cut_26 : decode c_Mo_cut 26 = .ok (.isub, 1) := by decide +kernel
theorem d_Mo_cut_27 : decode c_Mo_cut 27 = .ok (.iaload, 1) := by decide +kernel
theorem d_Mo_cut_28 : decode c_Mo_cut 28 = .ok (.ifCond .ne 16, 3) := by decide +kernel
theorem d_Mo_cut_31 : decode c_Mo_cut 31 = .ok (.aload_n 0, 1) := by decide +kernel
theorem d_Mo_cut_32 : decode c_Mo_cut 32 = .ok (.getfield 13, 3) := by decide +kernel
theorem d_Mo_cut_35 : decode c_Mo_cut 35 = .ok (.iload_n 1, 1) := by decide +kernel
theorem d_Mo_cut_36 : decode c_Mo_cut 36 = .ok (.dup2, 1) := by decide +kernel
theorem d_Mo_cut_37 : decode c_Mo_cut 37 = .ok (.iaload, 1) := by decide +kernel
theorem d_Mo_cut_38 : decode c_Mo_cut 38 = .ok (.iconst 1, 1) := by decide +kernel
theorem d_Mo_cut_39 : decode c_Mo_cut 39 = .ok (.isub, 1) := by decide +kernel
theorem d_Mo_cut_40 : decode c_Mo_cut 40 = .ok (.iastore, 1) := by decide +kernel
theorem d_Mo_cut_41 : decode c_Mo_cut 41 = .ok (.goto (-41), 3) := by decide +kernel
theorem d_Mo_cut_44 : decode c_Mo_cut 44 = .ok (.aload_n 0, 1) := by decide +kernel
theorem d_Mo_cut_45 : decode c_Mo_cut 45 = .ok (.getfield 13, 3) := by decide +kernel
theorem d_Mo_cut_48 : decode c_Mo_cut 48 = .ok (.iload_n 1, 1) := by decide +kernel
theorem d_Mo_cut_49 : decode c_Mo_cut 49 = .ok (.iaload, 1) := by decide +kernel
theorem d_Mo_cut_50 : decode c_Mo_cut 50 = .ok (.iload_n 2, 1) := by decide +kernel
theorem d_Mo_cut_51 : decode c_Mo_cut 51 = .ok (.if_icmp .le 16, 3) := by decide +kernel
theorem d_Mo_cut_54 : decode c_Mo_cut 54 = .ok (.aload_n 0, 1) := by decide +kernel
theorem d_Mo_cut_55 : decode c_Mo_cut 55 = .ok (.iload_n 1, 1) := by decide +kernel
theorem d_Mo_cut_56 : decode c_Mo_cut 56 = .ok (.aload_n 0, 1) := by decide +kernel
theorem d_Mo_cut_57 : decode c_Mo_cut 57 = .ok (.getfield 13, 3) := by decide +kernel
theorem d_Mo_cut_60 : decode c_Mo_cut 60 = .ok (.iload_n 1, 1) := by decide +kernel
theorem d_Mo_cut_61 : decode c_Mo_cut 61 = .ok (.iaload, 1) := by decide +kernel
theorem d_Mo_cut_62 : decode c_Mo_cut 62 = .ok (.iload_n 2, 1) := by decide +kernel
theorem d_Mo_cut_63 : decode c_Mo_cut 63 = .ok (.isub, 1) := by decide +kernel
theorem d_Mo_cut_64 : decode c_Mo_cut 64 = .ok (.invokevirtual 73, 3) := by decide +kernel
theorem d_Mo_cut_67 : decode c_Mo_cut 67 = .ok (.iconst 0, 1) := by decide +kernel
theorem d_Mo_cut_68 : decode c_Mo_cut 68 = .ok (.istore_n 3, 1) := by decide +kernel
theorem d_Mo_cut_69 : decode c_Mo_cut 69 = .ok (.iload_n 3, 1) := by decide +kernel
theorem d_Mo_cut_70 : decode c_Mo_cut 70 = .ok (.aload_n 0, 1) := by decide +kernel
theorem d_Mo_cut_71 : decode c_Mo_cut 71 = .ok (.getfield 13, 3) := by decide +kernel
theorem d_Mo_cut_74 : decode c_Mo_cut 74 = .ok (.iload_n 1, 1) := by decide +kernel
theorem d_Mo_cut_75 : decode c_Mo_cut 75 = .ok (.iaload, 1) := by decide +kernel
theorem d_Mo_cut_76 : decode c_Mo_cut 76 = .ok (.if_icmp .ge 24, 3) := by decide +kernel
theorem d_Mo_cut_79 : decode c_Mo_cut 79 = .ok (.aload_n 0, 1) := by decide +kernel
theorem d_Mo_cut_80 : decode c_Mo_cut 80 = .ok (.getfield 7, 3) := by decide +kernel
theorem d_Mo_cut_83 : decode c_Mo_cut 83 = .ok (.sipush 320, 3) := by decide +kernel
theorem d_Mo_cut_86 : decode c_Mo_cut 86 = .ok (.iload_n 1, 1) := by decide +kernel
theorem d_Mo_cut_87 : decode c_Mo_cut 87 = .ok (.imul, 1) := by decide +kernel
theorem d_Mo_cut_88 : decode c_Mo_cut 88 = .ok (.iload_n 3, 1) := by decide +kernel
theorem d_Mo_cut_89 : decode c_Mo_cut 89 = .ok (.iadd, 1) := by decide +kernel
theorem d_Mo_cut_90 : decode c_Mo_cut 90 = .ok (.iaload, 1) := by decide +kernel
theorem d_Mo_cut_91 : decode c_Mo_cut 91 = .ok (.ifCond .ne 9, 3) := by decide +kernel
theorem d_Mo_cut_94 : decode c_Mo_cut 94 = .ok (.iinc 3 1, 3) := by decide +kernel
theorem d_Mo_cut_97 : decode c_Mo_cut 97 = .ok (.goto (-28), 3) := by decide +kernel
theorem d_Mo_cut_100 : decode c_Mo_cut 100 = .ok (.iload_n 3, 1) := by decide +kernel
theorem d_Mo_cut_101 : decode c_Mo_cut 101 = .ok (.ifCond .le 9, 3) := by decide +kernel
theorem d_Mo_cut_104 : decode c_Mo_cut 104 = .ok (.aload_n 0, 1) := by decide +kernel
theorem d_Mo_cut_105 : decode c_Mo_cut 105 = .ok (.iload_n 1, 1) := by decide +kernel
theorem d_Mo_cut_106 : decode c_Mo_cut 106 = .ok (.iload_n 3, 1) := by decide +kernel
theorem d_Mo_cut_107 : decode c_Mo_cut 107 = .ok (.invokevirtual 73, 3) := by decide +kernel
theorem d_Mo_cut_110 : decode c_Mo_cut 110 = .ok (.aload_n 0, 1) := by decide +kernel
theorem d_Mo_cut_111 : decode c_Mo_cut 111 = .ok (.getfield 13, 3) := by decide +kernel
theorem d_Mo_cut_114 : decode c_Mo_cut 114 = .ok (.iload_n 1, 1) := by decide +kernel
theorem d_Mo_cut_115 : decode c_Mo_cut 115 = .ok (.iaload, 1) := by decide +kernel
theorem d_Mo_cut_116 : decode c_Mo_cut 116 = .ok (.aload_n 0, 1) := by decide +kernel
theorem d_Mo_cut_117 : decode c_Mo_cut 117 = .ok (.getfield 16, 3) := by decide +kernel
theorem d_Mo_cut_120 : decode c_Mo_cut 120 = .ok (.iload_n 1, 1) := by decide +kernel
theorem d_Mo_cut_121 : decode c_Mo_cut 121 = .ok (.iaload, 1) := by decide +kernel
theorem d_Mo_cut_122 : decode c_Mo_cut 122 = .ok (.iadd, 1) := by decide +kernel
theorem d_Mo_cut_123 : decode c_Mo_cut 123 = .ok (.iconst 1, 1) := by decide +kernel
theorem d_Mo_cut_124 : decode c_Mo_cut 124 = .ok (.isub, 1) := by decide +kernel
theorem d_Mo_cut_125 : decode c_Mo_cut 125 = .ok (.istore 4, 2) := by decide +kernel
theorem d_Mo_cut_127 : decode c_Mo_cut 127 = .ok (.aload_n 0, 1) := by decide +kernel
theorem d_Mo_cut_128 : decode c_Mo_cut 128 = .ok (.getfield 13, 3) := by decide +kernel
theorem d_Mo_cut_131 : decode c_Mo_cut 131 = .ok (.iload_n 1, 1) := by decide +kernel
theorem d_Mo_cut_132 : decode c_Mo_cut 132 = .ok (.iaload, 1) := by decide +kernel
theorem d_Mo_cut_133 : decode c_Mo_cut 133 = .ok (.ifCond .eq 10, 3) := by decide +kernel
theorem d_Mo_cut_136 : decode c_Mo_cut 136 = .ok (.iload 4, 2) := by decide +kernel
theorem d_Mo_cut_138 : decode c_Mo_cut 138 = .ok (.bipush (-99), 2) := by decide +kernel
theorem d_Mo_cut_140 : decode c_Mo_cut 140 = .ok (.if_icmp .ge 10, 3) := by decide +kernel
theorem d_Mo_cut_143 : decode c_Mo_cut 143 = .ok (.aload_n 0, 1) := by decide +kernel
theorem d_Mo_cut_144 : decode c_Mo_cut 144 = .ok (.iload_n 1, 1) := by decide +kernel
theorem d_Mo_cut_145 : decode c_Mo_cut 145 = .ok (.invokevirtual 67, 3) := by decide +kernel
theorem d_Mo_cut_148 : decode c_Mo_cut 148 = .ok (.iconst 0, 1) := by decide +kernel
theorem d_Mo_cut_149 : decode c_Mo_cut 149 = .ok (.ireturn, 1) := by decide +kernel
theorem d_Mo_cut_150 : decode c_Mo_cut 150 = .ok (.iload 4, 2) := by decide +kernel
theorem d_Mo_cut_152 : decode c_Mo_cut 152 = .ok (.bipush 99, 2) := by decide +kernel
theorem d_Mo_cut_154 : decode c_Mo_cut 154 = .ok (.if_icmp .lt 7, 3) := by decide +kernel
theorem d_Mo_cut_157 : decode c_Mo_cut 157 = .ok (.iconst 1, 1) := by decide +kernel
theorem d_Mo_cut_158 : decode c_Mo_cut 158 = .ok (.goto 4, 3) := by decide +kernel
theorem d_Mo_cut_161 : decode c_Mo_cut 161 = .ok (.iconst 0, 1) := by decide +kernel
theorem d_Mo_cut_162 : decode c_Mo_cut 162 = .ok (.ireturn, 1) := by decide +kernel
theorem d_Mo_drop_0 : decode c_Mo_drop 0 = .ok (.aload_n 0, 1) := by decide +kernel
theorem d_Mo_drop_1 : decode c_Mo_drop 1 = .ok (.getfield 13, 3) := by decide +kernel
theorem d_Mo_drop_4 : decode c_Mo_drop 4 = .ok (.iload_n 1, 1) := by decide +kernel
theorem d_Mo_drop_5 : decode c_Mo_drop 5 = .ok (.dup2, 1) := by decide +kernel
theorem d_Mo_drop_6 : decode c_Mo_drop 6 = .ok (.iaload, 1) := by decide +kernel
theorem d_Mo_drop_7 : decode c_Mo_drop 7 = .ok (.iload_n 2, 1) := by decide +kernel
theorem d_Mo_drop_8 : decode c_Mo_drop 8 = .ok (.isub, 1) := by decide +kernel
theorem d_Mo_drop_9 : decode c_Mo_drop 9 = .ok (.iastore, 1) := by decide +kernel
theorem d_Mo_drop_10 : decode c_Mo_drop 10 = .ok (.aload_n 0, 1) := by decide +kernel
theorem d_Mo_drop_11 : decode c_Mo_drop 11 = .ok (.getfield 16, 3) := by decide +kernel
theorem d_Mo_drop_14 : decode c_Mo_drop 14 = .ok (.iload_n 1, 1) := by decide +kernel
theorem d_Mo_drop_15 : decode c_Mo_drop 15 = .ok (.dup2, 1) := by decide +kernel
theorem d_Mo_drop_16 : decode c_Mo_drop 16 = .ok (.iaload, 1) := by decide +kernel
theorem d_Mo_drop_17 : decode c_Mo_drop 17 = .ok (.iload_n 2, 1) := by decide +kernel
theorem d_Mo_drop_18 : decode c_Mo_drop 18 = .ok (.iadd, 1) := by decide +kernel
theorem d_Mo_drop_19 : decode c_Mo_drop 19 = .ok (.iastore, 1) := by decide +kernel
theorem d_Mo_drop_20 : decode c_Mo_drop 20 = .ok (.iconst 0, 1) := by decide +kernel
theorem d_Mo_drop_21 : decode c_Mo_drop 21 = .ok (.istore_n 3, 1) := by decide +kernel
theorem d_Mo_drop_22 : decode c_Mo_drop 22 = .ok (.iload_n 3, 1) := by decide +kernel
theorem d_Mo_drop_23 : decode c_Mo_drop 23 = .ok (.aload_n 0, 1) := by decide +kernel
theorem d_Mo_drop_24 : decode c_Mo_drop 24 = .ok (.getfield 13, 3) := by decide +kernel
theorem d_Mo_drop_27 : decode c_Mo_drop 27 = .ok (.iload_n 1, 1) := by decide +kernel
theorem d_Mo_drop_28 : decode c_Mo_drop 28 = .ok (.iaload, 1) := by decide +kernel
theorem d_Mo_drop_29 : decode c_Mo_drop 29 = .ok (.if_icmp .ge 35, 3) := by decide +kernel
theorem d_Mo_drop_32 : decode c_Mo_drop 32 = .ok (.aload_n 0, 1) := by decide +kernel
theorem d_Mo_drop_33 : decode c_Mo_drop 33 = .ok (.getfield 7, 3) := by decide +kernel
theorem d_Mo_drop_36 : decode c_Mo_drop 36 = .ok (.sipush 320, 3) := by decide +kernel
theorem d_Mo_drop_39 : decode c_Mo_drop 39 = .ok (.iload_n 1, 1) := by decide +kernel
theorem d_Mo_drop_40 : decode c_Mo_drop 40 = .ok (.imul, 1) := by decide +kernel
theorem d_Mo_drop_41 : decode c_Mo_drop 41 = .ok (.iload_n 3, 1) := by decide +kernel
theorem d_Mo_drop_42 : decode c_Mo_drop 42 = .ok (.iadd, 1) := by decide +kernel
theorem d_Mo_drop_43 : decode c_Mo_drop 43 = .ok (.aload_n 0, 1) := by decide +kernel
theorem d_Mo_drop_44 : decode c_Mo_drop 44 = .ok (.getfield 7, 3) := by decide +kernel
theorem d_Mo_drop_47 : decode c_Mo_drop 47 = .ok (.sipush 320, 3) := by decide +kernel
theorem d_Mo_drop_50 : decode c_Mo_drop 50 = .ok (.iload_n 1, 1) := by decide +kernel
theorem d_Mo_drop_51 : decode c_Mo_drop 51 = .ok (.imul, 1) := by decide +kernel
theorem d_Mo_drop_52 : decode c_Mo_drop 52 = .ok (.iload_n 3, 1) := by decide +kernel
theorem d_Mo_drop_53 : decode c_Mo_drop 53 = .ok (.iadd, 1) := by decide +kernel
theorem d_Mo_drop_54 : decode c_Mo_drop 54 = .ok (.iload_n 2, 1) := by decide +kernel
theorem d_Mo_drop_55 : decode c_Mo_drop 55 = .ok (.iadd, 1) := by decide +kernel
theorem d_Mo_drop_56 : decode c_Mo_drop 56 = .ok (.iaload, 1) := by decide +kernel
theorem d_Mo_drop_57 : decode c_Mo_drop 57 = .ok (.iastore, 1) := by decide +kernel
theorem d_Mo_drop_58 : decode c_Mo_drop 58 = .ok (.iinc 3 1, 3) := by decide +kernel
theorem d_Mo_drop_61 : decode c_Mo_drop 61 = .ok (.goto (-39), 3) := by decide +kernel
theorem d_Mo_drop_64 : decode c_Mo_drop 64 = .ok (.return_, 1) := by decide +kernel
theorem d_Mo_kept_0 : decode c_Mo_kept 0 = .ok (.aload_n 0, 1) := by decide +kernel
theorem d_Mo_kept_1 : decode c_Mo_kept 1 = .ok (.dup, 1) := by decide +kernel
theorem d_Mo_kept_2 : decode c_Mo_kept 2 = .ok (.getfield 116, 3) := by decide +kernel
theorem d_Mo_kept_5 : decode c_Mo_kept 5 = .ok (.iconst 1, 1) := by decide +kernel
theorem d_Mo_kept_6 : decode c_Mo_kept 6 = .ok (.iadd, 1) := by decide +kernel
theorem d_Mo_kept_7 : decode c_Mo_kept 7 = .ok (.putfield 116, 3) := by decide +kernel
theorem d_Mo_kept_10 : decode c_Mo_kept 10 = .ok (.aload_n 0, 1) := by decide +kernel
theorem d_Mo_kept_11 : decode c_Mo_kept 11 = .ok (.getfield 37, 3) := by decide +kernel
theorem d_Mo_kept_14 : decode c_Mo_kept 14 = .ok (.aload_n 0, 1) := by decide +kernel
theorem d_Mo_kept_15 : decode c_Mo_kept 15 = .ok (.getfield 116, 3) := by decide +kernel
theorem d_Mo_kept_18 : decode c_Mo_kept 18 = .ok (.iload_n 1, 1) := by decide +kernel
theorem d_Mo_kept_19 : decode c_Mo_kept 19 = .ok (.iastore, 1) := by decide +kernel
theorem d_Mo_kept_20 : decode c_Mo_kept 20 = .ok (.iload_n 1, 1) := by decide +kernel
theorem d_Mo_kept_21 : decode c_Mo_kept 21 = .ok (.ifCond .eq 8, 3) := by decide +kernel
theorem d_Mo_kept_24 : decode c_Mo_kept 24 = .ok (.aload_n 0, 1) := by decide +kernel
theorem d_Mo_kept_25 : decode c_Mo_kept 25 = .ok (.getfield 116, 3) := by decide +kernel
theorem d_Mo_kept_28 : decode c_Mo_kept 28 = .ok (.ireturn, 1) := by decide +kernel
theorem d_Mo_kept_29 : decode c_Mo_kept 29 = .ok (.iconst 0, 1) := by decide +kernel
theorem d_Mo_kept_30 : decode c_Mo_kept 30 = .ok (.istore_n 2, 1) := by decide +kernel
theorem d_Mo_kept_31 : decode c_Mo_kept 31 = .ok (.iload_n 2, 1) := by decide +kernel
theorem d_Mo_kept_32 : decode c_Mo_kept 32 = .ok (.aload_n 0, 1) := by decide +kernel
theorem d_Mo_kept_33 : decode c_Mo_kept 33 = .ok (.getfield 13, 3) := by decide +kernel
theorem d_Mo_kept_36 : decode c_Mo_kept 36 = .ok (.iconst 2, 1) := by decide +kernel
theorem d_Mo_kept_37 : decode c_Mo_kept 37 = .ok (.iaload, 1) := by decide +kernel
theorem d_Mo_kept_38 : decode c_Mo_kept 38 = .ok (.if_icmp .ge 33, 3) := by decide +kernel
theorem d_Mo_kept_41 : decode c_Mo_kept 41 = .ok (.aload_n 0, 1) := by decide +kernel
theorem d_Mo_kept_42 : decode c_Mo_kept 42 = .ok (.getfield 25, 3) := by decide +kernel
theorem d_Mo_kept_45 : decode c_Mo_kept 45 = .ok (.bipush 31, 2) := by decide +kernel
theorem d_Mo_kept_47 : decode c_Mo_kept 47 = .ok (.aload_n 0, 1) := by decide +kernel
theorem d_Mo_kept_48 : decode c_Mo_kept 48 = .ok (.getfield 116, 3) := by decide +kernel
theorem d_Mo_kept_51 : decode c_Mo_kept 51 = .ok (.imul, 1) := by decide +kernel
theorem d_Mo_kept_52 : decode c_Mo_kept 52 = .ok (.iload_n 2, 1) := by decide +kernel
theorem d_Mo_kept_53 : decode c_Mo_kept 53 = .ok (.iadd, 1) := by decide +kernel
theorem d_Mo_kept_54 : decode c_Mo_kept 54 = .ok (.aload_n 0, 1) := by decide +kernel
theorem d_Mo_kept_55 : decode c_Mo_kept 55 = .ok (.getfield 7, 3) := by decide +kernel
theorem d_Mo_kept_58 : decode c_Mo_kept 58 = .ok (.sipush 640, 3) := by decide +kernel
theorem d_Mo_kept_61 : decode c_Mo_kept 61 = .ok (.iload_n 2, 1) := by decide +kernel
theorem d_Mo_kept_62 : decode c_Mo_kept 62 = .ok (.iadd, 1) := by decide +kernel
theorem d_Mo_kept_63 : decode c_Mo_kept 63 = .ok (.iaload, 1) := by decide +kernel
theorem d_Mo_kept_64 : decode c_Mo_kept 64 = .ok (.iastore, 1) := by decide +kernel
theorem d_Mo_kept_65 : decode c_Mo_kept 65 = .ok (.iinc 2 1, 3) := by decide +kernel
theorem d_Mo_kept_68 : decode c_Mo_kept 68 = .ok (.goto (-37), 3) := by decide +kernel
theorem d_Mo_kept_71 : decode c_Mo_kept 71 = .ok (.aload_n 0, 1) := by decide +kernel
theorem d_Mo_kept_72 : decode c_Mo_kept 72 = .ok (.getfield 28, 3) := by decide +kernel
theorem d_Mo_kept_75 : decode c_Mo_kept 75 = .ok (.aload_n 0, 1) := by decide +kernel
theorem d_Mo_kept_76 : decode c_Mo_kept 76 = .ok (.getfield 116, 3) := by decide +kernel
theorem d_Mo_kept_79 : decode c_Mo_kept 79 = .ok (.aload_n 0, 1) := by decide +kernel
theorem d_Mo_kept_80 : decode c_Mo_kept 80 = .ok (.getfield 13, 3) := by decide +kernel
theorem d_Mo_kept_83 : decode c_Mo_kept 83 = .ok (.iconst 2, 1) := by decide +kernel
theorem d_Mo_kept_84 : decode c_Mo_kept 84 = .ok (.iaload, 1) := by decide +kernel
theorem d_Mo_kept_85 : decode c_Mo_kept 85 = .ok (.iastore, 1) := by decide +kernel
theorem d_Mo_kept_86 : decode c_Mo_kept 86 = .ok (.aload_n 0, 1) := by decide +kernel
theorem d_Mo_kept_87 : decode c_Mo_kept 87 = .ok (.getfield 31, 3) := by decide +kernel
theorem d_Mo_kept_90 : decode c_Mo_kept 90 = .ok (.aload_n 0, 1) := by decide +kernel
theorem d_Mo_kept_91 : decode c_Mo_kept 91 = .ok (.getfield 116, 3) := by decide +kernel
theorem d_Mo_kept_94 : decode c_Mo_kept 94 = .ok (.aload_n 0, 1) := by decide +kernel
theorem d_Mo_kept_95 : decode c_Mo_kept 95 = .ok (.getfield 16, 3) := by decide +kernel
theorem d_Mo_kept_98 : decode c_Mo_kept 98 = .ok (.iconst 2, 1) := by decide +kernel
theorem d_Mo_kept_99 : decode c_Mo_kept 99 = .ok (.iaload, 1) := by decide +kernel
theorem d_Mo_kept_100 : decode c_Mo_kept 100 = .ok (.iastore, 1) := by decide +kernel
theorem d_Mo_kept_101 : decode c_Mo_kept 101 = .ok (.aload_n 0, 1) := by decide +kernel
theorem d_Mo_kept_102 : decode c_Mo_kept 102 = .ok (.getfield 34, 3) := by decide +kernel
theorem d_Mo_kept_105 : decode c_Mo_kept 105 = .ok (.aload_n 0, 1) := by decide +kernel
theorem d_Mo_kept_106 : decode c_Mo_kept 106 = .ok (.getfield 116, 3) := by decide +kernel
theorem d_Mo_kept_109 : decode c_Mo_kept 109 = .ok (.aload_n 0, 1) := by decide +kernel
theorem d_Mo_kept_110 : decode c_Mo_kept 110 = .ok (.getfield 19, 3) := by decide +kernel
theorem d_Mo_kept_113 : decode c_Mo_kept 113 = .ok (.iconst 2, 1) := by decide +kernel
theorem d_Mo_kept_114 : decode c_Mo_kept 114 = .ok (.iaload, 1) := by decide +kernel
theorem d_Mo_kept_115 : decode c_Mo_kept 115 = .ok (.iastore, 1) := by decide +kernel
theorem d_Mo_kept_116 : decode c_Mo_kept 116 = .ok (.aload_n 0, 1) := by decide +kernel
theorem d_Mo_kept_117 : decode c_Mo_kept 117 = .ok (.getfield 116, 3) := by decide +kernel
theorem d_Mo_kept_120 : decode c_Mo_kept 120 = .ok (.ireturn, 1) := by decide +kernel
theorem d_Mo_node_0 : decode c_Mo_node 0 = .ok (.aload_n 0, 1) := by decide +kernel
theorem d_Mo_node_1 : decode c_Mo_node 1 = .ok (.iconst 0, 1) := by decide +kernel
theorem d_Mo_node_2 : decode c_Mo_node 2 = .ok (.putfield 64, 3) := by decide +kernel
theorem d_Mo_node_5 : decode c_Mo_node 5 = .ok (.iload_n 1, 1) := by decide +kernel
theorem d_Mo_node_6 : decode c_Mo_node 6 = .ok (.ifCond .lt 8, 3) := by decide +kernel
theorem d_Mo_node_9 : decode c_Mo_node 9 = .ok (.iload_n 1, 1) := by decide +kernel
theorem d_Mo_node_10 : decode c_Mo_node 10 = .ok (.iconst 5, 1) := by decide +kernel
theorem d_Mo_node_11 : decode c_Mo_node 11 = .ok (.if_icmp .le 6, 3) := by decide +kernel
theorem d_Mo_node_14 : decode c_Mo_node 14 = .ok (.bipush (-4), 2) := by decide +kernel
theorem d_Mo_node_16 : decode c_Mo_node 16 = .ok (.ireturn, 1) := by decide +kernel
theorem d_Mo_node_17 : decode c_Mo_node 17 = .ok (.aload_n 0, 1) := by decide +kernel
theorem d_Mo_node_18 : decode c_Mo_node 18 = .ok (.iload_n 2, 1) := by decide +kernel
theorem d_Mo_node_19 : decode c_Mo_node 19 = .ok (.invokevirtual 128, 3) := by decide +kernel
theorem d_Mo_node_22 : decode c_Mo_node 22 = .ok (.ifCond .eq 16, 3) := by decide +kernel
theorem d_Mo_node_25 : decode c_Mo_node 25 = .ok (.iload_n 1, 1) := by decide +kernel
theorem d_Mo_node_26 : decode c_Mo_node 26 = .ok (.iconst 5, 1) := by decide +kernel
theorem d_Mo_node_27 : decode c_Mo_node 27 = .ok (.if_icmp .ge 14, 3) := by decide +kernel
theorem d_Mo_node_30 : decode c_Mo_node 30 = .ok (.aload_n 0, 1) := by decide +kernel
theorem d_Mo_node_31 : decode c_Mo_node 31 = .ok (.iload_n 3, 1) := by decide +kernel
theorem d_Mo_node_32 : decode c_Mo_node 32 = .ok (.invokevirtual 128, 3) := by decide +kernel
theorem d_Mo_node_35 : decode c_Mo_node 35 = .ok (.ifCond .ne 6, 3) := by decide +kernel
theorem d_Mo_node_38 : decode c_Mo_node 38 = .ok (.bipush (-2), 2) := by decide +kernel
theorem d_Mo_node_40 : decode c_Mo_node 40 = .ok (.ireturn, 1) := by decide +kernel
theorem d_Mo_node_41 : decode c_Mo_node 41 = .ok (.aload_n 0, 1) := by decide +kernel
theorem d_Mo_node_42 : decode c_Mo_node 42 = .ok (.getfield 116, 3) := by decide +kernel
theorem d_Mo_node_45 : decode c_Mo_node 45 = .ok (.bipush 100, 2) := by decide +kernel
theorem d_Mo_node_47 : decode c_Mo_node 47 = .ok (.if_icmp .ne 5, 3) := by decide +kernel
theorem d_Mo_node_50 : decode c_Mo_node 50 = .ok (.iconst (-1), 1) := by decide +kernel
theorem d_Mo_node_51 : decode c_Mo_node 51 = .ok (.ireturn, 1) := by decide +kernel
theorem d_Mo_node_52 : decode c_Mo_node 52 = .ok (.aload_n 0, 1) := by decide +kernel
theorem d_Mo_node_53 : decode c_Mo_node 53 = .ok (.getfield 37, 3) := by decide +kernel
theorem d_Mo_node_56 : decode c_Mo_node 56 = .ok (.iload_n 2, 1) := by decide +kernel
theorem d_Mo_node_57 : decode c_Mo_node 57 = .ok (.iaload, 1) := by decide +kernel
theorem d_Mo_node_58 : decode c_Mo_node 58 = .ok (.ifCond .eq 14, 3) := by decide +kernel
theorem d_Mo_node_61 : decode c_Mo_node 61 = .ok (.aload_n 0, 1) := by decide +kernel
theorem d_Mo_node_62 : decode c_Mo_node 62 = .ok (.aload_n 0, 1) := by decide +kernel
theorem d_Mo_node_63 : decode c_Mo_node 63 = .ok (.getfield 37, 3) := by decide +kernel
theorem d_Mo_node_66 : decode c_Mo_node 66 = .ok (.iload_n 2, 1) := by decide +kernel
theorem d_Mo_node_67 : decode c_Mo_node 67 = .ok (.iaload, 1) := by decide +kernel
theorem d_Mo_node_68 : decode c_Mo_node 68 = .ok (.invokevirtual 119, 3) := by decide +kernel
theorem d_Mo_node_71 : decode c_Mo_node 71 = .ok (.ireturn, 1) := by decide +kernel
theorem d_Mo_node_72 : decode c_Mo_node 72 = .ok (.iload_n 1, 1) := by decide +kernel
theorem d_Mo_node_73 : decode c_Mo_node 73 = .ok (.iconst 5, 1) := by decide +kernel
theorem d_Mo_node_74 : decode c_Mo_node 74 = .ok (.if_icmp .ge 23, 3) := by decide +kernel
theorem d_Mo_node_77 : decode c_Mo_node 77 = .ok (.aload_n 0, 1) := by decide +kernel
theorem d_Mo_node_78 : decode c_Mo_node 78 = .ok (.getfield 37, 3) := by decide +kernel
theorem d_Mo_node_81 : decode c_Mo_node 81 = .ok (.iload_n 3, 1) := by decide +kernel
theorem d_Mo_node_82 : decode c_Mo_node 82 = .ok (.iaload, 1) := by decide +kernel
theorem d_Mo_node_83 : decode c_Mo_node 83 = .ok (.ifCond .eq 14, 3) := by decide +kernel
theorem d_Mo_node_86 : decode c_Mo_node 86 = .ok (.aload_n 0, 1) := by decide +kernel
theorem d_Mo_node_87 : decode c_Mo_node 87 = .ok (.aload_n 0, 1) := by decide +kernel
theorem d_Mo_node_88 : decode c_Mo_node 88 = .ok (.getfield 37, 3) := by decide +kernel
theorem d_Mo_node_91 : decode c_Mo_node 91 = .ok (.iload_n 3, 1) := by decide +kernel
theorem d_Mo_node_92 : decode c_Mo_node 92 = .ok (.iaload, 1) := by decide +kernel
theorem d_Mo_node_93 : decode c_Mo_node 93 = .ok (.invokevirtual 119, 3) := by decide +kernel
theorem d_Mo_node_96 : decode c_Mo_node 96 = .ok (.ireturn, 1) := by decide +kernel
theorem d_Mo_node_97 : decode c_Mo_node 97 = .ok (.aload_n 0, 1) := by decide +kernel
theorem d_Mo_node_98 : decode c_Mo_node 98 = .ok (.iload_n 2, 1) := by decide +kernel
theorem d_Mo_node_99 : decode c_Mo_node 99 = .ok (.iconst 0, 1) := by decide +kernel
theorem d_Mo_node_100 : decode c_Mo_node 100 = .ok (.invokevirtual 132, 3) := by decide +kernel
theorem d_Mo_node_103 : decode c_Mo_node 103 = .ok (.iload_n 1, 1) := by decide +kernel
theorem d_Mo_node_104 : decode c_Mo_node 104 = .ok (.iconst 5, 1) := by decide +kernel
theorem d_Mo_node_105 : decode c_Mo_node 105 = .ok (.if_icmp .ge 9, 3) := by decide +kernel
theorem d_Mo_node_108 : decode c_Mo_node 108 = .ok (.aload_n 0, 1) := by decide +kernel
theorem d_Mo_node_109 : decode c_Mo_node 109 = .ok (.iload_n 3, 1) := by decide +kernel
theorem d_Mo_node_110 : decode c_Mo_node 110 = .ok (.iconst 1, 1) := by decide +kernel
theorem d_Mo_node_111 : decode c_Mo_node 111 = .ok (.invokevirtual 132, 3) := by decide +kernel
theorem d_Mo_node_114 : decode c_Mo_node 114 = .ok (.aload_n 0, 1) := by decide +kernel
theorem d_Mo_node_115 : decode c_Mo_node 115 = .ok (.aload_n 0, 1) := by decide +kernel
theorem d_Mo_node_116 : decode c_Mo_node 116 = .ok (.iload_n 1, 1) := by decide +kernel
theorem d_Mo_node_117 : decode c_Mo_node 117 = .ok (.invokevirtual 135, 3) := by decide +kernel
theorem d_Mo_node_120 : decode c_Mo_node 120 = .ok (.invokevirtual 119, 3) := by decide +kernel
theorem d_Mo_node_123 : decode c_Mo_node 123 = .ok (.ireturn, 1) := by decide +kernel
theorem d_Mo_isNode_0 : decode c_Mo_isNode 0 = .ok (.iload_n 1, 1) := by decide +kernel
theorem d_Mo_isNode_1 : decode c_Mo_isNode 1 = .ok (.ifCond .le 15, 3) := by decide +kernel
theorem d_Mo_isNode_4 : decode c_Mo_isNode 4 = .ok (.iload_n 1, 1) := by decide +kernel
theorem d_Mo_isNode_5 : decode c_Mo_isNode 5 = .ok (.aload_n 0, 1) := by decide +kernel
theorem d_Mo_isNode_6 : decode c_Mo_isNode 6 = .ok (.getfield 116, 3) := by decide +kernel
theorem d_Mo_isNode_9 : decode c_Mo_isNode 9 = .ok (.if_icmp .gt 7, 3) := by decide +kernel
theorem d_Mo_isNode_12 : decode c_Mo_isNode 12 = .ok (.iconst 1, 1) := by decide +kernel
theorem d_Mo_isNode_13 : decode c_Mo_isNode 13 = .ok (.goto 4, 3) := by decide +kernel
theorem d_Mo_isNode_16 : decode c_Mo_isNode 16 = .ok (.iconst 0, 1) := by decide +kernel
theorem d_Mo_isNode_17 : decode c_Mo_isNode 17 = .ok (.ireturn, 1) := by decide +kernel
theorem d_Mo_load_0 : decode c_Mo_load 0 = .ok (.iconst 0, 1) := by decide +kernel
theorem d_Mo_load_1 : decode c_Mo_load 1 = .ok (.istore_n 3, 1) := by decide +kernel
theorem d_Mo_load_2 : decode c_Mo_load 2 = .ok (.iload_n 3, 1) := by decide +kernel
theorem d_Mo_load_3 : decode c_Mo_load 3 = .ok (.aload_n 0, 1) := by decide +kernel
theorem d_Mo_load_4 : decode c_Mo_load 4 = .ok (.getfield 28, 3) := by decide +kernel
theorem d_Mo_load_7 : decode c_Mo_load 7 = .ok (.iload_n 1, 1) := by decide +kernel
theorem d_Mo_load_8 : decode c_Mo_load 8 = .ok (.iaload, 1) := by decide +kernel
theorem d_Mo_load_9 : decode c_Mo_load 9 = .ok (.if_icmp .ge 32, 3) := by decide +kernel
theorem d_Mo_load_12 : decode c_Mo_load 12 = .ok (.aload_n 0, 1) := by decide +kernel
theorem d_Mo_load_13 : decode c_Mo_load 13 = .ok (.getfield 7, 3) := by decide +kernel
theorem d_Mo_load_16 : decode c_Mo_load 16 = .ok (.sipush 320, 3) := by decide +kernel
theorem d_Mo_load_19 : decode c_Mo_load 19 = .ok (.iload_n 2, 1) := by decide +kernel
theorem d_Mo_load_20 : decode c_Mo_load 20 = .ok (.imul, 1) := by decide +kernel
theorem d_Mo_load_21 : decode c_Mo_load 21 = .ok (.iload_n 3, 1) := by decide +kernel
theorem d_Mo_load_22 : decode c_Mo_load 22 = .ok (.iadd, 1) := by decide +kernel
theorem d_Mo_load_23 : decode c_Mo_load 23 = .ok (.aload_n 0, 1) := by decide +kernel
theorem d_Mo_load_24 : decode c_Mo_load 24 = .ok (.getfield 25, 3) := by decide +kernel
theorem d_Mo_load_27 : decode c_Mo_load 27 = .ok (.bipush 31, 2) := by decide +kernel
theorem d_Mo_load_29 : decode c_Mo_load 29 = .ok (.iload_n 1, 1) := by decide +kernel
theorem d_Mo_load_30 : decode c_Mo_load 30 = .ok (.imul, 1) := by decide +kernel
theorem d_Mo_load_31 : decode c_Mo_load 31 = .ok (.iload_n 3, 1) := by decide +kernel
theorem d_Mo_load_32 : decode c_Mo_load 32 = .ok (.iadd, 1) := by decide +kernel
theorem d_Mo_load_33 : decode c_Mo_load 33 = .ok (.iaload, 1) := by decide +kernel
theorem d_Mo_load_34 : decode c_Mo_load 34 = .ok (.iastore, 1) := by decide +kernel
theorem d_Mo_load_35 : decode c_Mo_load 35 = .ok (.iinc 3 1, 3) := by decide +kernel
theorem d_Mo_load_38 : decode c_Mo_load 38 = .ok (.goto (-36), 3) := by decide +kernel
theorem d_Mo_load_41 : decode c_Mo_load 41 = .ok (.aload_n 0, 1) := by decide +kernel
theorem d_Mo_load_42 : decode c_Mo_load 42 = .ok (.getfield 13, 3) := by decide +kernel
theorem d_Mo_load_45 : decode c_Mo_load 45 = .ok (.iload_n 2, 1) := by decide +kernel
theorem d_Mo_load_46 : decode c_Mo_load 46 = .ok (.aload_n 0, 1) := by decide +kernel
theorem d_Mo_load_47 : decode c_Mo_load 47 = .ok (.getfield 28, 3) := by decide +kernel
theorem d_Mo_load_50 : decode c_Mo_load 50 = .ok (.iload_n 1, 1) := by decide +kernel
theorem d_Mo_load_51 : decode c_Mo_load 51 = .ok (.iaload, 1) := by decide +kernel
theorem d_Mo_load_52 : decode c_Mo_load 52 = .ok (.iastore, 1) := by decide +kernel
theorem d_Mo_load_53 : decode c_Mo_load 53 = .ok (.aload_n 0, 1) := by decide +kernel
theorem d_Mo_load_54 : decode c_Mo_load 54 = .ok (.getfield 16, 3) := by decide +kernel
theorem d_Mo_load_57 : decode c_Mo_load 57 = .ok (.iload_n 2, 1) := by decide +kernel
theorem d_Mo_load_58 : decode c_Mo_load 58 = .ok (.aload_n 0, 1) := by decide +kernel
theorem d_Mo_load_59 : decode c_Mo_load 59 = .ok (.getfield 31, 3) := by decide +kernel
theorem d_Mo_load_62 : decode c_Mo_load 62 = .ok (.iload_n 1, 1) := by decide +kernel
theorem d_Mo_load_63 : decode c_Mo_load 63 = .ok (.iaload, 1) := by decide +kernel
theorem d_Mo_load_64 : decode c_Mo_load 64 = .ok (.iastore, 1) := by decide +kernel
theorem d_Mo_load_65 : decode c_Mo_load 65 = .ok (.aload_n 0, 1) := by decide +kernel
theorem d_Mo_load_66 : decode c_Mo_load 66 = .ok (.getfield 19, 3) := by decide +kernel
theorem d_Mo_load_69 : decode c_Mo_load 69 = .ok (.iload_n 2, 1) := by decide +kernel
theorem d_Mo_load_70 : decode c_Mo_load 70 = .ok (.aload_n 0, 1) := by decide +kernel
theorem d_Mo_load_71 : decode c_Mo_load 71 = .ok (.getfield 34, 3) := by decide +kernel
theorem d_Mo_load_74 : decode c_Mo_load 74 = .ok (.iload_n 1, 1) := by decide +kernel
theorem d_Mo_load_75 : decode c_Mo_load 75 = .ok (.iaload, 1) := by decide +kernel
theorem d_Mo_load_76 : decode c_Mo_load 76 = .ok (.iastore, 1) := by decide +kernel
theorem d_Mo_load_77 : decode c_Mo_load 77 = .ok (.return_, 1) := by decide +kernel
theorem d_Mo_operated_0 : decode c_Mo_operated 0 = .ok (.iload_n 1, 1) := by decide +kernel
theorem d_Mo_operated_1 : decode c_Mo_operated 1 = .ok (.tableswitch 74 0 4 #[35, 40, 59, 64, 69], 35) := by decide +kernel
theorem d_Mo_operated_36 : decode c_Mo_operated 36 = .ok (.aload_n 0, 1) := by decide +kernel
theorem d_Mo_operated_37 : decode c_Mo_operated 37 = .ok (.invokevirtual 122, 3) := by decide +kernel
theorem d_Mo_operated_40 : decode c_Mo_operated 40 = .ok (.ireturn, 1) := by decide +kernel
theorem d_Mo_operated_41 : decode c_Mo_operated 41 = .ok (.aload_n 0, 1) := by decide +kernel
theorem d_Mo_operated_42 : decode c_Mo_operated 42 = .ok (.getfield 19, 3) := by decide +kernel
theorem d_Mo_operated_45 : decode c_Mo_operated 45 = .ok (.iconst 1, 1) := by decide +kernel
theorem d_Mo_operated_46 : decode c_Mo_operated 46 = .ok (.iconst 0, 1) := by decide +kernel
theorem d_Mo_operated_47 : decode c_Mo_operated 47 = .ok (.aload_n 0, 1) := by decide +kernel
theorem d_Mo_operated_48 : decode c_Mo_operated 48 = .ok (.getfield 19, 3) := by decide +kernel
theorem d_Mo_operated_51 : decode c_Mo_operated 51 = .ok (.iconst 1, 1) := by decide +kernel
theorem d_Mo_operated_52 : decode c_Mo_operated 52 = .ok (.iaload, 1) := by decide +kernel
theorem d_Mo_operated_53 : decode c_Mo_operated 53 = .ok (.isub, 1) := by decide +kernel
theorem d_Mo_operated_54 : decode c_Mo_operated 54 = .ok (.iastore, 1) := by decide +kernel
theorem d_Mo_operated_55 : decode c_Mo_operated 55 = .ok (.aload_n 0, 1) := by decide +kernel
theorem d_Mo_operated_56 : decode c_Mo_operated 56 = .ok (.invokevirtual 122, 3) := by decide +kernel
theorem d_Mo_operated_59 : decode c_Mo_operated 59 = .ok (.ireturn, 1) := by decide +kernel
theorem d_Mo_operated_60 : decode c_Mo_operated 60 = .ok (.aload_n 0, 1) := by decide +kernel
theorem d_Mo_operated_61 : decode c_Mo_operated 61 = .ok (.invokevirtual 110, 3) := by decide +kernel
theorem d_Mo_operated_64 : decode c_Mo_operated 64 = .ok (.ireturn, 1) := by decide +kernel
theorem d_Mo_operated_65 : decode c_Mo_operated 65 = .ok (.aload_n 0, 1) := by decide +kernel
theorem d_Mo_operated_66 : decode c_Mo_operated 66 = .ok (.invokevirtual 113, 3) := by decide +kernel
theorem d_Mo_operated_69 : decode c_Mo_operated 69 = .ok (.ireturn, 1) := by decide +kernel
theorem d_Mo_operated_70 : decode c_Mo_operated 70 = .ok (.aload_n 0, 1) := by decide +kernel
theorem d_Mo_operated_71 : decode c_Mo_operated 71 = .ok (.invokevirtual 125, 3) := by decide +kernel
theorem d_Mo_operated_74 : decode c_Mo_operated 74 = .ok (.ireturn, 1) := by decide +kernel
theorem d_Mo_operated_75 : decode c_Mo_operated 75 = .ok (.aload_n 0, 1) := by decide +kernel
theorem d_Mo_operated_76 : decode c_Mo_operated 76 = .ok (.iconst 0, 1) := by decide +kernel
theorem d_Mo_operated_77 : decode c_Mo_operated 77 = .ok (.iconst 2, 1) := by decide +kernel
theorem d_Mo_operated_78 : decode c_Mo_operated 78 = .ok (.invokevirtual 81, 3) := by decide +kernel
theorem d_Mo_operated_81 : decode c_Mo_operated 81 = .ok (.aload_n 0, 1) := by decide +kernel
theorem d_Mo_operated_82 : decode c_Mo_operated 82 = .ok (.getfield 19, 3) := by decide +kernel
theorem d_Mo_operated_85 : decode c_Mo_operated 85 = .ok (.iconst 2, 1) := by decide +kernel
theorem d_Mo_operated_86 : decode c_Mo_operated 86 = .ok (.iconst 0, 1) := by decide +kernel
theorem d_Mo_operated_87 : decode c_Mo_operated 87 = .ok (.aload_n 0, 1) := by decide +kernel
theorem d_Mo_operated_88 : decode c_Mo_operated 88 = .ok (.getfield 19, 3) := by decide +kernel
theorem d_Mo_operated_91 : decode c_Mo_operated 91 = .ok (.iconst 2, 1) := by decide +kernel
theorem d_Mo_operated_92 : decode c_Mo_operated 92 = .ok (.iaload, 1) := by decide +kernel
theorem d_Mo_operated_93 : decode c_Mo_operated 93 = .ok (.isub, 1) := by decide +kernel
theorem d_Mo_operated_94 : decode c_Mo_operated 94 = .ok (.iastore, 1) := by decide +kernel
theorem d_Mo_operated_95 : decode c_Mo_operated 95 = .ok (.iconst 0, 1) := by decide +kernel
theorem d_Mo_operated_96 : decode c_Mo_operated 96 = .ok (.ireturn, 1) := by decide +kernel
theorem d_Mo_add_0 : decode c_Mo_add 0 = .ok (.aload_n 0, 1) := by decide +kernel
theorem d_Mo_add_1 : decode c_Mo_add 1 = .ok (.getfield 13, 3) := by decide +kernel
theorem d_Mo_add_4 : decode c_Mo_add 4 = .ok (.iconst 0, 1) := by decide +kernel
theorem d_Mo_add_5 : decode c_Mo_add 5 = .ok (.iaload, 1) := by decide +kernel
theorem d_Mo_add_6 : decode c_Mo_add 6 = .ok (.ifCond .eq 12, 3) := by decide +kernel
theorem d_Mo_add_9 : decode c_Mo_add 9 = .ok (.aload_n 0, 1) := by decide +kernel
theorem d_Mo_add_10 : decode c_Mo_add 10 = .ok (.getfield 13, 3) := by decide +kernel
theorem d_Mo_add_13 : decode c_Mo_add 13 = .ok (.iconst 1, 1) := by decide +kernel
theorem d_Mo_add_14 : decode c_Mo_add 14 = .ok (.iaload, 1) := by decide +kernel
theorem d_Mo_add_15 : decode c_Mo_add 15 = .ok (.ifCond .ne 32, 3) := by decide +kernel
theorem d_Mo_add_18 : decode c_Mo_add 18 = .ok (.aload_n 0, 1) := by decide +kernel
theorem d_Mo_add_19 : decode c_Mo_add 19 = .ok (.aload_n 0, 1) := by decide +kernel
theorem d_Mo_add_20 : decode c_Mo_add 20 = .ok (.getfield 13, 3) := by decide +kernel
theorem d_Mo_add_23 : decode c_Mo_add 23 = .ok (.iconst 0, 1) := by decide +kernel
theorem d_Mo_add_24 : decode c_Mo_add 24 = .ok (.iaload, 1) := by decide +kernel
theorem d_Mo_add_25 : decode c_Mo_add 25 = .ok (.ifCond .ne 7, 3) := by decide +kernel
theorem d_Mo_add_28 : decode c_Mo_add 28 = .ok (.iconst 1, 1) := by decide +kernel
theorem d_Mo_add_29 : decode c_Mo_add 29 = .ok (.goto 4, 3) := by decide +kernel
theorem d_Mo_add_32 : decode c_Mo_add 32 = .ok (.iconst 0, 1) := by decide +kernel
theorem d_Mo_add_33 : decode c_Mo_add 33 = .ok (.iconst 2, 1) := by decide +kernel
theorem d_Mo_add_34 : decode c_Mo_add 34 = .ok (.invokevirtual 81, 3) := by decide +kernel
theorem d_Mo_add_37 : decode c_Mo_add 37 = .ok (.aload_n 0, 1) := by decide +kernel
theorem d_Mo_add_38 : decode c_Mo_add 38 = .ok (.iconst 2, 1) := by decide +kernel
theorem d_Mo_add_39 : decode c_Mo_add 39 = .ok (.aload_n 0, 1) := by decide +kernel
theorem d_Mo_add_40 : decode c_Mo_add 40 = .ok (.getfield 60, 3) := by decide +kernel
theorem d_Mo_add_43 : decode c_Mo_add 43 = .ok (.invokevirtual 84, 3) := by decide +kernel
theorem d_Mo_add_46 : decode c_Mo_add 46 = .ok (.ireturn, 1) := by decide +kernel
theorem d_Mo_add_47 : decode c_Mo_add 47 = .ok (.aload_n 0, 1) := by decide +kernel
theorem d_Mo_add_48 : decode c_Mo_add 48 = .ok (.getfield 16, 3) := by decide +kernel
theorem d_Mo_add_51 : decode c_Mo_add 51 = .ok (.iconst 0, 1) := by decide +kernel
theorem d_Mo_add_52 : decode c_Mo_add 52 = .ok (.iaload, 1) := by decide +kernel
theorem d_Mo_add_53 : decode c_Mo_add 53 = .ok (.aload_n 0, 1) := by decide +kernel
theorem d_Mo_add_54 : decode c_Mo_add 54 = .ok (.getfield 16, 3) := by decide +kernel
theorem d_Mo_add_57 : decode c_Mo_add 57 = .ok (.iconst 1, 1) := by decide +kernel
theorem d_Mo_add_58 : decode c_Mo_add 58 = .ok (.iaload, 1) := by decide +kernel
theorem d_Mo_add_59 : decode c_Mo_add 59 = .ok (.if_icmp .ge 12, 3) := by decide +kernel
theorem d_Mo_add_62 : decode c_Mo_add 62 = .ok (.aload_n 0, 1) := by decide +kernel
theorem d_Mo_add_63 : decode c_Mo_add 63 = .ok (.getfield 16, 3) := by decide +kernel
theorem d_Mo_add_66 : decode c_Mo_add 66 = .ok (.iconst 0, 1) := by decide +kernel
theorem d_Mo_add_67 : decode c_Mo_add 67 = .ok (.iaload, 1) := by decide +kernel
theorem d_Mo_add_68 : decode c_Mo_add 68 = .ok (.goto 9, 3) := by decide +kernel
theorem d_Mo_add_71 : decode c_Mo_add 71 = .ok (.aload_n 0, 1) := by decide +kernel
theorem d_Mo_add_72 : decode c_Mo_add 72 = .ok (.getfield 16, 3) := by decide +kernel
theorem d_Mo_add_75 : decode c_Mo_add 75 = .ok (.iconst 1, 1) := by decide +kernel
theorem d_Mo_add_76 : decode c_Mo_add 76 = .ok (.iaload, 1) := by decide +kernel
theorem d_Mo_add_77 : decode c_Mo_add 77 = .ok (.istore_n 1, 1) := by decide +kernel
theorem d_Mo_add_78 : decode c_Mo_add 78 = .ok (.aload_n 0, 1) := by decide +kernel
theorem d_Mo_add_79 : decode c_Mo_add 79 = .ok (.iconst 0, 1) := by decide +kernel
theorem d_Mo_add_80 : decode c_Mo_add 80 = .ok (.invokevirtual 87, 3) := by decide +kernel
theorem d_Mo_add_83 : decode c_Mo_add 83 = .ok (.aload_n 0, 1) := by decide +kernel
theorem d_Mo_add_84 : decode c_Mo_add 84 = .ok (.iconst 1, 1) := by decide +kernel
theorem d_Mo_add_85 : decode c_Mo_add 85 = .ok (.invokevirtual 87, 3) := by decide +kernel
theorem d_Mo_add_88 : decode c_Mo_add 88 = .ok (.if_icmp .le 11, 3) := by decide +kernel
theorem d_Mo_add_91 : decode c_Mo_add 91 = .ok (.aload_n 0, 1) := by decide +kernel
theorem d_Mo_add_92 : decode c_Mo_add 92 = .ok (.iconst 0, 1) := by decide +kernel
theorem d_Mo_add_93 : decode c_Mo_add 93 = .ok (.invokevirtual 87, 3) := by decide +kernel
theorem d_Mo_add_96 : decode c_Mo_add 96 = .ok (.goto 8, 3) := by decide +kernel
theorem d_Mo_add_99 : decode c_Mo_add 99 = .ok (.aload_n 0, 1) := by decide +kernel
theorem d_Mo_add_100 : decode c_Mo_add 100 = .ok (.iconst 1, 1) := by decide +kernel
theorem d_Mo_add_101 : decode c_Mo_add 101 = .ok (.invokevirtual 87, 3) := by decide +kernel
theorem d_Mo_add_104 : decode c_Mo_add 104 = .ok (.iconst 1, 1) := by decide +kernel
theorem d_Mo_add_105 : decode c_Mo_add 105 = .ok (.iadd, 1) := by decide +kernel
theorem d_Mo_add_106 : decode c_Mo_add 106 = .ok (.istore_n 2, 1) := by decide +kernel
theorem d_Mo_add_107 : decode c_Mo_add 107 = .ok (.aload_n 0, 1) := by decide +kernel
theorem d_Mo_add_108 : decode c_Mo_add 108 = .ok (.getfield 19, 3) := by decide +kernel
theorem d_Mo_add_111 : decode c_Mo_add 111 = .ok (.iconst 0, 1) := by decide +kernel
theorem d_Mo_add_112 : decode c_Mo_add 112 = .ok (.iaload, 1) := by decide +kernel
theorem d_Mo_add_113 : decode c_Mo_add 113 = .ok (.aload_n 0, 1) := by decide +kernel
theorem d_Mo_add_114 : decode c_Mo_add 114 = .ok (.getfield 19, 3) := by decide +kernel
theorem d_Mo_add_117 : decode c_Mo_add 117 = .ok (.iconst 1, 1) := by decide +kernel
theorem d_Mo_add_118 : decode c_Mo_add 118 = .ok (.iaload, 1) := by decide +kernel
theorem d_Mo_add_119 : decode c_Mo_add 119 = .ok (.if_icmp .ne 7, 3) := by decide +kernel
theorem d_Mo_add_122 : decode c_Mo_add 122 = .ok (.iconst 1, 1) := by decide +kernel
theorem d_Mo_add_123 : decode c_Mo_add 123 = .ok (.goto 4, 3) := by decide +kernel
theorem d_Mo_add_126 : decode c_Mo_add 126 = .ok (.iconst 0, 1) := by decide +kernel
theorem d_Mo_add_127 : decode c_Mo_add 127 = .ok (.istore_n 3, 1) := by decide +kernel
theorem d_Mo_add_128 : decode c_Mo_add 128 = .ok (.aload_n 0, 1) := by decide +kernel
theorem d_Mo_add_129 : decode c_Mo_add 129 = .ok (.iconst 0, 1) := by decide +kernel
theorem d_Mo_add_130 : decode c_Mo_add 130 = .ok (.iconst 1, 1) := by decide +kernel
theorem d_Mo_add_131 : decode c_Mo_add 131 = .ok (.iload_n 1, 1) := by decide +kernel
theorem d_Mo_add_132 : decode c_Mo_add 132 = .ok (.iload_n 2, 1) := by decide +kernel
theorem d_Mo_add_133 : decode c_Mo_add 133 = .ok (.invokevirtual 91, 3) := by decide +kernel
theorem d_Mo_add_136 : decode c_Mo_add 136 = .ok (.istore 4, 2) := by decide +kernel
theorem d_Mo_add_138 : decode c_Mo_add 138 = .ok (.iload 4, 2) := by decide +kernel
theorem d_Mo_add_140 : decode c_Mo_add 140 = .ok (.ifCond .ge 7, 3) := by decide +kernel
theorem d_Mo_add_143 : decode c_Mo_add 143 = .ok (.iconst 1, 1) := by decide +kernel
theorem d_Mo_add_144 : decode c_Mo_add 144 = .ok (.goto 4, 3) := by decide +kernel
theorem d_Mo_add_147 : decode c_Mo_add 147 = .ok (.iconst 0, 1) := by decide +kernel
theorem d_Mo_add_148 : decode c_Mo_add 148 = .ok (.istore 5, 2) := by decide +kernel
theorem d_Mo_add_150 : decode c_Mo_add 150 = .ok (.iload 4, 2) := by decide +kernel
theorem d_Mo_add_152 : decode c_Mo_add 152 = .ok (.ifCond .ge 7, 3) := by decide +kernel
theorem d_Mo_add_155 : decode c_Mo_add 155 = .ok (.iconst 0, 1) := by decide +kernel
theorem d_Mo_add_156 : decode c_Mo_add 156 = .ok (.goto 4, 3) := by decide +kernel
theorem d_Mo_add_159 : decode c_Mo_add 159 = .ok (.iconst 1, 1) := by decide +kernel
theorem d_Mo_add_160 : decode c_Mo_add 160 = .ok (.istore 6, 2) := by decide +kernel
theorem d_Mo_add_162 : decode c_Mo_add 162 = .ok (.iconst 0, 1) := by decide +kernel
theorem d_Mo_add_163 : decode c_Mo_add 163 = .ok (.istore 7, 2) := by decide +kernel
theorem d_Mo_add_165 : decode c_Mo_add 165 = .ok (.iload_n 1, 1) := by decide +kernel
theorem d_Mo_add_166 : decode c_Mo_add 166 = .ok (.istore 8, 2) := by decide +kernel
theorem d_Mo_add_168 : decode c_Mo_add 168 = .ok (.iload 8, 2) := by decide +kernel
theorem d_Mo_add_170 : decode c_Mo_add 170 = .ok (.iload_n 2, 1) := by decide +kernel
theorem d_Mo_add_171 : decode c_Mo_add 171 = .ok (.if_icmp .ge 92, 3) := by decide +kernel
theorem d_Mo_add_174 : decode c_Mo_add 174 = .ok (.aload_n 0, 1) := by decide +kernel
theorem d_Mo_add_175 : decode c_Mo_add 175 = .ok (.iload 5, 2) := by decide +kernel
theorem d_Mo_add_177 : decode c_Mo_add 177 = .ok (.iload 8, 2) := by decide +kernel
theorem d_Mo_add_179 : decode c_Mo_add 179 = .ok (.invokevirtual 77, 3) := by decide +kernel
theorem d_Mo_add_182 : decode c_Mo_add 182 = .ok (.iload_n 3, 1) := by decide +kernel
theorem d_Mo_add_183 : decode c_Mo_add 183 = .ok (.ifCond .eq 14, 3) := by decide +kernel
theorem d_Mo_add_186 : decode c_Mo_add 186 = .ok (.aload_n 0, 1) := by decide +kernel
theorem d_Mo_add_187 : decode c_Mo_add 187 = .ok (.iload 6, 2) := by decide +kernel
theorem d_Mo_add_189 : decode c_Mo_add 189 = .ok (.iload 8, 2) := by decide +kernel
theorem d_Mo_add_191 : decode c_Mo_add 191 = .ok (.invokevirtual 77, 3) := by decide +kernel
theorem d_Mo_add_194 : decode c_Mo_add 194 = .ok (.goto 13, 3) := by decide +kernel
theorem d_Mo_add_197 : decode c_Mo_add 197 = .ok (.iconst 0, 1) := by decide +kernel
theorem d_Mo_add_198 : decode c_Mo_add 198 = .ok (.aload_n 0, 1) := by decide +kernel
theorem d_Mo_add_199 : decode c_Mo_add 199 = .ok (.iload 6, 2) := by decide +kernel
theorem d_Mo_add_201 : decode c_Mo_add 201 = .ok (.iload 8, 2) := by decide +kernel
theorem d_Mo_add_203 : decode c_Mo_add 203 = .ok (.invokevirtual 77, 3) := by decide +kernel
theorem d_Mo_add_206 : decode c_Mo_add 206 = .ok (.isub, 1) := by decide +kernel
theorem d_Mo_add_207 : decode c_Mo_add 207 = .ok (.iadd, 1) := by decide +kernel
theorem d_Mo_add_208 : decode c_Mo_add 208 = .ok (.iload 7, 2) := by decide +kernel
theorem d_Mo_add_210 : decode c_Mo_add 210 = .ok (.iadd, 1) := by decide +kernel
theorem d_Mo_add_211 : decode c_Mo_add 211 = .ok (.istore 9, 2) := by decide +kernel
theorem d_Mo_add_213 : decode c_Mo_add 213 = .ok (.iload 9, 2) := by decide +kernel
theorem d_Mo_add_215 : decode c_Mo_add 215 = .ok (.ifCond .ge 7, 3) := by decide +kernel
theorem d_Mo_add_218 : decode c_Mo_add 218 = .ok (.iconst (-1), 1) := by decide +kernel
theorem d_Mo_add_219 : decode c_Mo_add 219 = .ok (.goto 15, 3) := by decide +kernel
theorem d_Mo_add_222 : decode c_Mo_add 222 = .ok (.iload 9, 2) := by decide +kernel
theorem d_Mo_add_224 : decode c_Mo_add 224 = .ok (.bipush 9, 2) := by decide +kernel
theorem d_Mo_add_226 : decode c_Mo_add 226 = .ok (.if_icmp .le 7, 3) := by decide +kernel
theorem d_Mo_add_229 : decode c_Mo_add 229 = .ok (.iconst 1, 1) := by decide +kernel
theorem d_Mo_add_230 : decode c_Mo_add 230 = .ok (.goto 4, 3) := by decide +kernel
theorem d_Mo_add_233 : decode c_Mo_add 233 = .ok (.iconst 0, 1) := by decide +kernel
theorem d_Mo_add_234 : decode c_Mo_add 234 = .ok (.istore 7, 2) := by decide +kernel
theorem d_Mo_add_236 : decode c_Mo_add 236 = .ok (.aload_n 0, 1) := by decide +kernel
theorem d_Mo_add_237 : decode c_Mo_add 237 = .ok (.getfield 7, 3) := by decide +kernel
theorem d_Mo_add_240 : decode c_Mo_add 240 = .ok (.sipush 640, 3) := by decide +kernel
theorem d_Mo_add_243 : decode c_Mo_add 243 = .ok (.iload 8, 2) := by decide +kernel
theorem d_Mo_add_245 : decode c_Mo_add 245 = .ok (.iadd, 1) := by decide +kernel
theorem d_Mo_add_246 : decode c_Mo_add 246 = .ok (.iload_n 1, 1) := by decide +kernel
theorem d_Mo_add_247 : decode c_Mo_add 247 = .ok (.isub, 1) := by decide +kernel
theorem d_Mo_add_248 : decode c_Mo_add 248 = .ok (.iload 9, 2) := by decide +kernel
theorem d_Mo_add_250 : decode c_Mo_add 250 = .ok (.bipush 10, 2) := by decide +kernel
theorem d_Mo_add_252 : decode c_Mo_add 252 = .ok (.iload 7, 2) := by decide +kernel
theorem d_Mo_add_254 : decode c_Mo_add 254 = .ok (.imul, 1) := by decide +kernel
theorem d_Mo_add_255 : decode c_Mo_add 255 = .ok (.isub, 1) := by decide +kernel
theorem d_Mo_add_256 : decode c_Mo_add 256 = .ok (.iastore, 1) := by decide +kernel
theorem d_Mo_add_257 : decode c_Mo_add 257 = .ok (.iinc 8 1, 3) := by decide +kernel
theorem d_Mo_add_260 : decode c_Mo_add 260 = .ok (.goto (-92), 3) := by decide +kernel
theorem d_Mo_add_263 : decode c_Mo_add 263 = .ok (.aload_n 0, 1) := by decide +kernel
theorem d_Mo_add_264 : decode c_Mo_add 264 = .ok (.getfield 13, 3) := by decide +kernel
theorem d_Mo_add_267 : decode c_Mo_add 267 = .ok (.iconst 2, 1) := by decide +kernel
theorem d_Mo_add_268 : decode c_Mo_add 268 = .ok (.iload_n 2, 1) := by decide +kernel
theorem d_Mo_add_269 : decode c_Mo_add 269 = .ok (.iload_n 1, 1) := by decide +kernel
theorem d_Mo_add_270 : decode c_Mo_add 270 = .ok (.isub, 1) := by decide +kernel
theorem d_Mo_add_271 : decode c_Mo_add 271 = .ok (.iastore, 1) := by decide +kernel
theorem d_Mo_add_272 : decode c_Mo_add 272 = .ok (.aload_n 0, 1) := by decide +kernel
theorem d_Mo_add_273 : decode c_Mo_add 273 = .ok (.getfield 16, 3) := by decide +kernel
theorem d_Mo_add_276 : decode c_Mo_add 276 = .ok (.iconst 2, 1) := by decide +kernel
theorem d_Mo_add_277 : decode c_Mo_add 277 = .ok (.iload_n 1, 1) := by decide +kernel
theorem d_Mo_add_278 : decode c_Mo_add 278 = .ok (.iastore, 1) := by decide +kernel
theorem d_Mo_add_279 : decode c_Mo_add 279 = .ok (.aload_n 0, 1) := by decide +kernel
theorem d_Mo_add_280 : decode c_Mo_add 280 = .ok (.getfield 19, 3) := by decide +kernel
theorem d_Mo_add_283 : decode c_Mo_add 283 = .ok (.iconst 2, 1) := by decide +kernel
theorem d_Mo_add_284 : decode c_Mo_add 284 = .ok (.aload_n 0, 1) := by decide +kernel
theorem d_Mo_add_285 : decode c_Mo_add 285 = .ok (.getfield 19, 3) := by decide +kernel
theorem d_Mo_add_288 : decode c_Mo_add 288 = .ok (.iload 5, 2) := by decide +kernel
theorem d_Mo_add_290 : decode c_Mo_add 290 = .ok (.iaload, 1) := by decide +kernel
theorem d_Mo_add_291 : decode c_Mo_add 291 = .ok (.iastore, 1) := by decide +kernel
theorem d_Mo_add_292 : decode c_Mo_add 292 = .ok (.aload_n 0, 1) := by decide +kernel
theorem d_Mo_add_293 : decode c_Mo_add 293 = .ok (.iconst 2, 1) := by decide +kernel
theorem d_Mo_add_294 : decode c_Mo_add 294 = .ok (.aload_n 0, 1) := by decide +kernel
theorem d_Mo_add_295 : decode c_Mo_add 295 = .ok (.getfield 60, 3) := by decide +kernel
theorem d_Mo_add_298 : decode c_Mo_add 298 = .ok (.invokevirtual 84, 3) := by decide +kernel
theorem d_Mo_add_301 : decode c_Mo_add 301 = .ok (.ireturn, 1) := by decide +kernel
