theorem d_Mo_run_0 : decode c_Mo_run 0 = .ok (.aload_n 0, 1) := by decide +kernel
theorem d_Mo_run_1 : decode c_Mo_run 1 = .ok (.iconst 0, 1) := by decide +kernel
theorem d_Mo_run_2 : decode c_Mo_run 2 = .ok (.putfield 64, 3) := by decide +kernel
theorem d_Mo_run_5 : decode c_Mo_run 5 = .ok (.iload_n 1, 1) := by decide +kernel
theorem d_Mo_run_6 : decode c_Mo_run 6 = .ok (.ifCond .lt 8, 3) := by decide +kernel
theorem d_Mo_run_9 : decode c_Mo_run 9 = .ok (.iload_n 1, 1) := by decide +kernel
theorem d_Mo_run_10 : decode c_Mo_run 10 = .ok (.iconst 4, 1) := by decide +kernel
theorem d_Mo_run_11 : decode c_Mo_run 11 = .ok (.if_icmp .le 6, 3) := by decide +kernel
theorem d_Mo_run_14 : decode c_Mo_run 14 = .ok (.bipush (-4), 2) := by decide +kernel
theorem d_Mo_run_16 : decode c_Mo_run 16 = .ok (.ireturn, 1) := by decide +kernel
theorem d_Mo_run_17 : decode c_Mo_run 17 = .ok (.aload_n 0, 1) := by decide +kernel
theorem d_Mo_run_18 : decode c_Mo_run 18 = .ok (.iload_n 2, 1) := by decide +kernel
theorem d_Mo_run_19 : decode c_Mo_run 19 = .ok (.invokevirtual 128, 3) := by decide +kernel
theorem d_Mo_run_22 : decode c_Mo_run 22 = .ok (.ifCond .ne 6, 3) := by decide +kernel
theorem d_Mo_run_25 : decode c_Mo_run 25 = .ok (.bipush (-2), 2) := by decide +kernel
theorem d_Mo_run_27 : decode c_Mo_run 27 = .ok (.ireturn, 1) := by decide +kernel
theorem d_Mo_run_28 : decode c_Mo_run 28 = .ok (.aload_n 0, 1) := by decide +kernel
theorem d_Mo_run_29 : decode c_Mo_run 29 = .ok (.iconst 0, 1) := by decide +kernel
theorem d_Mo_run_30 : decode c_Mo_run 30 = .ok (.putfield 169, 3) := by decide +kernel
theorem d_Mo_run_33 : decode c_Mo_run 33 = .ok (.iconst 0, 1) := by decide +kernel
theorem d_Mo_run_34 : decode c_Mo_run 34 = .ok (.istore 4, 2) := by decide +kernel
theorem d_Mo_run_36 : decode c_Mo_run 36 = .ok (.iconst 1, 1) := by decide +kernel
theorem d_Mo_run_37 : decode c_Mo_run 37 = .ok (.istore 5, 2) := by decide +kernel
theorem d_Mo_run_39 : decode c_Mo_run 39 = .ok (.iload 5, 2) := by decide +kernel
theorem d_Mo_run_41 : decode c_Mo_run 41 = .ok (.aload_n 0, 1) := by decide +kernel
theorem d_Mo_run_42 : decode c_Mo_run 42 = .ok (.getfield 140, 3) := by decide +kernel
theorem d_Mo_run_45 : decode c_Mo_run 45 = .ok (.if_icmp .gt 42, 3) := by decide +kernel
theorem d_Mo_run_48 : decode c_Mo_run 48 = .ok (.aload_n 0, 1) := by decide +kernel
theorem d_Mo_run_49 : decode c_Mo_run 49 = .ok (.iload_n 2, 1) := by decide +kernel
theorem d_Mo_run_50 : decode c_Mo_run 50 = .ok (.iconst 3, 1) := by decide +kernel
theorem d_Mo_run_51 : decode c_Mo_run 51 = .ok (.invokevirtual 132, 3) := by decide +kernel
theorem d_Mo_run_54 : decode c_Mo_run 54 = .ok (.iload 4, 2) := by decide +kernel
theorem d_Mo_run_56 : decode c_Mo_run 56 = .ok (.aload_n 0, 1) := by decide +kernel
theorem d_Mo_run_57 : decode c_Mo_run 57 = .ok (.iload_n 1, 1) := by decide +kernel
theorem d_Mo_run_58 : decode c_Mo_run 58 = .ok (.iload 5, 2) := by decide +kernel
theorem d_Mo_run_60 : decode c_Mo_run 60 = .ok (.aload_n 0, 1) := by decide +kernel
theorem d_Mo_run_61 : decode c_Mo_run 61 = .ok (.getfield 37, 3) := by decide +kernel
theorem d_Mo_run_64 : decode c_Mo_run 64 = .ok (.iload_n 2, 1) := by decide +kernel
theorem d_Mo_run_65 : decode c_Mo_run 65 = .ok (.iaload, 1) := by decide +kernel
theorem d_Mo_run_66 : decode c_Mo_run 66 = .ok (.iload_n 3, 1) := by decide +kernel
theorem d_Mo_run_67 : decode c_Mo_run 67 = .ok (.invokevirtual 176, 3) := by decide +kernel
theorem d_Mo_run_70 : decode c_Mo_run 70 = .ok (.ifCond .eq 7, 3) := by decide +kernel
theorem d_Mo_run_73 : decode c_Mo_run 73 = .ok (.iconst 1, 1) := by decide +kernel
theorem d_Mo_run_74 : decode c_Mo_run 74 = .ok (.goto 4, 3) := by decide +kernel
theorem d_Mo_run_77 : decode c_Mo_run 77 = .ok (.iconst 0, 1) := by decide +kernel
theorem d_Mo_run_78 : decode c_Mo_run 78 = .ok (.iadd, 1) := by decide +kernel
theorem d_Mo_run_79 : decode c_Mo_run 79 = .ok (.istore 4, 2) := by decide +kernel
theorem d_Mo_run_81 : decode c_Mo_run 81 = .ok (.iinc 5 1, 3) := by decide +kernel
theorem d_Mo_run_84 : decode c_Mo_run 84 = .ok (.goto (-45), 3) := by decide +kernel
theorem d_Mo_run_87 : decode c_Mo_run 87 = .ok (.iload 4, 2) := by decide +kernel
theorem d_Mo_run_89 : decode c_Mo_run 89 = .ok (.ireturn, 1) := by decide +kernel
theorem d_Mo_isStored_0 : decode c_Mo_isStored 0 = .ok (.aload_n 0, 1) := by decide +kernel
theorem d_Mo_isStored_1 : decode c_Mo_isStored 1 = .ok (.getfield 49, 3) := by decide +kernel
theorem d_Mo_isStored_4 : decode c_Mo_isStored 4 = .ok (.iload_n 2, 1) := by decide +kernel
theorem d_Mo_isStored_5 : decode c_Mo_isStored 5 = .ok (.laload, 1) := by decide +kernel
theorem d_Mo_isStored_6 : decode c_Mo_isStored 6 = .ok (.lstore 5, 2) := by decide +kernel
theorem d_Mo_isStored_8 : decode c_Mo_isStored 8 = .ok (.iload_n 3, 1) := by decide +kernel
theorem d_Mo_isStored_9 : decode c_Mo_isStored 9 = .ok (.ifCond .eq 7, 3) := by decide +kernel
theorem d_Mo_isStored_12 : decode c_Mo_isStored 12 = .ok (.iload_n 3, 1) := by decide +kernel
theorem d_Mo_isStored_13 : decode c_Mo_isStored 13 = .ok (.goto 9, 3) := by decide +kernel
theorem d_Mo_isStored_16 : decode c_Mo_isStored 16 = .ok (.aload_n 0, 1) := by decide +kernel
theorem d_Mo_isStored_17 : decode c_Mo_isStored 17 = .ok (.iload_n 1, 1) := by decide +kernel
theorem d_Mo_isStored_18 : decode c_Mo_isStored 18 = .ok (.iload_n 2, 1) := by decide +kernel
theorem d_Mo_isStored_19 : decode c_Mo_isStored 19 = .ok (.invokevirtual 166, 3) := by decide +kernel
theorem d_Mo_isStored_22 : decode c_Mo_isStored 22 = .ok (.istore 7, 2) := by decide +kernel
theorem d_Mo_isStored_24 : decode c_Mo_isStored 24 = .ok (.iload 7, 2) := by decide +kernel
theorem d_Mo_isStored_26 : decode c_Mo_isStored 26 = .ok (.ifCond .ne 27, 3) := by decide +kernel
theorem d_Mo_isStored_29 : decode c_Mo_isStored 29 = .ok (.aload_n 0, 1) := by decide +kernel
theorem d_Mo_isStored_30 : decode c_Mo_isStored 30 = .ok (.aload_n 0, 1) := by decide +kernel
theorem d_Mo_isStored_31 : decode c_Mo_isStored 31 = .ok (.getfield 43, 3) := by decide +kernel
theorem d_Mo_isStored_34 : decode c_Mo_isStored 34 = .ok (.iload_n 2, 1) := by decide +kernel
theorem d_Mo_isStored_35 : decode c_Mo_isStored 35 = .ok (.iaload, 1) := by decide +kernel
theorem d_Mo_isStored_36 : decode c_Mo_isStored 36 = .ok (.aload_n 0, 1) := by decide +kernel
theorem d_Mo_isStored_37 : decode c_Mo_isStored 37 = .ok (.getfield 46, 3) := by decide +kernel
theorem d_Mo_isStored_40 : decode c_Mo_isStored 40 = .ok (.iload_n 2, 1) := by decide +kernel
theorem d_Mo_isStored_41 : decode c_Mo_isStored 41 = .ok (.iaload, 1) := by decide +kernel
theorem d_Mo_isStored_42 : decode c_Mo_isStored 42 = .ok (.aload_n 0, 1) := by decide +kernel
theorem d_Mo_isStored_43 : decode c_Mo_isStored 43 = .ok (.getfield 40, 3) := by decide +kernel
theorem d_Mo_isStored_46 : decode c_Mo_isStored 46 = .ok (.iload_n 2, 1) := by decide +kernel
theorem d_Mo_isStored_47 : decode c_Mo_isStored 47 = .ok (.iaload, 1) := by decide +kernel
theorem d_Mo_isStored_48 : decode c_Mo_isStored 48 = .ok (.invokevirtual 162, 3) := by decide +kernel
theorem d_Mo_isStored_51 : decode c_Mo_isStored 51 = .ok (.istore 7, 2) := by decide +kernel
theorem d_Mo_isStored_53 : decode c_Mo_isStored 53 = .ok (.iload 7, 2) := by decide +kernel
theorem d_Mo_isStored_55 : decode c_Mo_isStored 55 = .ok (.ifCond .eq 7, 3) := by decide +kernel
theorem d_Mo_isStored_58 : decode c_Mo_isStored 58 = .ok (.iconst 1, 1) := by decide +kernel
theorem d_Mo_isStored_59 : decode c_Mo_isStored 59 = .ok (.goto 4, 3) := by decide +kernel
theorem d_Mo_isStored_62 : decode c_Mo_isStored 62 = .ok (.iconst 0, 1) := by decide +kernel
theorem d_Mo_isStored_63 : decode c_Mo_isStored 63 = .ok (.istore 8, 2) := by decide +kernel
theorem d_Mo_isStored_65 : decode c_Mo_isStored 65 = .ok (.aload_n 0, 1) := by decide +kernel
theorem d_Mo_isStored_66 : decode c_Mo_isStored 66 = .ok (.getfield 56, 3) := by decide +kernel
theorem d_Mo_isStored_69 : decode c_Mo_isStored 69 = .ok (.iload_n 2, 1) := by decide +kernel
theorem d_Mo_isStored_70 : decode c_Mo_isStored 70 = .ok (.iload 8, 2) := by decide +kernel
theorem d_Mo_isStored_72 : decode c_Mo_isStored 72 = .ok (.ifCond .ne 10, 3) := by decide +kernel
theorem d_Mo_isStored_75 : decode c_Mo_isStored 75 = .ok (.aload_n 0, 1) := by decide +kernel
theorem d_Mo_isStored_76 : decode c_Mo_isStored 76 = .ok (.getfield 154, 3) := by decide +kernel
theorem d_Mo_isStored_79 : decode c_Mo_isStored 79 = .ok (.ifCond .eq 7, 3) := by decide +kernel
theorem d_Mo_isStored_82 : decode c_Mo_isStored 82 = .ok (.iconst 1, 1) := by decide +kernel
theorem d_Mo_isStored_83 : decode c_Mo_isStored 83 = .ok (.goto 4, 3) := by decide +kernel
theorem d_Mo_isStored_86 : decode c_Mo_isStored 86 = .ok (.iconst 0, 1) := by decide +kernel
theorem d_Mo_isStored_87 : decode c_Mo_isStored 87 = .ok (.bastore, 1) := by decide +kernel
theorem d_Mo_isStored_88 : decode c_Mo_isStored 88 = .ok (.aload_n 0, 1) := by decide +kernel
theorem d_Mo_isStored_89 : decode c_Mo_isStored 89 = .ok (.getfield 56, 3) := by decide +kernel
theorem d_Mo_isStored_92 : decode c_Mo_isStored 92 = .ok (.iload_n 2, 1) := by decide +kernel
theorem d_Mo_isStored_93 : decode c_Mo_isStored 93 = .ok (.baload, 1) := by decide +kernel
theorem d_Mo_isStored_94 : decode c_Mo_isStored 94 = .ok (.ifCond .eq 18, 3) := by decide +kernel
theorem d_Mo_isStored_97 : decode c_Mo_isStored 97 = .ok (.aload_n 0, 1) := by decide +kernel
theorem d_Mo_isStored_98 : decode c_Mo_isStored 98 = .ok (.iload 8, 2) := by decide +kernel
theorem d_Mo_isStored_100 : decode c_Mo_isStored 100 = .ok (.ifCond .eq 8, 3) := by decide +kernel
theorem d_Mo_isStored_103 : decode c_Mo_isStored 103 = .ok (.iload 7, 2) := by decide +kernel
theorem d_Mo_isStored_105 : decode c_Mo_isStored 105 = .ok (.goto 4, 3) := by decide +kernel
theorem d_Mo_isStored_108 : decode c_Mo_isStored 108 = .ok (.iconst 1, 1) := by decide +kernel
theorem d_Mo_isStored_109 : decode c_Mo_isStored 109 = .ok (.putfield 169, 3) := by decide +kernel
theorem d_Mo_isStored_112 : decode c_Mo_isStored 112 = .ok (.iload 8, 2) := by decide +kernel
theorem d_Mo_isStored_114 : decode c_Mo_isStored 114 = .ok (.ifCond .ne 37, 3) := by decide +kernel
theorem d_Mo_isStored_117 : decode c_Mo_isStored 117 = .ok (.aload_n 0, 1) := by decide +kernel
theorem d_Mo_isStored_118 : decode c_Mo_isStored 118 = .ok (.getfield 56, 3) := by decide +kernel
theorem d_Mo_isStored_121 : decode c_Mo_isStored 121 = .ok (.iload_n 2, 1) := by decide +kernel
theorem d_Mo_isStored_122 : decode c_Mo_isStored 122 = .ok (.baload, 1) := by decide +kernel
theorem d_Mo_isStored_123 : decode c_Mo_isStored 123 = .ok (.ifCond .eq 8, 3) := by decide +kernel
theorem d_Mo_isStored_126 : decode c_Mo_isStored 126 = .ok (.iload 4, 2) := by decide +kernel
theorem d_Mo_isStored_128 : decode c_Mo_isStored 128 = .ok (.ifCond .ne 23, 3) := by decide +kernel
theorem d_Mo_isStored_131 : decode c_Mo_isStored 131 = .ok (.aload_n 0, 1) := by decide +kernel
theorem d_Mo_isStored_132 : decode c_Mo_isStored 132 = .ok (.getfield 49, 3) := by decide +kernel
theorem d_Mo_isStored_135 : decode c_Mo_isStored 135 = .ok (.iload_n 2, 1) := by decide +kernel
theorem d_Mo_isStored_136 : decode c_Mo_isStored 136 = .ok (.aload_n 0, 1) := by decide +kernel
theorem d_Mo_isStored_137 : decode c_Mo_isStored 137 = .ok (.getfield 158, 3) := by decide +kernel
theorem d_Mo_isStored_140 : decode c_Mo_isStored 140 = .ok (.aload_n 0, 1) := by decide +kernel
theorem d_Mo_isStored_141 : decode c_Mo_isStored 141 = .ok (.getfield 40, 3) := by decide +kernel
theorem d_Mo_isStored_144 : decode c_Mo_isStored 144 = .ok (.iload_n 2, 1) := by decide +kernel
theorem d_Mo_isStored_145 : decode c_Mo_isStored 145 = .ok (.iaload, 1) := by decide +kernel
theorem d_Mo_isStored_146 : decode c_Mo_isStored 146 = .ok (.invokestatic 146, 3) := by decide +kernel
theorem d_Mo_isStored_149 : decode c_Mo_isStored 149 = .ok (.lrem, 1) := by decide +kernel
theorem d_Mo_isStored_150 : decode c_Mo_isStored 150 = .ok (.lastore, 1) := by decide +kernel
theorem d_Mo_isStored_151 : decode c_Mo_isStored 151 = .ok (.iload_n 1, 1) := by decide +kernel
theorem d_Mo_isStored_152 : decode c_Mo_isStored 152 = .ok (.iconst 4, 1) := by decide +kernel
theorem d_Mo_isStored_153 : decode c_Mo_isStored 153 = .ok (.if_icmp .ne 29, 3) := by decide +kernel
theorem d_Mo_isStored_156 : decode c_Mo_isStored 156 = .ok (.aload_n 0, 1) := by decide +kernel
theorem d_Mo_isStored_157 : decode c_Mo_isStored 157 = .ok (.getfield 53, 3) := by decide +kernel
theorem d_Mo_isStored_160 : decode c_Mo_isStored 160 = .ok (.iload_n 2, 1) := by decide +kernel
theorem d_Mo_isStored_161 : decode c_Mo_isStored 161 = .ok (.aload_n 0, 1) := by decide +kernel
theorem d_Mo_isStored_162 : decode c_Mo_isStored 162 = .ok (.getfield 56, 3) := by decide +kernel
theorem d_Mo_isStored_165 : decode c_Mo_isStored 165 = .ok (.iload_n 2, 1) := by decide +kernel
theorem d_Mo_isStored_166 : decode c_Mo_isStored 166 = .ok (.baload, 1) := by decide +kernel
theorem d_Mo_isStored_167 : decode c_Mo_isStored 167 = .ok (.ifCond .eq 7, 3) := by decide +kernel
theorem d_Mo_isStored_170 : decode c_Mo_isStored 170 = .ok (.lconst 0, 1) := by decide +kernel
theorem d_Mo_isStored_171 : decode c_Mo_isStored 171 = .ok (.goto 10, 3) := by decide +kernel
theorem d_Mo_isStored_174 : decode c_Mo_isStored 174 = .ok (.aload_n 0, 1) := by decide +kernel
theorem d_Mo_isStored_175 : decode c_Mo_isStored 175 = .ok (.iload_n 2, 1) := by decide +kernel
theorem d_Mo_isStored_176 : decode c_Mo_isStored 176 = .ok (.lload 5, 2) := by decide +kernel
theorem d_Mo_isStored_178 : decode c_Mo_isStored 178 = .ok (.invokevirtual 172, 3) := by decide +kernel
theorem d_Mo_isStored_181 : decode c_Mo_isStored 181 = .ok (.lastore, 1) := by decide +kernel
theorem d_Mo_isStored_182 : decode c_Mo_isStored 182 = .ok (.aload_n 0, 1) := by decide +kernel
theorem d_Mo_isStored_183 : decode c_Mo_isStored 183 = .ok (.getfield 56, 3) := by decide +kernel
theorem d_Mo_isStored_186 : decode c_Mo_isStored 186 = .ok (.iload_n 2, 1) := by decide +kernel
theorem d_Mo_isStored_187 : decode c_Mo_isStored 187 = .ok (.baload, 1) := by decide +kernel
theorem d_Mo_isStored_188 : decode c_Mo_isStored 188 = .ok (.ifCond .ne 7, 3) := by decide +kernel
theorem d_Mo_isStored_191 : decode c_Mo_isStored 191 = .ok (.iconst 1, 1) := by decide +kernel
theorem d_Mo_isStored_192 : decode c_Mo_isStored 192 = .ok (.goto 4, 3) := by decide +kernel
theorem d_Mo_isStored_195 : decode c_Mo_isStored 195 = .ok (.iconst 0, 1) := by decide +kernel
theorem d_Mo_isStored_196 : decode c_Mo_isStored 196 = .ok (.ireturn, 1) := by decide +kernel
theorem d_Mo_given_0 : decode c_Mo_given 0 = .ok (.aload_n 0, 1) := by decide +kernel
theorem d_Mo_given_1 : decode c_Mo_given 1 = .ok (.iconst 3, 1) := by decide +kernel
theorem d_Mo_given_2 : decode c_Mo_given 2 = .ok (.iconst 1, 1) := by decide +kernel
theorem d_Mo_given_3 : decode c_Mo_given 3 = .ok (.invokevirtual 81, 3) := by decide +kernel
theorem d_Mo_given_6 : decode c_Mo_given 6 = .ok (.aload_n 0, 1) := by decide +kernel
theorem d_Mo_given_7 : decode c_Mo_given 7 = .ok (.aload_n 0, 1) := by decide +kernel
theorem d_Mo_given_8 : decode c_Mo_given 8 = .ok (.getfield 49, 3) := by decide +kernel
theorem d_Mo_given_11 : decode c_Mo_given 11 = .ok (.iload_n 2, 1) := by decide +kernel
theorem d_Mo_given_12 : decode c_Mo_given 12 = .ok (.laload, 1) := by decide +kernel
theorem d_Mo_given_13 : decode c_Mo_given 13 = .ok (.iconst 0, 1) := by decide +kernel
theorem d_Mo_given_14 : decode c_Mo_given 14 = .ok (.aload_n 0, 1) := by decide +kernel
theorem d_Mo_given_15 : decode c_Mo_given 15 = .ok (.getfield 43, 3) := by decide +kernel
theorem d_Mo_given_18 : decode c_Mo_given 18 = .ok (.iload_n 2, 1) := by decide +kernel
theorem d_Mo_given_19 : decode c_Mo_given 19 = .ok (.iaload, 1) := by decide +kernel
theorem d_Mo_given_20 : decode c_Mo_given 20 = .ok (.isub, 1) := by decide +kernel
theorem d_Mo_given_21 : decode c_Mo_given 21 = .ok (.iconst 0, 1) := by decide +kernel
theorem d_Mo_given_22 : decode c_Mo_given 22 = .ok (.invokevirtual 106, 3) := by decide +kernel
theorem d_Mo_given_25 : decode c_Mo_given 25 = .ok (.iconst 0, 1) := by decide +kernel
theorem d_Mo_given_26 : decode c_Mo_given 26 = .ok (.istore_n 3, 1) := by decide +kernel
theorem d_Mo_given_27 : decode c_Mo_given 27 = .ok (.iload_n 1, 1) := by decide +kernel
theorem d_Mo_given_28 : decode c_Mo_given 28 = .ok (.ifCond .ne 9, 3) := by decide +kernel
theorem d_Mo_given_31 : decode c_Mo_given 31 = .ok (.aload_n 0, 1) := by decide +kernel
theorem d_Mo_given_32 : decode c_Mo_given 32 = .ok (.iconst 3, 1) := by decide +kernel
theorem d_Mo_given_33 : decode c_Mo_given 33 = .ok (.iconst 2, 1) := by decide +kernel
theorem d_Mo_given_34 : decode c_Mo_given 34 = .ok (.invokevirtual 81, 3) := by decide +kernel
theorem d_Mo_given_37 : decode c_Mo_given 37 = .ok (.iload_n 1, 1) := by decide +kernel
theorem d_Mo_given_38 : decode c_Mo_given 38 = .ok (.iconst 1, 1) := by decide +kernel
theorem d_Mo_given_39 : decode c_Mo_given 39 = .ok (.if_icmp .ne 9, 3) := by decide +kernel
theorem d_Mo_given_42 : decode c_Mo_given 42 = .ok (.aload_n 0, 1) := by decide +kernel
theorem d_Mo_given_43 : decode c_Mo_given 43 = .ok (.iconst 0, 1) := by decide +kernel
theorem d_Mo_given_44 : decode c_Mo_given 44 = .ok (.invokevirtual 135, 3) := by decide +kernel
theorem d_Mo_given_47 : decode c_Mo_given 47 = .ok (.istore_n 3, 1) := by decide +kernel
theorem d_Mo_given_48 : decode c_Mo_given 48 = .ok (.iload_n 1, 1) := by decide +kernel
theorem d_Mo_given_49 : decode c_Mo_given 49 = .ok (.iconst 2, 1) := by decide +kernel
theorem d_Mo_given_50 : decode c_Mo_given 50 = .ok (.if_icmp .ne 9, 3) := by decide +kernel
theorem d_Mo_given_53 : decode c_Mo_given 53 = .ok (.aload_n 0, 1) := by decide +kernel
theorem d_Mo_given_54 : decode c_Mo_given 54 = .ok (.iconst 1, 1) := by decide +kernel
theorem d_Mo_given_55 : decode c_Mo_given 55 = .ok (.invokevirtual 135, 3) := by decide +kernel
theorem d_Mo_given_58 : decode c_Mo_given 58 = .ok (.istore_n 3, 1) := by decide +kernel
theorem d_Mo_given_59 : decode c_Mo_given 59 = .ok (.iload_n 1, 1) := by decide +kernel
theorem d_Mo_given_60 : decode c_Mo_given 60 = .ok (.iconst 3, 1) := by decide +kernel
theorem d_Mo_given_61 : decode c_Mo_given 61 = .ok (.if_icmp .ne 9, 3) := by decide +kernel
theorem d_Mo_given_64 : decode c_Mo_given 64 = .ok (.aload_n 0, 1) := by decide +kernel
theorem d_Mo_given_65 : decode c_Mo_given 65 = .ok (.iconst 2, 1) := by decide +kernel
theorem d_Mo_given_66 : decode c_Mo_given 66 = .ok (.invokevirtual 135, 3) := by decide +kernel
theorem d_Mo_given_69 : decode c_Mo_given 69 = .ok (.istore_n 3, 1) := by decide +kernel
theorem d_Mo_given_70 : decode c_Mo_given 70 = .ok (.iload_n 1, 1) := by decide +kernel
theorem d_Mo_given_71 : decode c_Mo_given 71 = .ok (.iconst 4, 1) := by decide +kernel
theorem d_Mo_given_72 : decode c_Mo_given 72 = .ok (.if_icmp .ne 9, 3) := by decide +kernel
theorem d_Mo_given_75 : decode c_Mo_given 75 = .ok (.aload_n 0, 1) := by decide +kernel
theorem d_Mo_given_76 : decode c_Mo_given 76 = .ok (.iconst 3, 1) := by decide +kernel
theorem d_Mo_given_77 : decode c_Mo_given 77 = .ok (.invokevirtual 135, 3) := by decide +kernel
theorem d_Mo_given_80 : decode c_Mo_given 80 = .ok (.istore_n 3, 1) := by decide +kernel
theorem d_Mo_given_81 : decode c_Mo_given 81 = .ok (.aload_n 0, 1) := by decide +kernel
theorem d_Mo_given_82 : decode c_Mo_given 82 = .ok (.iconst 2, 1) := by decide +kernel
theorem d_Mo_given_83 : decode c_Mo_given 83 = .ok (.iconst 4, 1) := by decide +kernel
theorem d_Mo_given_84 : decode c_Mo_given 84 = .ok (.invokevirtual 81, 3) := by decide +kernel
theorem d_Mo_given_87 : decode c_Mo_given 87 = .ok (.iload_n 3, 1) := by decide +kernel
theorem d_Mo_given_88 : decode c_Mo_given 88 = .ok (.ireturn, 1) := by decide +kernel
theorem d_Mo_round_0 : decode c_Mo_round 0 = .ok (.iconst 0, 1) := by decide +kernel
theorem d_Mo_round_1 : decode c_Mo_round 1 = .ok (.iload_n 1, 1) := by decide +kernel
theorem d_Mo_round_2 : decode c_Mo_round 2 = .ok (.isub, 1) := by decide +kernel
theorem d_Mo_round_3 : decode c_Mo_round 3 = .ok (.istore 4, 2) := by decide +kernel
theorem d_Mo_round_5 : decode c_Mo_round 5 = .ok (.iload_n 2, 1) := by decide +kernel
theorem d_Mo_round_6 : decode c_Mo_round 6 = .ok (.bipush 7, 2) := by decide +kernel
theorem d_Mo_round_8 : decode c_Mo_round 8 = .ok (.if_icmp .ne 25, 3) := by decide +kernel
theorem d_Mo_round_11 : decode c_Mo_round 11 = .ok (.aload_n 0, 1) := by decide +kernel
theorem d_Mo_round_12 : decode c_Mo_round 12 = .ok (.getfield 13, 3) := by decide +kernel
theorem d_Mo_round_15 : decode c_Mo_round 15 = .ok (.iconst 4, 1) := by decide +kernel
theorem d_Mo_round_16 : decode c_Mo_round 16 = .ok (.iaload, 1) := by decide +kernel
theorem d_Mo_round_17 : decode c_Mo_round 17 = .ok (.ifCond .le 16, 3) := by decide +kernel
theorem d_Mo_round_20 : decode c_Mo_round 20 = .ok (.aload_n 0, 1) := by decide +kernel
theorem d_Mo_round_21 : decode c_Mo_round 21 = .ok (.getfield 16, 3) := by decide +kernel
theorem d_Mo_round_24 : decode c_Mo_round 24 = .ok (.iconst 4, 1) := by decide +kernel
theorem d_Mo_round_25 : decode c_Mo_round 25 = .ok (.iaload, 1) := by decide +kernel
theorem d_Mo_round_26 : decode c_Mo_round 26 = .ok (.iload 4, 2) := by decide +kernel
theorem d_Mo_round_28 : decode c_Mo_round 28 = .ok (.if_icmp .ge 5, 3) := by decide +kernel
theorem d_Mo_round_31 : decode c_Mo_round 31 = .ok (.iconst 3, 1) := by decide +kernel
theorem d_Mo_round_32 : decode c_Mo_round 32 = .ok (.ireturn, 1) := by decide +kernel
theorem d_Mo_round_33 : decode c_Mo_round 33 = .ok (.aload_n 0, 1) := by decide +kernel
theorem d_Mo_round_34 : decode c_Mo_round 34 = .ok (.iload 4, 2) := by decide +kernel
theorem d_Mo_round_36 : decode c_Mo_round 36 = .ok (.iload_n 2, 1) := by decide +kernel
theorem d_Mo_round_37 : decode c_Mo_round 37 = .ok (.invokevirtual 150, 3) := by decide +kernel
theorem d_Mo_round_40 : decode c_Mo_round 40 = .ok (.ifCond .eq 7, 3) := by decide +kernel
theorem d_Mo_round_43 : decode c_Mo_round 43 = .ok (.iconst 1, 1) := by decide +kernel
theorem d_Mo_round_44 : decode c_Mo_round 44 = .ok (.goto 4, 3) := by decide +kernel
theorem d_Mo_round_47 : decode c_Mo_round 47 = .ok (.iconst 0, 1) := by decide +kernel
theorem d_Mo_round_48 : decode c_Mo_round 48 = .ok (.istore 5, 2) := by decide +kernel
theorem d_Mo_round_50 : decode c_Mo_round 50 = .ok (.aload_n 0, 1) := by decide +kernel
theorem d_Mo_round_51 : decode c_Mo_round 51 = .ok (.iconst 4, 1) := by decide +kernel
theorem d_Mo_round_52 : decode c_Mo_round 52 = .ok (.invokevirtual 87, 3) := by decide +kernel
theorem d_Mo_round_55 : decode c_Mo_round 55 = .ok (.iload 4, 2) := by decide +kernel
theorem d_Mo_round_57 : decode c_Mo_round 57 = .ok (.if_icmp .ge 8, 3) := by decide +kernel
theorem d_Mo_round_60 : decode c_Mo_round 60 = .ok (.iload 4, 2) := by decide +kernel
theorem d_Mo_round_62 : decode c_Mo_round 62 = .ok (.goto 8, 3) := by decide +kernel
theorem d_Mo_round_65 : decode c_Mo_round 65 = .ok (.aload_n 0, 1) := by decide +kernel
theorem d_Mo_round_66 : decode c_Mo_round 66 = .ok (.iconst 4, 1) := by decide +kernel
theorem d_Mo_round_67 : decode c_Mo_round 67 = .ok (.invokevirtual 87, 3) := by decide +kernel
theorem d_Mo_round_70 : decode c_Mo_round 70 = .ok (.istore 6, 2) := by decide +kernel
theorem d_Mo_round_72 : decode c_Mo_round 72 = .ok (.lconst 0, 1) := by decide +kernel
theorem d_Mo_round_73 : decode c_Mo_round 73 = .ok (.lstore 7, 2) := by decide +kernel
theorem d_Mo_round_75 : decode c_Mo_round 75 = .ok (.lconst 1, 1) := by decide +kernel
theorem d_Mo_round_76 : decode c_Mo_round 76 = .ok (.lstore 9, 2) := by decide +kernel
theorem d_Mo_round_78 : decode c_Mo_round 78 = .ok (.aload_n 0, 1) := by decide +kernel
theorem d_Mo_round_79 : decode c_Mo_round 79 = .ok (.iconst 0, 1) := by decide +kernel
theorem d_Mo_round_80 : decode c_Mo_round 80 = .ok (.putfield 154, 3) := by decide +kernel
theorem d_Mo_round_83 : decode c_Mo_round 83 = .ok (.iload 4, 2) := by decide +kernel
theorem d_Mo_round_85 : decode c_Mo_round 85 = .ok (.istore 11, 2) := by decide +kernel
theorem d_Mo_round_87 : decode c_Mo_round 87 = .ok (.iload 11, 2) := by decide +kernel
theorem d_Mo_round_89 : decode c_Mo_round 89 = .ok (.iload 6, 2) := by decide +kernel
theorem d_Mo_round_91 : decode c_Mo_round 91 = .ok (.if_icmp .gt 109, 3) := by decide +kernel
theorem d_Mo_round_94 : decode c_Mo_round 94 = .ok (.aload_n 0, 1) := by decide +kernel
theorem d_Mo_round_95 : decode c_Mo_round 95 = .ok (.iconst 4, 1) := by decide +kernel
theorem d_Mo_round_96 : decode c_Mo_round 96 = .ok (.iload 11, 2) := by decide +kernel
theorem d_Mo_round_98 : decode c_Mo_round 98 = .ok (.invokevirtual 77, 3) := by decide +kernel
theorem d_Mo_round_101 : decode c_Mo_round 101 = .ok (.iload 5, 2) := by decide +kernel
theorem d_Mo_round_103 : decode c_Mo_round 103 = .ok (.iadd, 1) := by decide +kernel
theorem d_Mo_round_104 : decode c_Mo_round 104 = .ok (.istore 12, 2) := by decide +kernel
theorem d_Mo_round_106 : decode c_Mo_round 106 = .ok (.iload 12, 2) := by decide +kernel
theorem d_Mo_round_108 : decode c_Mo_round 108 = .ok (.bipush 10, 2) := by decide +kernel
theorem d_Mo_round_110 : decode c_Mo_round 110 = .ok (.idiv, 1) := by decide +kernel
theorem d_Mo_round_111 : decode c_Mo_round 111 = .ok (.istore 5, 2) := by decide +kernel
theorem d_Mo_round_113 : decode c_Mo_round 113 = .ok (.iload 12, 2) := by decide +kernel
theorem d_Mo_round_115 : decode c_Mo_round 115 = .ok (.bipush 10, 2) := by decide +kernel
theorem d_Mo_round_117 : decode c_Mo_round 117 = .ok (.irem, 1) := by decide +kernel
theorem d_Mo_round_118 : decode c_Mo_round 118 = .ok (.istore 12, 2) := by decide +kernel
theorem d_Mo_round_120 : decode c_Mo_round 120 = .ok (.iload 11, 2) := by decide +kernel
theorem d_Mo_round_122 : decode c_Mo_round 122 = .ok (.iload 4, 2) := by decide +kernel
theorem d_Mo_round_124 : decode c_Mo_round 124 = .ok (.bipush 18, 2) := by decide +kernel
theorem d_Mo_round_126 : decode c_Mo_round 126 = .ok (.iadd, 1) := by decide +kernel
theorem d_Mo_round_127 : decode c_Mo_round 127 = .ok (.if_icmp .ge 14, 3) := by decide +kernel
theorem d_Mo_round_130 : decode c_Mo_round 130 = .ok (.lload 7, 2) := by decide +kernel
theorem d_Mo_round_132 : decode c_Mo_round 132 = .ok (.lload 9, 2) := by decide +kernel
theorem d_Mo_round_134 : decode c_Mo_round 134 = .ok (.iload 12, 2) := by decide +kernel
theorem d_Mo_round_136 : decode c_Mo_round 136 = .ok (.i2l, 1) := by decide +kernel
theorem d_Mo_round_137 : decode c_Mo_round 137 = .ok (.lmul, 1) := by decide +kernel
theorem d_Mo_round_138 : decode c_Mo_round 138 = .ok (.ladd, 1) := by decide +kernel
theorem d_Mo_round_139 : decode c_Mo_round 139 = .ok (.lstore 7, 2) := by decide +kernel
theorem d_Mo_round_141 : decode c_Mo_round 141 = .ok (.iload 11, 2) := by decide +kernel
theorem d_Mo_round_143 : decode c_Mo_round 143 = .ok (.iload 4, 2) := by decide +kernel
theorem d_Mo_round_145 : decode c_Mo_round 145 = .ok (.bipush 18, 2) := by decide +kernel
theorem d_Mo_round_147 : decode c_Mo_round 147 = .ok (.iadd, 1) := by decide +kernel
theorem d_Mo_round_148 : decode c_Mo_round 148 = .ok (.if_icmp .ge 12, 3) := by decide +kernel
theorem d_Mo_round_151 : decode c_Mo_round 151 = .ok (.lload 9, 2) := by decide +kernel
theorem d_Mo_round_153 : decode c_Mo_round 153 = .ok (.ldc2_w 71, 3) := by decide +kernel
theorem d_Mo_round_156 : decode c_Mo_round 156 = .ok (.lmul, 1) := by decide +kernel
theorem d_Mo_round_157 : decode c_Mo_round 157 = .ok (.goto 5, 3) := by decide +kernel
theorem d_Mo_round_160 : decode c_Mo_round 160 = .ok (.lload 9, 2) := by decide +kernel
theorem d_Mo_round_162 : decode c_Mo_round 162 = .ok (.lstore 9, 2) := by decide +kernel
theorem d_Mo_round_164 : decode c_Mo_round 164 = .ok (.aload_n 0, 1) := by decide +kernel
theorem d_Mo_round_165 : decode c_Mo_round 165 = .ok (.aload_n 0, 1) := by decide +kernel
theorem d_Mo_round_166 : decode c_Mo_round 166 = .ok (.getfield 154, 3) := by decide +kernel
theorem d_Mo_round_169 : decode c_Mo_round 169 = .ok (.ifCond .ne 17, 3) := by decide +kernel
theorem d_Mo_round_172 : decode c_Mo_round 172 = .ok (.iload 12, 2) := by decide +kernel
theorem d_Mo_round_174 : decode c_Mo_round 174 = .ok (.ifCond .le 16, 3) := by decide +kernel
theorem d_Mo_round_177 : decode c_Mo_round 177 = .ok (.iload 11, 2) := by decide +kernel
theorem d_Mo_round_179 : decode c_Mo_round 179 = .ok (.iload 4, 2) := by decide +kernel
theorem d_Mo_round_181 : decode c_Mo_round 181 = .ok (.iload_n 3, 1) := by decide +kernel
theorem d_Mo_round_182 : decode c_Mo_round 182 = .ok (.iadd, 1) := by decide +kernel
theorem d_Mo_round_183 : decode c_Mo_round 183 = .ok (.if_icmp .lt 7, 3) := by decide +kernel
theorem d_Mo_round_186 : decode c_Mo_round 186 = .ok (.iconst 1, 1) := by decide +kernel
theorem d_Mo_round_187 : decode c_Mo_round 187 = .ok (.goto 4, 3) := by decide +kernel
theorem d_Mo_round_190 : decode c_Mo_round 190 = .ok (.iconst 0, 1) := by decide +kernel
theorem d_Mo_round_191 : decode c_Mo_round 191 = .ok (.putfield 154, 3) := by decide +kernel
theorem d_Mo_round_194 : decode c_Mo_round 194 = .ok (.iinc 11 1, 3) := by decide +kernel
theorem d_Mo_round_197 : decode c_Mo_round 197 = .ok (.goto (-110), 3) := by decide +kernel
theorem d_Mo_round_200 : decode c_Mo_round 200 = .ok (.aload_n 0, 1) := by decide +kernel
theorem d_Mo_round_201 : decode c_Mo_round 201 = .ok (.aload_n 0, 1) := by decide +kernel
theorem d_Mo_round_202 : decode c_Mo_round 202 = .ok (.getfield 19, 3) := by decide +kernel
theorem d_Mo_round_205 : decode c_Mo_round 205 = .ok (.iconst 4, 1) := by decide +kernel
theorem d_Mo_round_206 : decode c_Mo_round 206 = .ok (.iaload, 1) := by decide +kernel
theorem d_Mo_round_207 : decode c_Mo_round 207 = .ok (.ifCond .ge 10, 3) := by decide +kernel
theorem d_Mo_round_210 : decode c_Mo_round 210 = .ok (.lconst 0, 1) := by decide +kernel
theorem d_Mo_round_211 : decode c_Mo_round 211 = .ok (.lload 7, 2) := by decide +kernel
theorem d_Mo_round_213 : decode c_Mo_round 213 = .ok (.lsub, 1) := by decide +kernel
theorem d_Mo_round_214 : decode c_Mo_round 214 = .ok (.goto 5, 3) := by decide +kernel
theorem d_Mo_round_217 : decode c_Mo_round 217 = .ok (.lload 7, 2) := by decide +kernel
theorem d_Mo_round_219 : decode c_Mo_round 219 = .ok (.putfield 158, 3) := by decide +kernel
theorem d_Mo_round_222 : decode c_Mo_round 222 = .ok (.iconst 0, 1) := by decide +kernel
theorem d_Mo_round_223 : decode c_Mo_round 223 = .ok (.ireturn, 1) := by decide +kernel
theorem d_Mo_goesUp_0 : decode c_Mo_goesUp 0 = .ok (.aload_n 0, 1) := by decide +kernel
theorem d_Mo_goesUp_1 : decode c_Mo_goesUp 1 = .ok (.getfield 13, 3) := by decide +kernel
theorem d_Mo_goesUp_4 : decode c_Mo_goesUp 4 = .ok (.iconst 4, 1) := by decide +kernel
theorem d_Mo_goesUp_5 : decode c_Mo_goesUp 5 = .ok (.iaload, 1) := by decide +kernel
theorem d_Mo_goesUp_6 : decode c_Mo_goesUp 6 = .ok (.ifCond .eq 13, 3) := by decide +kernel
theorem d_Mo_goesUp_9 : decode c_Mo_goesUp 9 = .ok (.aload_n 0, 1) := by decide +kernel
theorem d_Mo_goesUp_10 : decode c_Mo_goesUp 10 = .ok (.getfield 16, 3) := by decide +kernel
theorem d_Mo_goesUp_13 : decode c_Mo_goesUp 13 = .ok (.iconst 4, 1) := by decide +kernel
theorem d_Mo_goesUp_14 : decode c_Mo_goesUp 14 = .ok (.iaload, 1) := by decide +kernel
theorem d_Mo_goesUp_15 : decode c_Mo_goesUp 15 = .ok (.iload_n 1, 1) := by decide +kernel
theorem d_Mo_goesUp_16 : decode c_Mo_goesUp 16 = .ok (.if_icmp .lt 7, 3) := by decide +kernel
theorem d_Mo_goesUp_19 : decode c_Mo_goesUp 19 = .ok (.iconst 1, 1) := by decide +kernel
theorem d_Mo_goesUp_20 : decode c_Mo_goesUp 20 = .ok (.goto 4, 3) := by decide +kernel
theorem d_Mo_goesUp_23 : decode c_Mo_goesUp 23 = .ok (.iconst 0, 1) := by decide +kernel
theorem d_Mo_goesUp_24 : decode c_Mo_goesUp 24 = .ok (.istore_n 3, 1) := by decide +kernel
theorem d_Mo_goesUp_25 : decode c_Mo_goesUp 25 = .ok (.iload_n 3, 1) := by decide +kernel
theorem d_Mo_goesUp_26 : decode c_Mo_goesUp 26 = .ok (.ifCond .eq 5, 3) := by decide +kernel
theorem d_Mo_goesUp_29 : decode c_Mo_goesUp 29 = .ok (.iconst 0, 1) := by decide +kernel
theorem d_Mo_goesUp_30 : decode c_Mo_goesUp 30 = .ok (.ireturn, 1) := by decide +kernel
theorem d_Mo_goesUp_31 : decode c_Mo_goesUp 31 = .ok (.aload_n 0, 1) := by decide +kernel
theorem d_Mo_goesUp_32 : decode c_Mo_goesUp 32 = .ok (.iconst 4, 1) := by decide +kernel
theorem d_Mo_goesUp_33 : decode c_Mo_goesUp 33 = .ok (.iload_n 1, 1) := by decide +kernel
theorem d_Mo_goesUp_34 : decode c_Mo_goesUp 34 = .ok (.iconst 1, 1) := by decide +kernel
theorem d_Mo_goesUp_35 : decode c_Mo_goesUp 35 = .ok (.isub, 1) := by decide +kernel
theorem d_Mo_goesUp_36 : decode c_Mo_goesUp 36 = .ok (.invokevirtual 77, 3) := by decide +kernel
theorem d_Mo_goesUp_39 : decode c_Mo_goesUp 39 = .ok (.istore 4, 2) := by decide +kernel
theorem d_Mo_goesUp_41 : decode c_Mo_goesUp 41 = .ok (.aload_n 0, 1) := by decide +kernel
theorem d_Mo_goesUp_42 : decode c_Mo_goesUp 42 = .ok (.getfield 16, 3) := by decide +kernel
theorem d_Mo_goesUp_45 : decode c_Mo_goesUp 45 = .ok (.iconst 4, 1) := by decide +kernel
theorem d_Mo_goesUp_46 : decode c_Mo_goesUp 46 = .ok (.iaload, 1) := by decide +kernel
theorem d_Mo_goesUp_47 : decode c_Mo_goesUp 47 = .ok (.iload_n 1, 1) := by decide +kernel
theorem d_Mo_goesUp_48 : decode c_Mo_goesUp 48 = .ok (.iconst 1, 1) := by decide +kernel
theorem d_Mo_goesUp_49 : decode c_Mo_goesUp 49 = .ok (.isub, 1) := by decide +kernel
theorem d_Mo_goesUp_50 : decode c_Mo_goesUp 50 = .ok (.if_icmp .ge 7, 3) := by decide +kernel
theorem d_Mo_goesUp_53 : decode c_Mo_goesUp 53 = .ok (.iconst 1, 1) := by decide +kernel
theorem d_Mo_goesUp_54 : decode c_Mo_goesUp 54 = .ok (.goto 4, 3) := by decide +kernel
theorem d_Mo_goesUp_57 : decode c_Mo_goesUp 57 = .ok (.iconst 0, 1) := by decide +kernel
theorem d_Mo_goesUp_58 : decode c_Mo_goesUp 58 = .ok (.istore 5, 2) := by decide +kernel
theorem d_Mo_goesUp_60 : decode c_Mo_goesUp 60 = .ok (.iload 4, 2) := by decide +kernel
theorem d_Mo_goesUp_62 : decode c_Mo_goesUp 62 = .ok (.iconst 5, 1) := by decide +kernel
theorem d_Mo_goesUp_63 : decode c_Mo_goesUp 63 = .ok (.if_icmp .gt 14, 3) := by decide +kernel
theorem d_Mo_goesUp_66 : decode c_Mo_goesUp 66 = .ok (.iload 4, 2) := by decide +kernel
theorem d_Mo_goesUp_68 : decode c_Mo_goesUp 68 = .ok (.iconst 5, 1) := by decide +kernel
theorem d_Mo_goesUp_69 : decode c_Mo_goesUp 69 = .ok (.if_icmp .ne 12, 3) := by decide +kernel
theorem d_Mo_goesUp_72 : decode c_Mo_goesUp 72 = .ok (.iload 5, 2) := by decide +kernel
theorem d_Mo_goesUp_74 : decode c_Mo_goesUp 74 = .ok (.ifCond .eq 7, 3) := by decide +kernel
theorem d_Mo_goesUp_77 : decode c_Mo_goesUp 77 = .ok (.iconst 1, 1) := by decide +kernel
theorem d_Mo_goesUp_78 : decode c_Mo_goesUp 78 = .ok (.goto 4, 3) := by decide +kernel
theorem d_Mo_goesUp_81 : decode c_Mo_goesUp 81 = .ok (.iconst 0, 1) := by decide +kernel
theorem d_Mo_goesUp_82 : decode c_Mo_goesUp 82 = .ok (.istore 6, 2) := by decide +kernel
theorem d_Mo_goesUp_84 : decode c_Mo_goesUp 84 = .ok (.iload 4, 2) := by decide +kernel
theorem d_Mo_goesUp_86 : decode c_Mo_goesUp 86 = .ok (.iconst 5, 1) := by decide +kernel
theorem d_Mo_goesUp_87 : decode c_Mo_goesUp 87 = .ok (.if_icmp .ne 12, 3) := by decide +kernel
theorem d_Mo_goesUp_90 : decode c_Mo_goesUp 90 = .ok (.iload 5, 2) := by decide +kernel
theorem d_Mo_goesUp_92 : decode c_Mo_goesUp 92 = .ok (.ifCond .ne 7, 3) := by decide +kernel
theorem d_Mo_goesUp_95 : decode c_Mo_goesUp 95 = .ok (.iconst 1, 1) := by decide +kernel
theorem d_Mo_goesUp_96 : decode c_Mo_goesUp 96 = .ok (.goto 4, 3) := by decide +kernel
theorem d_Mo_goesUp_99 : decode c_Mo_goesUp 99 = .ok (.iconst 0, 1) := by decide +kernel
theorem d_Mo_goesUp_100 : decode c_Mo_goesUp 100 = .ok (.istore 7, 2) := by decide +kernel
theorem d_Mo_goesUp_102 : decode c_Mo_goesUp 102 = .ok (.iload_n 2, 1) := by decide +kernel
theorem d_Mo_goesUp_103 : decode c_Mo_goesUp 103 = .ok (.tableswitch 116 1 6 #[37, 39, 55, 83, 86, 101], 37) := by decide +kernel
theorem d_Mo_goesUp_140 : decode c_Mo_goesUp 140 = .ok (.iconst 1, 1) := by decide +kernel
theorem d_Mo_goesUp_141 : decode c_Mo_goesUp 141 = .ok (.ireturn, 1) := by decide +kernel
theorem d_Mo_goesUp_142 : decode c_Mo_goesUp 142 = .ok (.iload 6, 2) := by decide +kernel
theorem d_Mo_goesUp_144 : decode c_Mo_goesUp 144 = .ok (.ifCond .ne 8, 3) := by decide +kernel
theorem d_Mo_goesUp_147 : decode c_Mo_goesUp 147 = .ok (.iload 7, 2) := by decide +kernel
theorem d_Mo_goesUp_149 : decode c_Mo_goesUp 149 = .ok (.ifCond .eq 7, 3) := by decide +kernel
theorem d_Mo_goesUp_152 : decode c_Mo_goesUp 152 = .ok (.iconst 1, 1) := by decide +kernel
theorem d_Mo_goesUp_153 : decode c_Mo_goesUp 153 = .ok (.goto 4, 3) := by decide +kernel
theorem d_Mo_goesUp_156 : decode c_Mo_goesUp 156 = .ok (.iconst 0, 1) := by decide +kernel
theorem d_Mo_goesUp_157 : decode c_Mo_goesUp 157 = .ok (.ireturn, 1) := by decide +kernel
theorem d_Mo_goesUp_158 : decode c_Mo_goesUp 158 = .ok (.iload 6, 2) := by decide +kernel
theorem d_Mo_goesUp_160 : decode c_Mo_goesUp 160 = .ok (.ifCond .ne 20, 3) := by decide +kernel
theorem d_Mo_goesUp_163 : decode c_Mo_goesUp 163 = .ok (.iload 7, 2) := by decide +kernel
theorem d_Mo_goesUp_165 : decode c_Mo_goesUp 165 = .ok (.ifCond .eq 19, 3) := by decide +kernel
theorem d_Mo_goesUp_168 : decode c_Mo_goesUp 168 = .ok (.aload_n 0, 1) := by decide +kernel
theorem d_Mo_goesUp_169 : decode c_Mo_goesUp 169 = .ok (.iconst 4, 1) := by decide +kernel
theorem d_Mo_goesUp_170 : decode c_Mo_goesUp 170 = .ok (.iload_n 1, 1) := by decide +kernel
theorem d_Mo_goesUp_171 : decode c_Mo_goesUp 171 = .ok (.invokevirtual 77, 3) := by decide +kernel
theorem d_Mo_goesUp_174 : decode c_Mo_goesUp 174 = .ok (.iconst 2, 1) := by decide +kernel
theorem d_Mo_goesUp_175 : decode c_Mo_goesUp 175 = .ok (.irem, 1) := by decide +kernel
theorem d_Mo_goesUp_176 : decode c_Mo_goesUp 176 = .ok (.iconst 1, 1) := by decide +kernel
theorem d_Mo_goesUp_177 : decode c_Mo_goesUp 177 = .ok (.if_icmp .ne 7, 3) := by decide +kernel
theorem d_Mo_goesUp_180 : decode c_Mo_goesUp 180 = .ok (.iconst 1, 1) := by decide +kernel
theorem d_Mo_goesUp_181 : decode c_Mo_goesUp 181 = .ok (.goto 4, 3) := by decide +kernel
theorem d_Mo_goesUp_184 : decode c_Mo_goesUp 184 = .ok (.iconst 0, 1) := by decide +kernel
theorem d_Mo_goesUp_185 : decode c_Mo_goesUp 185 = .ok (.ireturn, 1) := by decide +kernel
theorem d_Mo_goesUp_186 : decode c_Mo_goesUp 186 = .ok (.iload 6, 2) := by decide +kernel
theorem d_Mo_goesUp_188 : decode c_Mo_goesUp 188 = .ok (.ireturn, 1) := by decide +kernel
theorem d_Mo_goesUp_189 : decode c_Mo_goesUp 189 = .ok (.aload_n 0, 1) := by decide +kernel
theorem d_Mo_goesUp_190 : decode c_Mo_goesUp 190 = .ok (.getfield 19, 3) := by decide +kernel
theorem d_Mo_goesUp_193 : decode c_Mo_goesUp 193 = .ok (.iconst 4, 1) := by decide +kernel
theorem d_Mo_goesUp_194 : decode c_Mo_goesUp 194 = .ok (.iaload, 1) := by decide +kernel
theorem d_Mo_goesUp_195 : decode c_Mo_goesUp 195 = .ok (.ifCond .le 7, 3) := by decide +kernel
theorem d_Mo_goesUp_198 : decode c_Mo_goesUp 198 = .ok (.iconst 1, 1) := by decide +kernel
theorem d_Mo_goesUp_199 : decode c_Mo_goesUp 199 = .ok (.goto 4, 3) := by decide +kernel
theorem d_Mo_goesUp_202 : decode c_Mo_goesUp 202 = .ok (.iconst 0, 1) := by decide +kernel
theorem d_Mo_goesUp_203 : decode c_Mo_goesUp 203 = .ok (.ireturn, 1) := by decide +kernel
theorem d_Mo_goesUp_204 : decode c_Mo_goesUp 204 = .ok (.aload_n 0, 1) := by decide +kernel
theorem d_Mo_goesUp_205 : decode c_Mo_goesUp 205 = .ok (.getfield 19, 3) := by decide +kernel
theorem d_Mo_goesUp_208 : decode c_Mo_goesUp 208 = .ok (.iconst 4, 1) := by decide +kernel
theorem d_Mo_goesUp_209 : decode c_Mo_goesUp 209 = .ok (.iaload, 1) := by decide +kernel
theorem d_Mo_goesUp_210 : decode c_Mo_goesUp 210 = .ok (.ifCond .ge 7, 3) := by decide +kernel
theorem d_Mo_goesUp_213 : decode c_Mo_goesUp 213 = .ok (.iconst 1, 1) := by decide +kernel
theorem d_Mo_goesUp_214 : decode c_Mo_goesUp 214 = .ok (.goto 4, 3) := by decide +kernel
theorem d_Mo_goesUp_217 : decode c_Mo_goesUp 217 = .ok (.iconst 0, 1) := by decide +kernel
theorem d_Mo_goesUp_218 : decode c_Mo_goesUp 218 = .ok (.ireturn, 1) := by decide +kernel
theorem d_Mo_goesUp_219 : decode c_Mo_goesUp 219 = .ok (.iconst 0, 1) := by decide +kernel
theorem d_Mo_goesUp_220 : decode c_Mo_goesUp 220 = .ok (.ireturn, 1) := by decide +kernel
theorem d_Mo_left_0 : decode c_Mo_left 0 = .ok (.aload_n 0, 1) := by decide +kernel
theorem d_Mo_left_1 : decode c_Mo_left 1 = .ok (.aload_n 0, 1) := by decide +kernel
theorem d_Mo_left_2 : decode c_Mo_left 2 = .ok (.getfield 43, 3) := by decide +kernel
theorem d_Mo_left_5 : decode c_Mo_left 5 = .ok (.iload_n 1, 1) := by decide +kernel
theorem d_Mo_left_6 : decode c_Mo_left 6 = .ok (.iaload, 1) := by decide +kernel
theorem d_Mo_left_7 : decode c_Mo_left 7 = .ok (.iconst 0, 1) := by decide +kernel
theorem d_Mo_left_8 : decode c_Mo_left 8 = .ok (.bipush 18, 2) := by decide +kernel
theorem d_Mo_left_10 : decode c_Mo_left 10 = .ok (.invokevirtual 162, 3) := by decide +kernel
theorem d_Mo_left_13 : decode c_Mo_left 13 = .ok (.ifCond .eq 5, 3) := by decide +kernel
theorem d_Mo_left_16 : decode c_Mo_left 16 = .ok (.lconst 0, 1) := by decide +kernel
theorem d_Mo_left_17 : decode c_Mo_left 17 = .ok (.lreturn, 1) := by decide +kernel
theorem d_Mo_left_18 : decode c_Mo_left 18 = .ok (.aload_n 0, 1) := by decide +kernel
theorem d_Mo_left_19 : decode c_Mo_left 19 = .ok (.iconst 4, 1) := by decide +kernel
theorem d_Mo_left_20 : decode c_Mo_left 20 = .ok (.iconst 1, 1) := by decide +kernel
theorem d_Mo_left_21 : decode c_Mo_left 21 = .ok (.invokevirtual 81, 3) := by decide +kernel
theorem d_Mo_left_24 : decode c_Mo_left 24 = .ok (.iconst 0, 1) := by decide +kernel
theorem d_Mo_left_25 : decode c_Mo_left 25 = .ok (.aload_n 0, 1) := by decide +kernel
theorem d_Mo_left_26 : decode c_Mo_left 26 = .ok (.getfield 43, 3) := by decide +kernel
theorem d_Mo_left_29 : decode c_Mo_left 29 = .ok (.iload_n 1, 1) := by decide +kernel
theorem d_Mo_left_30 : decode c_Mo_left 30 = .ok (.iaload, 1) := by decide +kernel
theorem d_Mo_left_31 : decode c_Mo_left 31 = .ok (.isub, 1) := by decide +kernel
theorem d_Mo_left_32 : decode c_Mo_left 32 = .ok (.istore 4, 2) := by decide +kernel
theorem d_Mo_left_34 : decode c_Mo_left 34 = .ok (.aload_n 0, 1) := by decide +kernel
theorem d_Mo_left_35 : decode c_Mo_left 35 = .ok (.getfield 13, 3) := by decide +kernel
theorem d_Mo_left_38 : decode c_Mo_left 38 = .ok (.iconst 1, 1) := by decide +kernel
theorem d_Mo_left_39 : decode c_Mo_left 39 = .ok (.iaload, 1) := by decide +kernel
theorem d_Mo_left_40 : decode c_Mo_left 40 = .ok (.ifCond .le 55, 3) := by decide +kernel
theorem d_Mo_left_43 : decode c_Mo_left 43 = .ok (.aload_n 0, 1) := by decide +kernel
theorem d_Mo_left_44 : decode c_Mo_left 44 = .ok (.getfield 16, 3) := by decide +kernel
theorem d_Mo_left_47 : decode c_Mo_left 47 = .ok (.iconst 1, 1) := by decide +kernel
theorem d_Mo_left_48 : decode c_Mo_left 48 = .ok (.iaload, 1) := by decide +kernel
theorem d_Mo_left_49 : decode c_Mo_left 49 = .ok (.iload 4, 2) := by decide +kernel
theorem d_Mo_left_51 : decode c_Mo_left 51 = .ok (.if_icmp .ge 44, 3) := by decide +kernel
theorem d_Mo_left_54 : decode c_Mo_left 54 = .ok (.aload_n 0, 1) := by decide +kernel
theorem d_Mo_left_55 : decode c_Mo_left 55 = .ok (.iconst 1, 1) := by decide +kernel
theorem d_Mo_left_56 : decode c_Mo_left 56 = .ok (.iload 4, 2) := by decide +kernel
theorem d_Mo_left_58 : decode c_Mo_left 58 = .ok (.aload_n 0, 1) := by decide +kernel
theorem d_Mo_left_59 : decode c_Mo_left 59 = .ok (.getfield 16, 3) := by decide +kernel
theorem d_Mo_left_62 : decode c_Mo_left 62 = .ok (.iconst 1, 1) := by decide +kernel
theorem d_Mo_left_63 : decode c_Mo_left 63 = .ok (.iaload, 1) := by decide +kernel
theorem d_Mo_left_64 : decode c_Mo_left 64 = .ok (.isub, 1) := by decide +kernel
theorem d_Mo_left_65 : decode c_Mo_left 65 = .ok (.aload_n 0, 1) := by decide +kernel
theorem d_Mo_left_66 : decode c_Mo_left 66 = .ok (.getfield 13, 3) := by decide +kernel
theorem d_Mo_left_69 : decode c_Mo_left 69 = .ok (.iconst 1, 1) := by decide +kernel
theorem d_Mo_left_70 : decode c_Mo_left 70 = .ok (.iaload, 1) := by decide +kernel
theorem d_Mo_left_71 : decode c_Mo_left 71 = .ok (.if_icmp .le 12, 3) := by decide +kernel
theorem d_Mo_left_74 : decode c_Mo_left 74 = .ok (.aload_n 0, 1) := by decide +kernel
theorem d_Mo_left_75 : decode c_Mo_left 75 = .ok (.getfield 13, 3) := by decide +kernel
theorem d_Mo_left_78 : decode c_Mo_left 78 = .ok (.iconst 1, 1) := by decide +kernel
theorem d_Mo_left_79 : decode c_Mo_left 79 = .ok (.iaload, 1) := by decide +kernel
theorem d_Mo_left_80 : decode c_Mo_left 80 = .ok (.goto 12, 3) := by decide +kernel
theorem d_Mo_left_83 : decode c_Mo_left 83 = .ok (.iload 4, 2) := by decide +kernel
theorem d_Mo_left_85 : decode c_Mo_left 85 = .ok (.aload_n 0, 1) := by decide +kernel
theorem d_Mo_left_86 : decode c_Mo_left 86 = .ok (.getfield 16, 3) := by decide +kernel
theorem d_Mo_left_89 : decode c_Mo_left 89 = .ok (.iconst 1, 1) := by decide +kernel
theorem d_Mo_left_90 : decode c_Mo_left 90 = .ok (.iaload, 1) := by decide +kernel
theorem d_Mo_left_91 : decode c_Mo_left 91 = .ok (.isub, 1) := by decide +kernel
theorem d_Mo_left_92 : decode c_Mo_left 92 = .ok (.invokevirtual 73, 3) := by decide +kernel
theorem d_Mo_left_95 : decode c_Mo_left 95 = .ok (.aload_n 0, 1) := by decide +kernel
theorem d_Mo_left_96 : decode c_Mo_left 96 = .ok (.getfield 13, 3) := by decide +kernel
theorem d_Mo_left_99 : decode c_Mo_left 99 = .ok (.iconst 1, 1) := by decide +kernel
theorem d_Mo_left_100 : decode c_Mo_left 100 = .ok (.iaload, 1) := by decide +kernel
theorem d_Mo_left_101 : decode c_Mo_left 101 = .ok (.ifCond .ne 8, 3) := by decide +kernel
theorem d_Mo_left_104 : decode c_Mo_left 104 = .ok (.aload_n 0, 1) := by decide +kernel
theorem d_Mo_left_105 : decode c_Mo_left 105 = .ok (.iconst 1, 1) := by decide +kernel
theorem d_Mo_left_106 : decode c_Mo_left 106 = .ok (.invokevirtual 67, 3) := by decide +kernel
theorem d_Mo_left_109 : decode c_Mo_left 109 = .ok (.aload_n 0, 1) := by decide +kernel
theorem d_Mo_left_110 : decode c_Mo_left 110 = .ok (.iconst 3, 1) := by decide +kernel
theorem d_Mo_left_111 : decode c_Mo_left 111 = .ok (.iconst 0, 1) := by decide +kernel
theorem d_Mo_left_112 : decode c_Mo_left 112 = .ok (.invokevirtual 81, 3) := by decide +kernel
theorem d_Mo_left_115 : decode c_Mo_left 115 = .ok (.aload_n 0, 1) := by decide +kernel
theorem d_Mo_left_116 : decode c_Mo_left 116 = .ok (.invokevirtual 110, 3) := by decide +kernel
theorem d_Mo_left_119 : decode c_Mo_left 119 = .ok (.ifCond .eq 5, 3) := by decide +kernel
theorem d_Mo_left_122 : decode c_Mo_left 122 = .ok (.lconst 0, 1) := by decide +kernel
theorem d_Mo_left_123 : decode c_Mo_left 123 = .ok (.lreturn, 1) := by decide +kernel
theorem d_Mo_left_124 : decode c_Mo_left 124 = .ok (.aload_n 0, 1) := by decide +kernel
theorem d_Mo_left_125 : decode c_Mo_left 125 = .ok (.iconst 2, 1) := by decide +kernel
theorem d_Mo_left_126 : decode c_Mo_left 126 = .ok (.iconst 1, 1) := by decide +kernel
theorem d_Mo_left_127 : decode c_Mo_left 127 = .ok (.invokevirtual 81, 3) := by decide +kernel
theorem d_Mo_left_130 : decode c_Mo_left 130 = .ok (.aload_n 0, 1) := by decide +kernel
theorem d_Mo_left_131 : decode c_Mo_left 131 = .ok (.getfield 19, 3) := by decide +kernel
theorem d_Mo_left_134 : decode c_Mo_left 134 = .ok (.iconst 1, 1) := by decide +kernel
theorem d_Mo_left_135 : decode c_Mo_left 135 = .ok (.iconst 0, 1) := by decide +kernel
theorem d_Mo_left_136 : decode c_Mo_left 136 = .ok (.aload_n 0, 1) := by decide +kernel
theorem d_Mo_left_137 : decode c_Mo_left 137 = .ok (.getfield 19, 3) := by decide +kernel
theorem d_Mo_left_140 : decode c_Mo_left 140 = .ok (.iconst 1, 1) := by decide +kernel
theorem d_Mo_left_141 : decode c_Mo_left 141 = .ok (.iaload, 1) := by decide +kernel
theorem d_Mo_left_142 : decode c_Mo_left 142 = .ok (.isub, 1) := by decide +kernel
theorem d_Mo_left_143 : decode c_Mo_left 143 = .ok (.iastore, 1) := by decide +kernel
theorem d_Mo_left_144 : decode c_Mo_left 144 = .ok (.aload_n 0, 1) := by decide +kernel
theorem d_Mo_left_145 : decode c_Mo_left 145 = .ok (.lload_n 2, 1) := by decide +kernel
theorem d_Mo_left_146 : decode c_Mo_left 146 = .ok (.iload 4, 2) := by decide +kernel
theorem d_Mo_left_148 : decode c_Mo_left 148 = .ok (.iconst 0, 1) := by decide +kernel
theorem d_Mo_left_149 : decode c_Mo_left 149 = .ok (.invokevirtual 106, 3) := by decide +kernel
theorem d_Mo_left_152 : decode c_Mo_left 152 = .ok (.aload_n 0, 1) := by decide +kernel
theorem d_Mo_left_153 : decode c_Mo_left 153 = .ok (.invokevirtual 122, 3) := by decide +kernel
theorem d_Mo_left_156 : decode c_Mo_left 156 = .ok (.ifCond .eq 5, 3) := by decide +kernel
theorem d_Mo_left_159 : decode c_Mo_left 159 = .ok (.lconst 0, 1) := by decide +kernel
theorem d_Mo_left_160 : decode c_Mo_left 160 = .ok (.lreturn, 1) := by decide +kernel
theorem d_Mo_left_161 : decode c_Mo_left 161 = .ok (.aload_n 0, 1) := by decide +kernel
theorem d_Mo_left_162 : decode c_Mo_left 162 = .ok (.iconst 2, 1) := by decide +kernel
theorem d_Mo_left_163 : decode c_Mo_left 163 = .ok (.iconst 4, 1) := by decide +kernel
theorem d_Mo_left_164 : decode c_Mo_left 164 = .ok (.invokevirtual 81, 3) := by decide +kernel
theorem d_Mo_left_167 : decode c_Mo_left 167 = .ok (.aload_n 0, 1) := by decide +kernel
theorem d_Mo_left_168 : decode c_Mo_left 168 = .ok (.aload_n 0, 1) := by decide +kernel
theorem d_Mo_left_169 : decode c_Mo_left 169 = .ok (.getfield 43, 3) := by decide +kernel
theorem d_Mo_left_172 : decode c_Mo_left 172 = .ok (.iload_n 1, 1) := by decide +kernel
theorem d_Mo_left_173 : decode c_Mo_left 173 = .ok (.iaload, 1) := by decide +kernel
theorem d_Mo_left_174 : decode c_Mo_left 174 = .ok (.iconst 0, 1) := by decide +kernel
theorem d_Mo_left_175 : decode c_Mo_left 175 = .ok (.bipush 18, 2) := by decide +kernel
theorem d_Mo_left_177 : decode c_Mo_left 177 = .ok (.invokevirtual 162, 3) := by decide +kernel
theorem d_Mo_left_180 : decode c_Mo_left 180 = .ok (.ifCond .eq 7, 3) := by decide +kernel
theorem d_Mo_left_183 : decode c_Mo_left 183 = .ok (.lconst 0, 1) := by decide +kernel
theorem d_Mo_left_184 : decode c_Mo_left 184 = .ok (.goto 7, 3) := by decide +kernel
theorem d_Mo_left_187 : decode c_Mo_left 187 = .ok (.aload_n 0, 1) := by decide +kernel
theorem d_Mo_left_188 : decode c_Mo_left 188 = .ok (.getfield 158, 3) := by decide +kernel
theorem d_Mo_left_191 : decode c_Mo_left 191 = .ok (.lreturn, 1) := by decide +kernel
theorem d_Mo_stored_0 : decode c_Mo_stored 0 = .ok (.aload_n 0, 1) := by decide +kernel
theorem d_Mo_stored_1 : decode c_Mo_stored 1 = .ok (.iconst 0, 1) := by decide +kernel
theorem d_Mo_stored_2 : decode c_Mo_stored 2 = .ok (.putfield 64, 3) := by decide +kernel
theorem d_Mo_stored_5 : decode c_Mo_stored 5 = .ok (.aload_n 0, 1) := by decide +kernel
theorem d_Mo_stored_6 : decode c_Mo_stored 6 = .ok (.iload_n 1, 1) := by decide +kernel
theorem d_Mo_stored_7 : decode c_Mo_stored 7 = .ok (.invokevirtual 143, 3) := by decide +kernel
theorem d_Mo_stored_10 : decode c_Mo_stored 10 = .ok (.ifCond .eq 12, 3) := by decide +kernel
theorem d_Mo_stored_13 : decode c_Mo_stored 13 = .ok (.aload_n 0, 1) := by decide +kernel
theorem d_Mo_stored_14 : decode c_Mo_stored 14 = .ok (.getfield 49, 3) := by decide +kernel
theorem d_Mo_stored_17 : decode c_Mo_stored 17 = .ok (.iload_n 1, 1) := by decide +kernel
theorem d_Mo_stored_18 : decode c_Mo_stored 18 = .ok (.laload, 1) := by decide +kernel
theorem d_Mo_stored_19 : decode c_Mo_stored 19 = .ok (.goto 4, 3) := by decide +kernel
theorem d_Mo_stored_22 : decode c_Mo_stored 22 = .ok (.lconst 0, 1) := by decide +kernel
theorem d_Mo_stored_23 : decode c_Mo_stored 23 = .ok (.lreturn, 1) := by decide +kernel
theorem d_Mo_error_0 : decode c_Mo_error 0 = .ok (.aload_n 0, 1) := by decide +kernel
theorem d_Mo_error_1 : decode c_Mo_error 1 = .ok (.iconst 0, 1) := by decide +kernel
theorem d_Mo_error_2 : decode c_Mo_error 2 = .ok (.putfield 64, 3) := by decide +kernel
theorem d_Mo_error_5 : decode c_Mo_error 5 = .ok (.aload_n 0, 1) := by decide +kernel
theorem d_Mo_error_6 : decode c_Mo_error 6 = .ok (.iload_n 1, 1) := by decide +kernel
theorem d_Mo_error_7 : decode c_Mo_error 7 = .ok (.invokevirtual 143, 3) := by decide +kernel
theorem d_Mo_error_10 : decode c_Mo_error 10 = .ok (.ifCond .eq 16, 3) := by decide +kernel
theorem d_Mo_error_13 : decode c_Mo_error 13 = .ok (.aload_n 0, 1) := by decide +kernel
theorem d_Mo_error_14 : decode c_Mo_error 14 = .ok (.getfield 56, 3) := by decide +kernel
theorem d_Mo_error_17 : decode c_Mo_error 17 = .ok (.iload_n 1, 1) := by decide +kernel
theorem d_Mo_error_18 : decode c_Mo_error 18 = .ok (.baload, 1) := by decide +kernel
theorem d_Mo_error_19 : decode c_Mo_error 19 = .ok (.ifCond .eq 7, 3) := by decide +kernel
theorem d_Mo_error_22 : decode c_Mo_error 22 = .ok (.iconst 1, 1) := by decide +kernel
theorem d_Mo_error_23 : decode c_Mo_error 23 = .ok (.goto 4, 3) := by decide +kernel
theorem d_Mo_error_26 : decode c_Mo_error 26 = .ok (.iconst 0, 1) := by decide +kernel
theorem d_Mo_error_27 : decode c_Mo_error 27 = .ok (.ireturn, 1) := by decide +kernel
theorem d_Mo_rest_0 : decode c_Mo_rest 0 = .ok (.aload_n 0, 1) := by decide +kernel
theorem d_Mo_rest_1 : decode c_Mo_rest 1 = .ok (.iconst 0, 1) := by decide +kernel
theorem d_Mo_rest_2 : decode c_Mo_rest 2 = .ok (.putfield 64, 3) := by decide +kernel
theorem d_Mo_rest_5 : decode c_Mo_rest 5 = .ok (.aload_n 0, 1) := by decide +kernel
theorem d_Mo_rest_6 : decode c_Mo_rest 6 = .ok (.iload_n 1, 1) := by decide +kernel
theorem d_Mo_rest_7 : decode c_Mo_rest 7 = .ok (.invokevirtual 143, 3) := by decide +kernel
theorem d_Mo_rest_10 : decode c_Mo_rest 10 = .ok (.ifCond .eq 12, 3) := by decide +kernel
theorem d_Mo_rest_13 : decode c_Mo_rest 13 = .ok (.aload_n 0, 1) := by decide +kernel
theorem d_Mo_rest_14 : decode c_Mo_rest 14 = .ok (.getfield 53, 3) := by decide +kernel
theorem d_Mo_rest_17 : decode c_Mo_rest 17 = .ok (.iload_n 1, 1) := by decide +kernel
theorem d_Mo_rest_18 : decode c_Mo_rest 18 = .ok (.laload, 1) := by decide +kernel
theorem d_Mo_rest_19 : decode c_Mo_rest 19 = .ok (.goto 4, 3) := by decide +kernel
theorem d_Mo_rest_22 : decode c_Mo_rest 22 = .ok (.lconst 0, 1) := by decide +kernel
theorem d_Mo_rest_23 : decode c_Mo_rest 23 = .ok (.lreturn, 1) := by decide +kernel
theorem d_Mo_raised_0 : decode c_Mo_raised 0 = .ok (.aload_n 0, 1) := by decide +kernel
theorem d_Mo_raised_1 : decode c_Mo_raised 1 = .ok (.iconst 0, 1) := by decide +kernel
theorem d_Mo_raised_2 : decode c_Mo_raised 2 = .ok (.putfield 64, 3) := by decide +kernel
theorem d_Mo_raised_5 : decode c_Mo_raised 5 = .ok (.aload_n 0, 1) := by decide +kernel
theorem d_Mo_raised_6 : decode c_Mo_raised 6 = .ok (.getfield 169, 3) := by decide +kernel
theorem d_Mo_raised_9 : decode c_Mo_raised 9 = .ok (.ireturn, 1) := by decide +kernel
