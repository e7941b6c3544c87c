theorem d_Ca_init_0 : decode c_Ca_init 0 = .ok (.aload_n 0, 1) := by decide +kernel
theorem d_Ca_init_1 : decode c_Ca_init 1 = .ok (.invokespecial 3, 3) := by decide +kernel
theorem d_Ca_init_4 : decode c_Ca_init 4 = .ok (.aload_n 0, 1) := by decide +kernel
theorem d_Ca_init_5 : decode c_Ca_init 5 = .ok (.bipush 30, 2) := by decide +kernel
theorem d_Ca_init_7 : decode c_Ca_init 7 = .ok (.newarray .long, 2) := by decide +kernel
theorem d_Ca_init_9 : decode c_Ca_init 9 = .ok (.putfield 11, 3) := by decide +kernel
theorem d_Ca_init_12 : decode c_Ca_init 12 = .ok (.aload_n 0, 1) := by decide +kernel
theorem d_Ca_init_13 : decode c_Ca_init 13 = .ok (.iconst 5, 1) := by decide +kernel
theorem d_Ca_init_14 : decode c_Ca_init 14 = .ok (.newarray .long, 2) := by decide +kernel
theorem d_Ca_init_16 : decode c_Ca_init 16 = .ok (.putfield 17, 3) := by decide +kernel
theorem d_Ca_init_19 : decode c_Ca_init 19 = .ok (.aload_n 0, 1) := by decide +kernel
theorem d_Ca_init_20 : decode c_Ca_init 20 = .ok (.new 15, 3) := by decide +kernel
theorem d_Ca_init_23 : decode c_Ca_init 23 = .ok (.dup, 1) := by decide +kernel
theorem d_Ca_init_24 : decode c_Ca_init 24 = .ok (.invokespecial 20, 3) := by decide +kernel
theorem d_Ca_init_27 : decode c_Ca_init 27 = .ok (.putfield 21, 3) := by decide +kernel
theorem d_Ca_init_30 : decode c_Ca_init 30 = .ok (.aload_n 0, 1) := by decide +kernel
theorem d_Ca_init_31 : decode c_Ca_init 31 = .ok (.iload_n 1, 1) := by decide +kernel
theorem d_Ca_init_32 : decode c_Ca_init 32 = .ok (.putfield 25, 3) := by decide +kernel
theorem d_Ca_init_35 : decode c_Ca_init 35 = .ok (.aload_n 0, 1) := by decide +kernel
theorem d_Ca_init_36 : decode c_Ca_init 36 = .ok (.getfield 21, 3) := by decide +kernel
theorem d_Ca_init_39 : decode c_Ca_init 39 = .ok (.lconst 1, 1) := by decide +kernel
theorem d_Ca_init_40 : decode c_Ca_init 40 = .ok (.iconst 0, 1) := by decide +kernel
theorem d_Ca_init_41 : decode c_Ca_init 41 = .ok (.invokevirtual 29, 3) := by decide +kernel
theorem d_Ca_init_44 : decode c_Ca_init 44 = .ok (.return_, 1) := by decide +kernel
theorem d_Ca_power_0 : decode c_Ca_power 0 = .ok (.aload_n 1, 1) := by decide +kernel
theorem d_Ca_power_1 : decode c_Ca_power 1 = .ok (.aload_n 2, 1) := by decide +kernel
theorem d_Ca_power_2 : decode c_Ca_power 2 = .ok (.aload_n 3, 1) := by decide +kernel
theorem d_Ca_power_3 : decode c_Ca_power 3 = .ok (.invokestatic 33, 3) := by decide +kernel
theorem d_Ca_power_6 : decode c_Ca_power 6 = .ok (.ifCond .eq 4, 3) := by decide +kernel
theorem d_Ca_power_9 : decode c_Ca_power 9 = .ok (.return_, 1) := by decide +kernel
theorem d_Ca_power_10 : decode c_Ca_power 10 = .ok (.aload_n 3, 1) := by decide +kernel
theorem d_Ca_power_11 : decode c_Ca_power 11 = .ok (.invokestatic 81, 3) := by decide +kernel
theorem d_Ca_power_14 : decode c_Ca_power 14 = .ok (.istore 4, 2) := by decide +kernel
theorem d_Ca_power_16 : decode c_Ca_power 16 = .ok (.iload 4, 2) := by decide +kernel
theorem d_Ca_power_18 : decode c_Ca_power 18 = .ok (.bipush 100, 2) := by decide +kernel
theorem d_Ca_power_20 : decode c_Ca_power 20 = .ok (.if_icmp .eq 15, 3) := by decide +kernel
theorem d_Ca_power_23 : decode c_Ca_power 23 = .ok (.iload 4, 2) := by decide +kernel
theorem d_Ca_power_25 : decode c_Ca_power 25 = .ok (.ifCond .ne 16, 3) := by decide +kernel
theorem d_Ca_power_28 : decode c_Ca_power 28 = .ok (.aload_n 2, 1) := by decide +kernel
theorem d_Ca_power_29 : decode c_Ca_power 29 = .ok (.getfield 37, 3) := by decide +kernel
theorem d_Ca_power_32 : decode c_Ca_power 32 = .ok (.ifCond .ne 9, 3) := by decide +kernel
theorem d_Ca_power_35 : decode c_Ca_power 35 = .ok (.aload_n 1, 1) := by decide +kernel
theorem d_Ca_power_36 : decode c_Ca_power 36 = .ok (.iconst 1, 1) := by decide +kernel
theorem d_Ca_power_37 : decode c_Ca_power 37 = .ok (.invokevirtual 67, 3) := by decide +kernel
theorem d_Ca_power_40 : decode c_Ca_power 40 = .ok (.return_, 1) := by decide +kernel
theorem d_Ca_power_41 : decode c_Ca_power 41 = .ok (.iload 4, 2) := by decide +kernel
theorem d_Ca_power_43 : decode c_Ca_power 43 = .ok (.ifCond .ge 16, 3) := by decide +kernel
theorem d_Ca_power_46 : decode c_Ca_power 46 = .ok (.aload_n 2, 1) := by decide +kernel
theorem d_Ca_power_47 : decode c_Ca_power 47 = .ok (.getfield 37, 3) := by decide +kernel
theorem d_Ca_power_50 : decode c_Ca_power 50 = .ok (.ifCond .ne 9, 3) := by decide +kernel
theorem d_Ca_power_53 : decode c_Ca_power 53 = .ok (.aload_n 1, 1) := by decide +kernel
theorem d_Ca_power_54 : decode c_Ca_power 54 = .ok (.iconst 2, 1) := by decide +kernel
theorem d_Ca_power_55 : decode c_Ca_power 55 = .ok (.invokevirtual 67, 3) := by decide +kernel
theorem d_Ca_power_58 : decode c_Ca_power 58 = .ok (.return_, 1) := by decide +kernel
theorem d_Ca_power_59 : decode c_Ca_power 59 = .ok (.aload_n 1, 1) := by decide +kernel
theorem d_Ca_power_60 : decode c_Ca_power 60 = .ok (.aload_n 0, 1) := by decide +kernel
theorem d_Ca_power_61 : decode c_Ca_power 61 = .ok (.getfield 21, 3) := by decide +kernel
theorem d_Ca_power_64 : decode c_Ca_power 64 = .ok (.invokevirtual 84, 3) := by decide +kernel
theorem d_Ca_power_67 : decode c_Ca_power 67 = .ok (.iload 4, 2) := by decide +kernel
theorem d_Ca_power_69 : decode c_Ca_power 69 = .ok (.invokestatic 88, 3) := by decide +kernel
theorem d_Ca_power_72 : decode c_Ca_power 72 = .ok (.istore 5, 2) := by decide +kernel
theorem d_Ca_power_74 : decode c_Ca_power 74 = .ok (.iload 5, 2) := by decide +kernel
theorem d_Ca_power_76 : decode c_Ca_power 76 = .ok (.ifCond .le 16, 3) := by decide +kernel
theorem d_Ca_power_79 : decode c_Ca_power 79 = .ok (.aload_n 0, 1) := by decide +kernel
theorem d_Ca_power_80 : decode c_Ca_power 80 = .ok (.aload_n 1, 1) := by decide +kernel
theorem d_Ca_power_81 : decode c_Ca_power 81 = .ok (.aload_n 1, 1) := by decide +kernel
theorem d_Ca_power_82 : decode c_Ca_power 82 = .ok (.aload_n 2, 1) := by decide +kernel
theorem d_Ca_power_83 : decode c_Ca_power 83 = .ok (.invokevirtual 94, 3) := by decide +kernel
theorem d_Ca_power_86 : decode c_Ca_power 86 = .ok (.iinc 5 (-1), 3) := by decide +kernel
theorem d_Ca_power_89 : decode c_Ca_power 89 = .ok (.goto (-15), 3) := by decide +kernel
theorem d_Ca_power_92 : decode c_Ca_power 92 = .ok (.iload 4, 2) := by decide +kernel
theorem d_Ca_power_94 : decode c_Ca_power 94 = .ok (.ifCond .ge 13, 3) := by decide +kernel
theorem d_Ca_power_97 : decode c_Ca_power 97 = .ok (.aload_n 0, 1) := by decide +kernel
theorem d_Ca_power_98 : decode c_Ca_power 98 = .ok (.aload_n 1, 1) := by decide +kernel
theorem d_Ca_power_99 : decode c_Ca_power 99 = .ok (.aload_n 0, 1) := by decide +kernel
theorem d_Ca_power_100 : decode c_Ca_power 100 = .ok (.getfield 21, 3) := by decide +kernel
theorem d_Ca_power_103 : decode c_Ca_power 103 = .ok (.aload_n 1, 1) := by decide +kernel
theorem d_Ca_power_104 : decode c_Ca_power 104 = .ok (.invokevirtual 98, 3) := by decide +kernel
theorem d_Ca_power_107 : decode c_Ca_power 107 = .ok (.return_, 1) := by decide +kernel
theorem d_Ca_passOn_0 : decode c_Ca_passOn 0 = .ok (.aload_n 1, 1) := by decide +kernel
theorem d_Ca_passOn_1 : decode c_Ca_passOn 1 = .ok (.getfield 109, 3) := by decide +kernel
theorem d_Ca_passOn_4 : decode c_Ca_passOn 4 = .ok (.ifCond .eq 10, 3) := by decide +kernel
theorem d_Ca_passOn_7 : decode c_Ca_passOn 7 = .ok (.aload_n 1, 1) := by decide +kernel
theorem d_Ca_passOn_8 : decode c_Ca_passOn 8 = .ok (.getfield 109, 3) := by decide +kernel
theorem d_Ca_passOn_11 : decode c_Ca_passOn 11 = .ok (.goto 7, 3) := by decide +kernel
theorem d_Ca_passOn_14 : decode c_Ca_passOn 14 = .ok (.aload_n 2, 1) := by decide +kernel
theorem d_Ca_passOn_15 : decode c_Ca_passOn 15 = .ok (.getfield 109, 3) := by decide +kernel
theorem d_Ca_passOn_18 : decode c_Ca_passOn 18 = .ok (.istore_n 3, 1) := by decide +kernel
theorem d_Ca_passOn_19 : decode c_Ca_passOn 19 = .ok (.iload_n 3, 1) := by decide +kernel
theorem d_Ca_passOn_20 : decode c_Ca_passOn 20 = .ok (.ifCond .ne 5, 3) := by decide +kernel
theorem d_Ca_passOn_23 : decode c_Ca_passOn 23 = .ok (.iconst 0, 1) := by decide +kernel
theorem d_Ca_passOn_24 : decode c_Ca_passOn 24 = .ok (.ireturn, 1) := by decide +kernel
theorem d_Ca_passOn_25 : decode c_Ca_passOn 25 = .ok (.aload_n 0, 1) := by decide +kernel
theorem d_Ca_passOn_26 : decode c_Ca_passOn 26 = .ok (.iload_n 3, 1) := by decide +kernel
theorem d_Ca_passOn_27 : decode c_Ca_passOn 27 = .ok (.invokevirtual 67, 3) := by decide +kernel
theorem d_Ca_passOn_30 : decode c_Ca_passOn 30 = .ok (.iconst 1, 1) := by decide +kernel
theorem d_Ca_passOn_31 : decode c_Ca_passOn 31 = .ok (.ireturn, 1) := by decide +kernel
theorem d_Ca_powerOf_0 : decode c_Ca_powerOf 0 = .ok (.aload_n 0, 1) := by decide +kernel
theorem d_Ca_powerOf_1 : decode c_Ca_powerOf 1 = .ok (.getfield 37, 3) := by decide +kernel
theorem d_Ca_powerOf_4 : decode c_Ca_powerOf 4 = .ok (.ifCond .ne 5, 3) := by decide +kernel
theorem d_Ca_powerOf_7 : decode c_Ca_powerOf 7 = .ok (.iconst 0, 1) := by decide +kernel
theorem d_Ca_powerOf_8 : decode c_Ca_powerOf 8 = .ok (.ireturn, 1) := by decide +kernel
theorem d_Ca_powerOf_9 : decode c_Ca_powerOf 9 = .ok (.aload_n 0, 1) := by decide +kernel
theorem d_Ca_powerOf_10 : decode c_Ca_powerOf 10 = .ok (.getfield 64, 3) := by decide +kernel
theorem d_Ca_powerOf_13 : decode c_Ca_powerOf 13 = .ok (.iconst 1, 1) := by decide +kernel
theorem d_Ca_powerOf_14 : decode c_Ca_powerOf 14 = .ok (.if_icmp .gt 10, 3) := by decide +kernel
theorem d_Ca_powerOf_17 : decode c_Ca_powerOf 17 = .ok (.aload_n 0, 1) := by decide +kernel
theorem d_Ca_powerOf_18 : decode c_Ca_powerOf 18 = .ok (.invokevirtual 101, 3) := by decide +kernel
theorem d_Ca_powerOf_21 : decode c_Ca_powerOf 21 = .ok (.ifCond .ge 6, 3) := by decide +kernel
theorem d_Ca_powerOf_24 : decode c_Ca_powerOf 24 = .ok (.bipush 100, 2) := by decide +kernel
theorem d_Ca_powerOf_26 : decode c_Ca_powerOf 26 = .ok (.ireturn, 1) := by decide +kernel
theorem d_Ca_powerOf_27 : decode c_Ca_powerOf 27 = .ok (.aload_n 0, 1) := by decide +kernel
theorem d_Ca_powerOf_28 : decode c_Ca_powerOf 28 = .ok (.getfield 37, 3) := by decide +kernel
theorem d_Ca_powerOf_31 : decode c_Ca_powerOf 31 = .ok (.aload_n 0, 1) := by decide +kernel
theorem d_Ca_powerOf_32 : decode c_Ca_powerOf 32 = .ok (.iconst 0, 1) := by decide +kernel
theorem d_Ca_powerOf_33 : decode c_Ca_powerOf 33 = .ok (.invokevirtual 105, 3) := by decide +kernel
theorem d_Ca_powerOf_36 : decode c_Ca_powerOf 36 = .ok (.l2i, 1) := by decide +kernel
theorem d_Ca_powerOf_37 : decode c_Ca_powerOf 37 = .ok (.imul, 1) := by decide +kernel
theorem d_Ca_powerOf_38 : decode c_Ca_powerOf 38 = .ok (.ireturn, 1) := by decide +kernel
theorem d_Ca_multiply_0 : decode c_Ca_multiply 0 = .ok (.aload_n 1, 1) := by decide +kernel
theorem d_Ca_multiply_1 : decode c_Ca_multiply 1 = .ok (.aload_n 2, 1) := by decide +kernel
theorem d_Ca_multiply_2 : decode c_Ca_multiply 2 = .ok (.aload_n 3, 1) := by decide +kernel
theorem d_Ca_multiply_3 : decode c_Ca_multiply 3 = .ok (.invokestatic 33, 3) := by decide +kernel
theorem d_Ca_multiply_6 : decode c_Ca_multiply 6 = .ok (.ifCond .eq 4, 3) := by decide +kernel
theorem d_Ca_multiply_9 : decode c_Ca_multiply 9 = .ok (.return_, 1) := by decide +kernel
theorem d_Ca_multiply_10 : decode c_Ca_multiply 10 = .ok (.aload_n 0, 1) := by decide +kernel
theorem d_Ca_multiply_11 : decode c_Ca_multiply 11 = .ok (.getfield 11, 3) := by decide +kernel
theorem d_Ca_multiply_14 : decode c_Ca_multiply 14 = .ok (.lconst 0, 1) := by decide +kernel
theorem d_Ca_multiply_15 : decode c_Ca_multiply 15 = .ok (.invokestatic 44, 3) := by decide +kernel
theorem d_Ca_multiply_18 : decode c_Ca_multiply 18 = .ok (.iconst 0, 1) := by decide +kernel
theorem d_Ca_multiply_19 : decode c_Ca_multiply 19 = .ok (.istore 4, 2) := by decide +kernel
theorem d_Ca_multiply_21 : decode c_Ca_multiply 21 = .ok (.iload 4, 2) := by decide +kernel
theorem d_Ca_multiply_23 : decode c_Ca_multiply 23 = .ok (.iconst 4, 1) := by decide +kernel
theorem d_Ca_multiply_24 : decode c_Ca_multiply 24 = .ok (.if_icmp .ge 54, 3) := by decide +kernel
theorem d_Ca_multiply_27 : decode c_Ca_multiply 27 = .ok (.iconst 0, 1) := by decide +kernel
theorem d_Ca_multiply_28 : decode c_Ca_multiply 28 = .ok (.istore 5, 2) := by decide +kernel
theorem d_Ca_multiply_30 : decode c_Ca_multiply 30 = .ok (.iload 5, 2) := by decide +kernel
theorem d_Ca_multiply_32 : decode c_Ca_multiply 32 = .ok (.iconst 4, 1) := by decide +kernel
theorem d_Ca_multiply_33 : decode c_Ca_multiply 33 = .ok (.if_icmp .ge 39, 3) := by decide +kernel
theorem d_Ca_multiply_36 : decode c_Ca_multiply 36 = .ok (.aload_n 0, 1) := by decide +kernel
theorem d_Ca_multiply_37 : decode c_Ca_multiply 37 = .ok (.getfield 11, 3) := by decide +kernel
theorem d_Ca_multiply_40 : decode c_Ca_multiply 40 = .ok (.iload 4, 2) := by decide +kernel
theorem d_Ca_multiply_42 : decode c_Ca_multiply 42 = .ok (.iload 5, 2) := by decide +kernel
theorem d_Ca_multiply_44 : decode c_Ca_multiply 44 = .ok (.iadd, 1) := by decide +kernel
theorem d_Ca_multiply_45 : decode c_Ca_multiply 45 = .ok (.iconst 1, 1) := by decide +kernel
theorem d_Ca_multiply_46 : decode c_Ca_multiply 46 = .ok (.iadd, 1) := by decide +kernel
theorem d_Ca_multiply_47 : decode c_Ca_multiply 47 = .ok (.dup2, 1) := by decide +kernel
theorem d_Ca_multiply_48 : decode c_Ca_multiply 48 = .ok (.laload, 1) := by decide +kernel
theorem d_Ca_multiply_49 : decode c_Ca_multiply 49 = .ok (.aload_n 2, 1) := by decide +kernel
theorem d_Ca_multiply_50 : decode c_Ca_multiply 50 = .ok (.getfield 61, 3) := by decide +kernel
theorem d_Ca_multiply_53 : decode c_Ca_multiply 53 = .ok (.iload 4, 2) := by decide +kernel
theorem d_Ca_multiply_55 : decode c_Ca_multiply 55 = .ok (.laload, 1) := by decide +kernel
theorem d_Ca_multiply_56 : decode c_Ca_multiply 56 = .ok (.aload_n 3, 1) := by decide +kernel
theorem d_Ca_multiply_57 : decode c_Ca_multiply 57 = .ok (.getfield 61, 3) := by decide +kernel
theorem d_Ca_multiply_60 : decode c_Ca_multiply 60 = .ok (.iload 5, 2) := by decide +kernel
theorem d_Ca_multiply_62 : decode c_Ca_multiply 62 = .ok (.laload, 1) := by decide +kernel
theorem d_Ca_multiply_63 : decode c_Ca_multiply 63 = .ok (.lmul, 1) := by decide +kernel
theorem d_Ca_multiply_64 : decode c_Ca_multiply 64 = .ok (.ladd, 1) := by decide +kernel
theorem d_Ca_multiply_65 : decode c_Ca_multiply 65 = .ok (.lastore, 1) := by decide +kernel
theorem d_Ca_multiply_66 : decode c_Ca_multiply 66 = .ok (.iinc 5 1, 3) := by decide +kernel
theorem d_Ca_multiply_69 : decode c_Ca_multiply 69 = .ok (.goto (-39), 3) := by decide +kernel
theorem d_Ca_multiply_72 : decode c_Ca_multiply 72 = .ok (.iinc 4 1, 3) := by decide +kernel
theorem d_Ca_multiply_75 : decode c_Ca_multiply 75 = .ok (.goto (-54), 3) := by decide +kernel
theorem d_Ca_multiply_78 : decode c_Ca_multiply 78 = .ok (.aload_n 0, 1) := by decide +kernel
theorem d_Ca_multiply_79 : decode c_Ca_multiply 79 = .ok (.invokevirtual 54, 3) := by decide +kernel
theorem d_Ca_multiply_82 : decode c_Ca_multiply 82 = .ok (.aload_n 0, 1) := by decide +kernel
theorem d_Ca_multiply_83 : decode c_Ca_multiply 83 = .ok (.aload_n 1, 1) := by decide +kernel
theorem d_Ca_multiply_84 : decode c_Ca_multiply 84 = .ok (.aload_n 2, 1) := by decide +kernel
theorem d_Ca_multiply_85 : decode c_Ca_multiply 85 = .ok (.getfield 37, 3) := by decide +kernel
theorem d_Ca_multiply_88 : decode c_Ca_multiply 88 = .ok (.aload_n 3, 1) := by decide +kernel
theorem d_Ca_multiply_89 : decode c_Ca_multiply 89 = .ok (.getfield 37, 3) := by decide +kernel
theorem d_Ca_multiply_92 : decode c_Ca_multiply 92 = .ok (.imul, 1) := by decide +kernel
theorem d_Ca_multiply_93 : decode c_Ca_multiply 93 = .ok (.aload_n 2, 1) := by decide +kernel
theorem d_Ca_multiply_94 : decode c_Ca_multiply 94 = .ok (.getfield 64, 3) := by decide +kernel
theorem d_Ca_multiply_97 : decode c_Ca_multiply 97 = .ok (.aload_n 3, 1) := by decide +kernel
theorem d_Ca_multiply_98 : decode c_Ca_multiply 98 = .ok (.getfield 64, 3) := by decide +kernel
theorem d_Ca_multiply_101 : decode c_Ca_multiply 101 = .ok (.iadd, 1) := by decide +kernel
theorem d_Ca_multiply_102 : decode c_Ca_multiply 102 = .ok (.iconst 1, 1) := by decide +kernel
theorem d_Ca_multiply_103 : decode c_Ca_multiply 103 = .ok (.iadd, 1) := by decide +kernel
theorem d_Ca_multiply_104 : decode c_Ca_multiply 104 = .ok (.invokevirtual 57, 3) := by decide +kernel
theorem d_Ca_multiply_107 : decode c_Ca_multiply 107 = .ok (.return_, 1) := by decide +kernel
theorem d_Ca_carry_0 : decode c_Ca_carry 0 = .ok (.bipush 29, 2) := by decide +kernel
theorem d_Ca_carry_2 : decode c_Ca_carry 2 = .ok (.istore_n 1, 1) := by decide +kernel
theorem d_Ca_carry_3 : decode c_Ca_carry 3 = .ok (.iload_n 1, 1) := by decide +kernel
theorem d_Ca_carry_4 : decode c_Ca_carry 4 = .ok (.ifCond .le 48, 3) := by decide +kernel
theorem d_Ca_carry_7 : decode c_Ca_carry 7 = .ok (.aload_n 0, 1) := by decide +kernel
theorem d_Ca_carry_8 : decode c_Ca_carry 8 = .ok (.getfield 11, 3) := by decide +kernel
theorem d_Ca_carry_11 : decode c_Ca_carry 11 = .ok (.iload_n 1, 1) := by decide +kernel
theorem d_Ca_carry_12 : decode c_Ca_carry 12 = .ok (.laload, 1) := by decide +kernel
theorem d_Ca_carry_13 : decode c_Ca_carry 13 = .ok (.ldc2_w 115, 3) := by decide +kernel
theorem d_Ca_carry_16 : decode c_Ca_carry 16 = .ok (.invokestatic 117, 3) := by decide +kernel
theorem d_Ca_carry_19 : decode c_Ca_carry 19 = .ok (.lstore_n 2, 1) := by decide +kernel
theorem d_Ca_carry_20 : decode c_Ca_carry 20 = .ok (.aload_n 0, 1) := by decide +kernel
theorem d_Ca_carry_21 : decode c_Ca_carry 21 = .ok (.getfield 11, 3) := by decide +kernel
theorem d_Ca_carry_24 : decode c_Ca_carry 24 = .ok (.iload_n 1, 1) := by decide +kernel
theorem d_Ca_carry_25 : decode c_Ca_carry 25 = .ok (.dup2, 1) := by decide +kernel
theorem d_Ca_carry_26 : decode c_Ca_carry 26 = .ok (.laload, 1) := by decide +kernel
theorem d_Ca_carry_27 : decode c_Ca_carry 27 = .ok (.lload_n 2, 1) := by decide +kernel
theorem d_Ca_carry_28 : decode c_Ca_carry 28 = .ok (.ldc2_w 115, 3) := by decide +kernel
theorem d_Ca_carry_31 : decode c_Ca_carry 31 = .ok (.lmul, 1) := by decide +kernel
theorem d_Ca_carry_32 : decode c_Ca_carry 32 = .ok (.lsub, 1) := by decide +kernel
theorem d_Ca_carry_33 : decode c_Ca_carry 33 = .ok (.lastore, 1) := by decide +kernel
theorem d_Ca_carry_34 : decode c_Ca_carry 34 = .ok (.aload_n 0, 1) := by decide +kernel
theorem d_Ca_carry_35 : decode c_Ca_carry 35 = .ok (.getfield 11, 3) := by decide +kernel
theorem d_Ca_carry_38 : decode c_Ca_carry 38 = .ok (.iload_n 1, 1) := by decide +kernel
theorem d_Ca_carry_39 : decode c_Ca_carry 39 = .ok (.iconst 1, 1) := by decide +kernel
theorem d_Ca_carry_40 : decode c_Ca_carry 40 = .ok (.isub, 1) := by decide +kernel
theorem d_Ca_carry_41 : decode c_Ca_carry 41 = .ok (.dup2, 1) := by decide +kernel
theorem d_Ca_carry_42 : decode c_Ca_carry 42 = .ok (.laload, 1) := by decide +kernel
theorem d_Ca_carry_43 : decode c_Ca_carry 43 = .ok (.lload_n 2, 1) := by decide +kernel
theorem d_Ca_carry_44 : decode c_Ca_carry 44 = .ok (.ladd, 1) := by decide +kernel
theorem d_Ca_carry_45 : decode c_Ca_carry 45 = .ok (.lastore, 1) := by decide +kernel
theorem d_Ca_carry_46 : decode c_Ca_carry 46 = .ok (.iinc 1 (-1), 3) := by decide +kernel
theorem d_Ca_carry_49 : decode c_Ca_carry 49 = .ok (.goto (-46), 3) := by decide +kernel
theorem d_Ca_carry_52 : decode c_Ca_carry 52 = .ok (.return_, 1) := by decide +kernel
theorem d_Ca_settle_0 : decode c_Ca_settle 0 = .ok (.aload_n 1, 1) := by decide +kernel
theorem d_Ca_settle_1 : decode c_Ca_settle 1 = .ok (.invokevirtual 132, 3) := by decide +kernel
theorem d_Ca_settle_4 : decode c_Ca_settle 4 = .ok (.iconst 0, 1) := by decide +kernel
theorem d_Ca_settle_5 : decode c_Ca_settle 5 = .ok (.istore 4, 2) := by decide +kernel
theorem d_Ca_settle_7 : decode c_Ca_settle 7 = .ok (.iload 4, 2) := by decide +kernel
theorem d_Ca_settle_9 : decode c_Ca_settle 9 = .ok (.bipush 30, 2) := by decide +kernel
theorem d_Ca_settle_11 : decode c_Ca_settle 11 = .ok (.if_icmp .ge 21, 3) := by decide +kernel
theorem d_Ca_settle_14 : decode c_Ca_settle 14 = .ok (.aload_n 0, 1) := by decide +kernel
theorem d_Ca_settle_15 : decode c_Ca_settle 15 = .ok (.getfield 11, 3) := by decide +kernel
theorem d_Ca_settle_18 : decode c_Ca_settle 18 = .ok (.iload 4, 2) := by decide +kernel
theorem d_Ca_settle_20 : decode c_Ca_settle 20 = .ok (.laload, 1) := by decide +kernel
theorem d_Ca_settle_21 : decode c_Ca_settle 21 = .ok (.lconst 0, 1) := by decide +kernel
theorem d_Ca_settle_22 : decode c_Ca_settle 22 = .ok (.lcmp, 1) := by decide +kernel
theorem d_Ca_settle_23 : decode c_Ca_settle 23 = .ok (.ifCond .ne 9, 3) := by decide +kernel
theorem d_Ca_settle_26 : decode c_Ca_settle 26 = .ok (.iinc 4 1, 3) := by decide +kernel
theorem d_Ca_settle_29 : decode c_Ca_settle 29 = .ok (.goto (-22), 3) := by decide +kernel
theorem d_Ca_settle_32 : decode c_Ca_settle 32 = .ok (.iload 4, 2) := by decide +kernel
theorem d_Ca_settle_34 : decode c_Ca_settle 34 = .ok (.bipush 30, 2) := by decide +kernel
theorem d_Ca_settle_36 : decode c_Ca_settle 36 = .ok (.if_icmp .ne 4, 3) := by decide +kernel
theorem d_Ca_settle_39 : decode c_Ca_settle 39 = .ok (.return_, 1) := by decide +kernel
theorem d_Ca_settle_40 : decode c_Ca_settle 40 = .ok (.iconst 0, 1) := by decide +kernel
theorem d_Ca_settle_41 : decode c_Ca_settle 41 = .ok (.istore 5, 2) := by decide +kernel
theorem d_Ca_settle_43 : decode c_Ca_settle 43 = .ok (.iload 5, 2) := by decide +kernel
theorem d_Ca_settle_45 : decode c_Ca_settle 45 = .ok (.bipush 7, 2) := by decide +kernel
theorem d_Ca_settle_47 : decode c_Ca_settle 47 = .ok (.if_icmp .ge 28, 3) := by decide +kernel
theorem d_Ca_settle_50 : decode c_Ca_settle 50 = .ok (.aload_n 0, 1) := by decide +kernel
theorem d_Ca_settle_51 : decode c_Ca_settle 51 = .ok (.getfield 11, 3) := by decide +kernel
theorem d_Ca_settle_54 : decode c_Ca_settle 54 = .ok (.iload 4, 2) := by decide +kernel
theorem d_Ca_settle_56 : decode c_Ca_settle 56 = .ok (.laload, 1) := by decide +kernel
theorem d_Ca_settle_57 : decode c_Ca_settle 57 = .ok (.bipush 7, 2) := by decide +kernel
theorem d_Ca_settle_59 : decode c_Ca_settle 59 = .ok (.iload 5, 2) := by decide +kernel
theorem d_Ca_settle_61 : decode c_Ca_settle 61 = .ok (.isub, 1) := by decide +kernel
theorem d_Ca_settle_62 : decode c_Ca_settle 62 = .ok (.invokestatic 112, 3) := by decide +kernel
theorem d_Ca_settle_65 : decode c_Ca_settle 65 = .ok (.lcmp, 1) := by decide +kernel
theorem d_Ca_settle_66 : decode c_Ca_settle 66 = .ok (.ifCond .ge 9, 3) := by decide +kernel
theorem d_Ca_settle_69 : decode c_Ca_settle 69 = .ok (.iinc 5 1, 3) := by decide +kernel
theorem d_Ca_settle_72 : decode c_Ca_settle 72 = .ok (.goto (-29), 3) := by decide +kernel
theorem d_Ca_settle_75 : decode c_Ca_settle 75 = .ok (.iload_n 3, 1) := by decide +kernel
theorem d_Ca_settle_76 : decode c_Ca_settle 76 = .ok (.iload 4, 2) := by decide +kernel
theorem d_Ca_settle_78 : decode c_Ca_settle 78 = .ok (.bipush 8, 2) := by decide +kernel
theorem d_Ca_settle_80 : decode c_Ca_settle 80 = .ok (.imul, 1) := by decide +kernel
theorem d_Ca_settle_81 : decode c_Ca_settle 81 = .ok (.isub, 1) := by decide +kernel
theorem d_Ca_settle_82 : decode c_Ca_settle 82 = .ok (.iload 5, 2) := by decide +kernel
theorem d_Ca_settle_84 : decode c_Ca_settle 84 = .ok (.isub, 1) := by decide +kernel
theorem d_Ca_settle_85 : decode c_Ca_settle 85 = .ok (.istore 6, 2) := by decide +kernel
theorem d_Ca_settle_87 : decode c_Ca_settle 87 = .ok (.iload 6, 2) := by decide +kernel
theorem d_Ca_settle_89 : decode c_Ca_settle 89 = .ok (.bipush 99, 2) := by decide +kernel
theorem d_Ca_settle_91 : decode c_Ca_settle 91 = .ok (.if_icmp .lt 9, 3) := by decide +kernel
theorem d_Ca_settle_94 : decode c_Ca_settle 94 = .ok (.aload_n 1, 1) := by decide +kernel
theorem d_Ca_settle_95 : decode c_Ca_settle 95 = .ok (.iconst 1, 1) := by decide +kernel
theorem d_Ca_settle_96 : decode c_Ca_settle 96 = .ok (.invokevirtual 67, 3) := by decide +kernel
theorem d_Ca_settle_99 : decode c_Ca_settle 99 = .ok (.return_, 1) := by decide +kernel
theorem d_Ca_settle_100 : decode c_Ca_settle 100 = .ok (.iload 6, 2) := by decide +kernel
theorem d_Ca_settle_102 : decode c_Ca_settle 102 = .ok (.bipush (-99), 2) := by decide +kernel
theorem d_Ca_settle_104 : decode c_Ca_settle 104 = .ok (.if_icmp .ge 4, 3) := by decide +kernel
theorem d_Ca_settle_107 : decode c_Ca_settle 107 = .ok (.return_, 1) := by decide +kernel
theorem d_Ca_settle_108 : decode c_Ca_settle 108 = .ok (.iload 5, 2) := by decide +kernel
theorem d_Ca_settle_110 : decode c_Ca_settle 110 = .ok (.invokestatic 112, 3) := by decide +kernel
theorem d_Ca_settle_113 : decode c_Ca_settle 113 = .ok (.lstore 7, 2) := by decide +kernel
theorem d_Ca_settle_115 : decode c_Ca_settle 115 = .ok (.bipush 8, 2) := by decide +kernel
theorem d_Ca_settle_117 : decode c_Ca_settle 117 = .ok (.iload 5, 2) := by decide +kernel
theorem d_Ca_settle_119 : decode c_Ca_settle 119 = .ok (.isub, 1) := by decide +kernel
theorem d_Ca_settle_120 : decode c_Ca_settle 120 = .ok (.invokestatic 112, 3) := by decide +kernel
theorem d_Ca_settle_123 : decode c_Ca_settle 123 = .ok (.lstore 9, 2) := by decide +kernel
theorem d_Ca_settle_125 : decode c_Ca_settle 125 = .ok (.iconst 0, 1) := by decide +kernel
theorem d_Ca_settle_126 : decode c_Ca_settle 126 = .ok (.istore 11, 2) := by decide +kernel
theorem d_Ca_settle_128 : decode c_Ca_settle 128 = .ok (.iload 11, 2) := by decide +kernel
theorem d_Ca_settle_130 : decode c_Ca_settle 130 = .ok (.iconst 4, 1) := by decide +kernel
theorem d_Ca_settle_131 : decode c_Ca_settle 131 = .ok (.if_icmp .ge 46, 3) := by decide +kernel
theorem d_Ca_settle_134 : decode c_Ca_settle 134 = .ok (.aload_n 1, 1) := by decide +kernel
theorem d_Ca_settle_135 : decode c_Ca_settle 135 = .ok (.getfield 61, 3) := by decide +kernel
theorem d_Ca_settle_138 : decode c_Ca_settle 138 = .ok (.iload 11, 2) := by decide +kernel
theorem d_Ca_settle_140 : decode c_Ca_settle 140 = .ok (.aload_n 0, 1) := by decide +kernel
theorem d_Ca_settle_141 : decode c_Ca_settle 141 = .ok (.iload 4, 2) := by decide +kernel
theorem d_Ca_settle_143 : decode c_Ca_settle 143 = .ok (.iload 11, 2) := by decide +kernel
theorem d_Ca_settle_145 : decode c_Ca_settle 145 = .ok (.iadd, 1) := by decide +kernel
theorem d_Ca_settle_146 : decode c_Ca_settle 146 = .ok (.invokevirtual 135, 3) := by decide +kernel
theorem d_Ca_settle_149 : decode c_Ca_settle 149 = .ok (.lload 9, 2) := by decide +kernel
theorem d_Ca_settle_151 : decode c_Ca_settle 151 = .ok (.lrem, 1) := by decide +kernel
theorem d_Ca_settle_152 : decode c_Ca_settle 152 = .ok (.lload 7, 2) := by decide +kernel
theorem d_Ca_settle_154 : decode c_Ca_settle 154 = .ok (.lmul, 1) := by decide +kernel
theorem d_Ca_settle_155 : decode c_Ca_settle 155 = .ok (.aload_n 0, 1) := by decide +kernel
theorem d_Ca_settle_156 : decode c_Ca_settle 156 = .ok (.iload 4, 2) := by decide +kernel
theorem d_Ca_settle_158 : decode c_Ca_settle 158 = .ok (.iload 11, 2) := by decide +kernel
theorem d_Ca_settle_160 : decode c_Ca_settle 160 = .ok (.iadd, 1) := by decide +kernel
theorem d_Ca_settle_161 : decode c_Ca_settle 161 = .ok (.iconst 1, 1) := by decide +kernel
theorem d_Ca_settle_162 : decode c_Ca_settle 162 = .ok (.iadd, 1) := by decide +kernel
theorem d_Ca_settle_163 : decode c_Ca_settle 163 = .ok (.invokevirtual 135, 3) := by decide +kernel
theorem d_Ca_settle_166 : decode c_Ca_settle 166 = .ok (.lload 9, 2) := by decide +kernel
theorem d_Ca_settle_168 : decode c_Ca_settle 168 = .ok (.ldiv, 1) := by decide +kernel
theorem d_Ca_settle_169 : decode c_Ca_settle 169 = .ok (.ladd, 1) := by decide +kernel
theorem d_Ca_settle_170 : decode c_Ca_settle 170 = .ok (.lastore, 1) := by decide +kernel
theorem d_Ca_settle_171 : decode c_Ca_settle 171 = .ok (.iinc 11 1, 3) := by decide +kernel
theorem d_Ca_settle_174 : decode c_Ca_settle 174 = .ok (.goto (-46), 3) := by decide +kernel
theorem d_Ca_settle_177 : decode c_Ca_settle 177 = .ok (.aload_n 1, 1) := by decide +kernel
theorem d_Ca_settle_178 : decode c_Ca_settle 178 = .ok (.iload_n 2, 1) := by decide +kernel
theorem d_Ca_settle_179 : decode c_Ca_settle 179 = .ok (.putfield 37, 3) := by decide +kernel
theorem d_Ca_settle_182 : decode c_Ca_settle 182 = .ok (.aload_n 1, 1) := by decide +kernel
theorem d_Ca_settle_183 : decode c_Ca_settle 183 = .ok (.iload 6, 2) := by decide +kernel
theorem d_Ca_settle_185 : decode c_Ca_settle 185 = .ok (.putfield 64, 3) := by decide +kernel
theorem d_Ca_settle_188 : decode c_Ca_settle 188 = .ok (.aload_n 1, 1) := by decide +kernel
theorem d_Ca_settle_189 : decode c_Ca_settle 189 = .ok (.aload_n 0, 1) := by decide +kernel
theorem d_Ca_settle_190 : decode c_Ca_settle 190 = .ok (.getfield 25, 3) := by decide +kernel
theorem d_Ca_settle_193 : decode c_Ca_settle 193 = .ok (.invokevirtual 138, 3) := by decide +kernel
theorem d_Ca_settle_196 : decode c_Ca_settle 196 = .ok (.return_, 1) := by decide +kernel
theorem d_Ca_wideAt_0 : decode c_Ca_wideAt 0 = .ok (.iload_n 1, 1) := by decide +kernel
theorem d_Ca_wideAt_1 : decode c_Ca_wideAt 1 = .ok (.ifCond .lt 9, 3) := by decide +kernel
theorem d_Ca_wideAt_4 : decode c_Ca_wideAt 4 = .ok (.iload_n 1, 1) := by decide +kernel
theorem d_Ca_wideAt_5 : decode c_Ca_wideAt 5 = .ok (.bipush 30, 2) := by decide +kernel
theorem d_Ca_wideAt_7 : decode c_Ca_wideAt 7 = .ok (.if_icmp .lt 7, 3) := by decide +kernel
theorem d_Ca_wideAt_10 : decode c_Ca_wideAt 10 = .ok (.lconst 0, 1) := by decide +kernel
theorem d_Ca_wideAt_11 : decode c_Ca_wideAt 11 = .ok (.goto 9, 3) := by decide +kernel
theorem d_Ca_wideAt_14 : decode c_Ca_wideAt 14 = .ok (.aload_n 0, 1) := by decide +kernel
theorem d_Ca_wideAt_15 : decode c_Ca_wideAt 15 = .ok (.getfield 11, 3) := by decide +kernel
theorem d_Ca_wideAt_18 : decode c_Ca_wideAt 18 = .ok (.iload_n 1, 1) := by decide +kernel
theorem d_Ca_wideAt_19 : decode c_Ca_wideAt 19 = .ok (.laload, 1) := by decide +kernel
theorem d_Ca_wideAt_20 : decode c_Ca_wideAt 20 = .ok (.lreturn, 1) := by decide +kernel
theorem d_Ca_divide_0 : decode c_Ca_divide 0 = .ok (.aload_n 1, 1) := by decide +kernel
theorem d_Ca_divide_1 : decode c_Ca_divide 1 = .ok (.aload_n 2, 1) := by decide +kernel
theorem d_Ca_divide_2 : decode c_Ca_divide 2 = .ok (.aload_n 3, 1) := by decide +kernel
theorem d_Ca_divide_3 : decode c_Ca_divide 3 = .ok (.invokestatic 33, 3) := by decide +kernel
theorem d_Ca_divide_6 : decode c_Ca_divide 6 = .ok (.ifCond .eq 4, 3) := by decide +kernel
theorem d_Ca_divide_9 : decode c_Ca_divide 9 = .ok (.return_, 1) := by decide +kernel
theorem d_Ca_divide_10 : decode c_Ca_divide 10 = .ok (.aload_n 3, 1) := by decide +kernel
theorem d_Ca_divide_11 : decode c_Ca_divide 11 = .ok (.getfield 37, 3) := by decide +kernel
theorem d_Ca_divide_14 : decode c_Ca_divide 14 = .ok (.ifCond .ne 9, 3) := by decide +kernel
theorem d_Ca_divide_17 : decode c_Ca_divide 17 = .ok (.aload_n 1, 1) := by decide +kernel
theorem d_Ca_divide_18 : decode c_Ca_divide 18 = .ok (.iconst 2, 1) := by decide +kernel
theorem d_Ca_divide_19 : decode c_Ca_divide 19 = .ok (.invokevirtual 67, 3) := by decide +kernel
theorem d_Ca_divide_22 : decode c_Ca_divide 22 = .ok (.return_, 1) := by decide +kernel
theorem d_Ca_divide_23 : decode c_Ca_divide 23 = .ok (.aload_n 0, 1) := by decide +kernel
theorem d_Ca_divide_24 : decode c_Ca_divide 24 = .ok (.getfield 11, 3) := by decide +kernel
theorem d_Ca_divide_27 : decode c_Ca_divide 27 = .ok (.lconst 0, 1) := by decide +kernel
theorem d_Ca_divide_28 : decode c_Ca_divide 28 = .ok (.invokestatic 44, 3) := by decide +kernel
theorem d_Ca_divide_31 : decode c_Ca_divide 31 = .ok (.aload_n 0, 1) := by decide +kernel
theorem d_Ca_divide_32 : decode c_Ca_divide 32 = .ok (.getfield 17, 3) := by decide +kernel
theorem d_Ca_divide_35 : decode c_Ca_divide 35 = .ok (.iconst 0, 1) := by decide +kernel
theorem d_Ca_divide_36 : decode c_Ca_divide 36 = .ok (.lconst 0, 1) := by decide +kernel
theorem d_Ca_divide_37 : decode c_Ca_divide 37 = .ok (.lastore, 1) := by decide +kernel
theorem d_Ca_divide_38 : decode c_Ca_divide 38 = .ok (.aload_n 2, 1) := by decide +kernel
theorem d_Ca_divide_39 : decode c_Ca_divide 39 = .ok (.getfield 61, 3) := by decide +kernel
theorem d_Ca_divide_42 : decode c_Ca_divide 42 = .ok (.iconst 0, 1) := by decide +kernel
theorem d_Ca_divide_43 : decode c_Ca_divide 43 = .ok (.aload_n 0, 1) := by decide +kernel
theorem d_Ca_divide_44 : decode c_Ca_divide 44 = .ok (.getfield 17, 3) := by decide +kernel
theorem d_Ca_divide_47 : decode c_Ca_divide 47 = .ok (.iconst 1, 1) := by decide +kernel
theorem d_Ca_divide_48 : decode c_Ca_divide 48 = .ok (.iconst 4, 1) := by decide +kernel
theorem d_Ca_divide_49 : decode c_Ca_divide 49 = .ok (.invokestatic 71, 3) := by decide +kernel
theorem d_Ca_divide_52 : decode c_Ca_divide 52 = .ok (.iconst 0, 1) := by decide +kernel
theorem d_Ca_divide_53 : decode c_Ca_divide 53 = .ok (.istore 4, 2) := by decide +kernel
theorem d_Ca_divide_55 : decode c_Ca_divide 55 = .ok (.iload 4, 2) := by decide +kernel
theorem d_Ca_divide_57 : decode c_Ca_divide 57 = .ok (.iconst 4, 1) := by decide +kernel
theorem d_Ca_divide_58 : decode c_Ca_divide 58 = .ok (.if_icmp .gt 42, 3) := by decide +kernel
theorem d_Ca_divide_61 : decode c_Ca_divide 61 = .ok (.aload_n 0, 1) := by decide +kernel
theorem d_Ca_divide_62 : decode c_Ca_divide 62 = .ok (.getfield 11, 3) := by decide +kernel
theorem d_Ca_divide_65 : decode c_Ca_divide 65 = .ok (.iload 4, 2) := by decide +kernel
theorem d_Ca_divide_67 : decode c_Ca_divide 67 = .ok (.aload_n 0, 1) := by decide +kernel
theorem d_Ca_divide_68 : decode c_Ca_divide 68 = .ok (.aload_n 3, 1) := by decide +kernel
theorem d_Ca_divide_69 : decode c_Ca_divide 69 = .ok (.invokevirtual 77, 3) := by decide +kernel
theorem d_Ca_divide_72 : decode c_Ca_divide 72 = .ok (.lastore, 1) := by decide +kernel
theorem d_Ca_divide_73 : decode c_Ca_divide 73 = .ok (.aload_n 0, 1) := by decide +kernel
theorem d_Ca_divide_74 : decode c_Ca_divide 74 = .ok (.getfield 17, 3) := by decide +kernel
theorem d_Ca_divide_77 : decode c_Ca_divide 77 = .ok (.iconst 1, 1) := by decide +kernel
theorem d_Ca_divide_78 : decode c_Ca_divide 78 = .ok (.aload_n 0, 1) := by decide +kernel
theorem d_Ca_divide_79 : decode c_Ca_divide 79 = .ok (.getfield 17, 3) := by decide +kernel
theorem d_Ca_divide_82 : decode c_Ca_divide 82 = .ok (.iconst 0, 1) := by decide +kernel
theorem d_Ca_divide_83 : decode c_Ca_divide 83 = .ok (.iconst 4, 1) := by decide +kernel
theorem d_Ca_divide_84 : decode c_Ca_divide 84 = .ok (.invokestatic 71, 3) := by decide +kernel
theorem d_Ca_divide_87 : decode c_Ca_divide 87 = .ok (.aload_n 0, 1) := by decide +kernel
theorem d_Ca_divide_88 : decode c_Ca_divide 88 = .ok (.getfield 17, 3) := by decide +kernel
theorem d_Ca_divide_91 : decode c_Ca_divide 91 = .ok (.iconst 4, 1) := by decide +kernel
theorem d_Ca_divide_92 : decode c_Ca_divide 92 = .ok (.lconst 0, 1) := by decide +kernel
theorem d_Ca_divide_93 : decode c_Ca_divide 93 = .ok (.lastore, 1) := by decide +kernel
theorem d_Ca_divide_94 : decode c_Ca_divide 94 = .ok (.iinc 4 1, 3) := by decide +kernel
theorem d_Ca_divide_97 : decode c_Ca_divide 97 = .ok (.goto (-42), 3) := by decide +kernel
theorem d_Ca_divide_100 : decode c_Ca_divide 100 = .ok (.aload_n 0, 1) := by decide +kernel
theorem d_Ca_divide_101 : decode c_Ca_divide 101 = .ok (.aload_n 1, 1) := by decide +kernel
theorem d_Ca_divide_102 : decode c_Ca_divide 102 = .ok (.aload_n 2, 1) := by decide +kernel
theorem d_Ca_divide_103 : decode c_Ca_divide 103 = .ok (.getfield 37, 3) := by decide +kernel
theorem d_Ca_divide_106 : decode c_Ca_divide 106 = .ok (.aload_n 3, 1) := by decide +kernel
theorem d_Ca_divide_107 : decode c_Ca_divide 107 = .ok (.getfield 37, 3) := by decide +kernel
theorem d_Ca_divide_110 : decode c_Ca_divide 110 = .ok (.imul, 1) := by decide +kernel
theorem d_Ca_divide_111 : decode c_Ca_divide 111 = .ok (.aload_n 2, 1) := by decide +kernel
theorem d_Ca_divide_112 : decode c_Ca_divide 112 = .ok (.getfield 64, 3) := by decide +kernel
theorem d_Ca_divide_115 : decode c_Ca_divide 115 = .ok (.aload_n 3, 1) := by decide +kernel
theorem d_Ca_divide_116 : decode c_Ca_divide 116 = .ok (.getfield 64, 3) := by decide +kernel
theorem d_Ca_divide_119 : decode c_Ca_divide 119 = .ok (.isub, 1) := by decide +kernel
theorem d_Ca_divide_120 : decode c_Ca_divide 120 = .ok (.bipush 8, 2) := by decide +kernel
theorem d_Ca_divide_122 : decode c_Ca_divide 122 = .ok (.iadd, 1) := by decide +kernel
theorem d_Ca_divide_123 : decode c_Ca_divide 123 = .ok (.iconst 1, 1) := by decide +kernel
theorem d_Ca_divide_124 : decode c_Ca_divide 124 = .ok (.isub, 1) := by decide +kernel
theorem d_Ca_divide_125 : decode c_Ca_divide 125 = .ok (.invokevirtual 57, 3) := by decide +kernel
theorem d_Ca_divide_128 : decode c_Ca_divide 128 = .ok (.return_, 1) := by decide +kernel
theorem d_Ca_takeOut_0 : decode c_Ca_takeOut 0 = .ok (.lconst 1, 1) := by decide +kernel
theorem d_Ca_takeOut_1 : decode c_Ca_takeOut 1 = .ok (.aload_n 1, 1) := by decide +kernel
theorem d_Ca_takeOut_2 : decode c_Ca_takeOut 2 = .ok (.getfield 61, 3) := by decide +kernel
theorem d_Ca_takeOut_5 : decode c_Ca_takeOut 5 = .ok (.iconst 0, 1) := by decide +kernel
theorem d_Ca_takeOut_6 : decode c_Ca_takeOut 6 = .ok (.laload, 1) := by decide +kernel
theorem d_Ca_takeOut_7 : decode c_Ca_takeOut 7 = .ok (.lconst 1, 1) := by decide +kernel
theorem d_Ca_takeOut_8 : decode c_Ca_takeOut 8 = .ok (.ladd, 1) := by decide +kernel
theorem d_Ca_takeOut_9 : decode c_Ca_takeOut 9 = .ok (.invokestatic 121, 3) := by decide +kernel
theorem d_Ca_takeOut_12 : decode c_Ca_takeOut 12 = .ok (.lstore_n 2, 1) := by decide +kernel
theorem d_Ca_takeOut_13 : decode c_Ca_takeOut 13 = .ok (.lconst 0, 1) := by decide +kernel
theorem d_Ca_takeOut_14 : decode c_Ca_takeOut 14 = .ok (.lstore 4, 2) := by decide +kernel
theorem d_Ca_takeOut_16 : decode c_Ca_takeOut 16 = .ok (.iconst 0, 1) := by decide +kernel
theorem d_Ca_takeOut_17 : decode c_Ca_takeOut 17 = .ok (.istore 6, 2) := by decide +kernel
theorem d_Ca_takeOut_19 : decode c_Ca_takeOut 19 = .ok (.iload 6, 2) := by decide +kernel
theorem d_Ca_takeOut_21 : decode c_Ca_takeOut 21 = .ok (.bipush 20, 2) := by decide +kernel
theorem d_Ca_takeOut_23 : decode c_Ca_takeOut 23 = .ok (.if_icmp .ge 56, 3) := by decide +kernel
theorem d_Ca_takeOut_26 : decode c_Ca_takeOut 26 = .ok (.aload_n 0, 1) := by decide +kernel
theorem d_Ca_takeOut_27 : decode c_Ca_takeOut 27 = .ok (.aload_n 1, 1) := by decide +kernel
theorem d_Ca_takeOut_28 : decode c_Ca_takeOut 28 = .ok (.invokevirtual 124, 3) := by decide +kernel
theorem d_Ca_takeOut_31 : decode c_Ca_takeOut 31 = .ok (.ifCond .eq 48, 3) := by decide +kernel
theorem d_Ca_takeOut_34 : decode c_Ca_takeOut 34 = .ok (.lconst 1, 1) := by decide +kernel
theorem d_Ca_takeOut_35 : decode c_Ca_takeOut 35 = .ok (.aload_n 0, 1) := by decide +kernel
theorem d_Ca_takeOut_36 : decode c_Ca_takeOut 36 = .ok (.getfield 17, 3) := by decide +kernel
theorem d_Ca_takeOut_39 : decode c_Ca_takeOut 39 = .ok (.iconst 0, 1) := by decide +kernel
theorem d_Ca_takeOut_40 : decode c_Ca_takeOut 40 = .ok (.laload, 1) := by decide +kernel
theorem d_Ca_takeOut_41 : decode c_Ca_takeOut 41 = .ok (.ldc2_w 115, 3) := by decide +kernel
theorem d_Ca_takeOut_44 : decode c_Ca_takeOut 44 = .ok (.lmul, 1) := by decide +kernel
theorem d_Ca_takeOut_45 : decode c_Ca_takeOut 45 = .ok (.aload_n 0, 1) := by decide +kernel
theorem d_Ca_takeOut_46 : decode c_Ca_takeOut 46 = .ok (.getfield 17, 3) := by decide +kernel
theorem d_Ca_takeOut_49 : decode c_Ca_takeOut 49 = .ok (.iconst 1, 1) := by decide +kernel
theorem d_Ca_takeOut_50 : decode c_Ca_takeOut 50 = .ok (.laload, 1) := by decide +kernel
theorem d_Ca_takeOut_51 : decode c_Ca_takeOut 51 = .ok (.ladd, 1) := by decide +kernel
theorem d_Ca_takeOut_52 : decode c_Ca_takeOut 52 = .ok (.lload_n 2, 1) := by decide +kernel
theorem d_Ca_takeOut_53 : decode c_Ca_takeOut 53 = .ok (.ldiv, 1) := by decide +kernel
theorem d_Ca_takeOut_54 : decode c_Ca_takeOut 54 = .ok (.invokestatic 121, 3) := by decide +kernel
theorem d_Ca_takeOut_57 : decode c_Ca_takeOut 57 = .ok (.lstore 7, 2) := by decide +kernel
theorem d_Ca_takeOut_59 : decode c_Ca_takeOut 59 = .ok (.aload_n 0, 1) := by decide +kernel
theorem d_Ca_takeOut_60 : decode c_Ca_takeOut 60 = .ok (.aload_n 1, 1) := by decide +kernel
theorem d_Ca_takeOut_61 : decode c_Ca_takeOut 61 = .ok (.lload 7, 2) := by decide +kernel
theorem d_Ca_takeOut_63 : decode c_Ca_takeOut 63 = .ok (.invokevirtual 128, 3) := by decide +kernel
theorem d_Ca_takeOut_66 : decode c_Ca_takeOut 66 = .ok (.lload 4, 2) := by decide +kernel
theorem d_Ca_takeOut_68 : decode c_Ca_takeOut 68 = .ok (.lload 7, 2) := by decide +kernel
theorem d_Ca_takeOut_70 : decode c_Ca_takeOut 70 = .ok (.ladd, 1) := by decide +kernel
theorem d_Ca_takeOut_71 : decode c_Ca_takeOut 71 = .ok (.lstore 4, 2) := by decide +kernel
theorem d_Ca_takeOut_73 : decode c_Ca_takeOut 73 = .ok (.iinc 6 1, 3) := by decide +kernel
theorem d_Ca_takeOut_76 : decode c_Ca_takeOut 76 = .ok (.goto (-57), 3) := by decide +kernel
theorem d_Ca_takeOut_79 : decode c_Ca_takeOut 79 = .ok (.lload 4, 2) := by decide +kernel
theorem d_Ca_takeOut_81 : decode c_Ca_takeOut 81 = .ok (.lreturn, 1) := by decide +kernel
theorem d_Ca_reaches_0 : decode c_Ca_reaches 0 = .ok (.aload_n 0, 1) := by decide +kernel
theorem d_Ca_reaches_1 : decode c_Ca_reaches 1 = .ok (.getfield 17, 3) := by decide +kernel
theorem d_Ca_reaches_4 : decode c_Ca_reaches 4 = .ok (.iconst 0, 1) := by decide +kernel
theorem d_Ca_reaches_5 : decode c_Ca_reaches 5 = .ok (.laload, 1) := by decide +kernel
theorem d_Ca_reaches_6 : decode c_Ca_reaches 6 = .ok (.lconst 0, 1) := by decide +kernel
theorem d_Ca_reaches_7 : decode c_Ca_reaches 7 = .ok (.lcmp, 1) := by decide +kernel
theorem d_Ca_reaches_8 : decode c_Ca_reaches 8 = .ok (.ifCond .eq 5, 3) := by decide +kernel
theorem d_Ca_reaches_11 : decode c_Ca_reaches 11 = .ok (.iconst 1, 1) := by decide +kernel
theorem d_Ca_reaches_12 : decode c_Ca_reaches 12 = .ok (.ireturn, 1) := by decide +kernel
theorem d_Ca_reaches_13 : decode c_Ca_reaches 13 = .ok (.iconst 0, 1) := by decide +kernel
theorem d_Ca_reaches_14 : decode c_Ca_reaches 14 = .ok (.istore_n 2, 1) := by decide +kernel
theorem d_Ca_reaches_15 : decode c_Ca_reaches 15 = .ok (.iload_n 2, 1) := by decide +kernel
theorem d_Ca_reaches_16 : decode c_Ca_reaches 16 = .ok (.iconst 4, 1) := by decide +kernel
theorem d_Ca_reaches_17 : decode c_Ca_reaches 17 = .ok (.if_icmp .ge 51, 3) := by decide +kernel
theorem d_Ca_reaches_20 : decode c_Ca_reaches 20 = .ok (.aload_n 0, 1) := by decide +kernel
theorem d_Ca_reaches_21 : decode c_Ca_reaches 21 = .ok (.getfield 17, 3) := by decide +kernel
theorem d_Ca_reaches_24 : decode c_Ca_reaches 24 = .ok (.iload_n 2, 1) := by decide +kernel
theorem d_Ca_reaches_25 : decode c_Ca_reaches 25 = .ok (.iconst 1, 1) := by decide +kernel
theorem d_Ca_reaches_26 : decode c_Ca_reaches 26 = .ok (.iadd, 1) := by decide +kernel
theorem d_Ca_reaches_27 : decode c_Ca_reaches 27 = .ok (.laload, 1) := by decide +kernel
theorem d_Ca_reaches_28 : decode c_Ca_reaches 28 = .ok (.aload_n 1, 1) := by decide +kernel
theorem d_Ca_reaches_29 : decode c_Ca_reaches 29 = .ok (.getfield 61, 3) := by decide +kernel
theorem d_Ca_reaches_32 : decode c_Ca_reaches 32 = .ok (.iload_n 2, 1) := by decide +kernel
theorem d_Ca_reaches_33 : decode c_Ca_reaches 33 = .ok (.laload, 1) := by decide +kernel
theorem d_Ca_reaches_34 : decode c_Ca_reaches 34 = .ok (.lcmp, 1) := by decide +kernel
theorem d_Ca_reaches_35 : decode c_Ca_reaches 35 = .ok (.ifCond .eq 27, 3) := by decide +kernel
theorem d_Ca_reaches_38 : decode c_Ca_reaches 38 = .ok (.aload_n 0, 1) := by decide +kernel
theorem d_Ca_reaches_39 : decode c_Ca_reaches 39 = .ok (.getfield 17, 3) := by decide +kernel
theorem d_Ca_reaches_42 : decode c_Ca_reaches 42 = .ok (.iload_n 2, 1) := by decide +kernel
theorem d_Ca_reaches_43 : decode c_Ca_reaches 43 = .ok (.iconst 1, 1) := by decide +kernel
theorem d_Ca_reaches_44 : decode c_Ca_reaches 44 = .ok (.iadd, 1) := by decide +kernel
theorem d_Ca_reaches_45 : decode c_Ca_reaches 45 = .ok (.laload, 1) := by decide +kernel
theorem d_Ca_reaches_46 : decode c_Ca_reaches 46 = .ok (.aload_n 1, 1) := by decide +kernel
theorem d_Ca_reaches_47 : decode c_Ca_reaches 47 = .ok (.getfield 61, 3) := by decide +kernel
theorem d_Ca_reaches_50 : decode c_Ca_reaches 50 = .ok (.iload_n 2, 1) := by decide +kernel
theorem d_Ca_reaches_51 : decode c_Ca_reaches 51 = .ok (.laload, 1) := by decide +kernel
theorem d_Ca_reaches_52 : decode c_Ca_reaches 52 = .ok (.lcmp, 1) := by decide +kernel
theorem d_Ca_reaches_53 : decode c_Ca_reaches 53 = .ok (.ifCond .le 7, 3) := by decide +kernel
theorem d_Ca_reaches_56 : decode c_Ca_reaches 56 = .ok (.iconst 1, 1) := by decide +kernel
theorem d_Ca_reaches_57 : decode c_Ca_reaches 57 = .ok (.goto 4, 3) := by decide +kernel
theorem d_Ca_reaches_60 : decode c_Ca_reaches 60 = .ok (.iconst 0, 1) := by decide +kernel
theorem d_Ca_reaches_61 : decode c_Ca_reaches 61 = .ok (.ireturn, 1) := by decide +kernel
theorem d_Ca_reaches_62 : decode c_Ca_reaches 62 = .ok (.iinc 2 1, 3) := by decide +kernel
theorem d_Ca_reaches_65 : decode c_Ca_reaches 65 = .ok (.goto (-50), 3) := by decide +kernel
theorem d_Ca_reaches_68 : decode c_Ca_reaches 68 = .ok (.iconst 1, 1) := by decide +kernel
theorem d_Ca_reaches_69 : decode c_Ca_reaches 69 = .ok (.ireturn, 1) := by decide +kernel
theorem d_Ca_reduce_0 : decode c_Ca_reduce 0 = .ok (.lconst 0, 1) := by decide +kernel
theorem d_Ca_reduce_1 : decode c_Ca_reduce 1 = .ok (.lstore 4, 2) := by decide +kernel
theorem d_Ca_reduce_3 : decode c_Ca_reduce 3 = .ok (.iconst 3, 1) := by decide +kernel
theorem d_Ca_reduce_4 : decode c_Ca_reduce 4 = .ok (.istore 6, 2) := by decide +kernel
theorem d_Ca_reduce_6 : decode c_Ca_reduce 6 = .ok (.iload 6, 2) := by decide +kernel
theorem d_Ca_reduce_8 : decode c_Ca_reduce 8 = .ok (.ifCond .lt 61, 3) := by decide +kernel
theorem d_Ca_reduce_11 : decode c_Ca_reduce 11 = .ok (.aload_n 0, 1) := by decide +kernel
theorem d_Ca_reduce_12 : decode c_Ca_reduce 12 = .ok (.getfield 17, 3) := by decide +kernel
theorem d_Ca_reduce_15 : decode c_Ca_reduce 15 = .ok (.iload 6, 2) := by decide +kernel
theorem d_Ca_reduce_17 : decode c_Ca_reduce 17 = .ok (.iconst 1, 1) := by decide +kernel
theorem d_Ca_reduce_18 : decode c_Ca_reduce 18 = .ok (.iadd, 1) := by decide +kernel
theorem d_Ca_reduce_19 : decode c_Ca_reduce 19 = .ok (.laload, 1) := by decide +kernel
theorem d_Ca_reduce_20 : decode c_Ca_reduce 20 = .ok (.lload_n 2, 1) := by decide +kernel
theorem d_Ca_reduce_21 : decode c_Ca_reduce 21 = .ok (.aload_n 1, 1) := by decide +kernel
theorem d_Ca_reduce_22 : decode c_Ca_reduce 22 = .ok (.getfield 61, 3) := by decide +kernel
theorem d_Ca_reduce_25 : decode c_Ca_reduce 25 = .ok (.iload 6, 2) := by decide +kernel
theorem d_Ca_reduce_27 : decode c_Ca_reduce 27 = .ok (.laload, 1) := by decide +kernel
theorem d_Ca_reduce_28 : decode c_Ca_reduce 28 = .ok (.lmul, 1) := by decide +kernel
theorem d_Ca_reduce_29 : decode c_Ca_reduce 29 = .ok (.lsub, 1) := by decide +kernel
theorem d_Ca_reduce_30 : decode c_Ca_reduce 30 = .ok (.lload 4, 2) := by decide +kernel
theorem d_Ca_reduce_32 : decode c_Ca_reduce 32 = .ok (.ladd, 1) := by decide +kernel
theorem d_Ca_reduce_33 : decode c_Ca_reduce 33 = .ok (.lstore 7, 2) := by decide +kernel
theorem d_Ca_reduce_35 : decode c_Ca_reduce 35 = .ok (.lload 7, 2) := by decide +kernel
theorem d_Ca_reduce_37 : decode c_Ca_reduce 37 = .ok (.ldc2_w 115, 3) := by decide +kernel
theorem d_Ca_reduce_40 : decode c_Ca_reduce 40 = .ok (.invokestatic 117, 3) := by decide +kernel
theorem d_Ca_reduce_43 : decode c_Ca_reduce 43 = .ok (.lstore 4, 2) := by decide +kernel
theorem d_Ca_reduce_45 : decode c_Ca_reduce 45 = .ok (.aload_n 0, 1) := by decide +kernel
theorem d_Ca_reduce_46 : decode c_Ca_reduce 46 = .ok (.getfield 17, 3) := by decide +kernel
theorem d_Ca_reduce_49 : decode c_Ca_reduce 49 = .ok (.iload 6, 2) := by decide +kernel
theorem d_Ca_reduce_51 : decode c_Ca_reduce 51 = .ok (.iconst 1, 1) := by decide +kernel
theorem d_Ca_reduce_52 : decode c_Ca_reduce 52 = .ok (.iadd, 1) := by decide +kernel
theorem d_Ca_reduce_53 : decode c_Ca_reduce 53 = .ok (.lload 7, 2) := by decide +kernel
theorem d_Ca_reduce_55 : decode c_Ca_reduce 55 = .ok (.lload 4, 2) := by decide +kernel
theorem d_Ca_reduce_57 : decode c_Ca_reduce 57 = .ok (.ldc2_w 115, 3) := by decide +kernel
theorem d_Ca_reduce_60 : decode c_Ca_reduce 60 = .ok (.lmul, 1) := by decide +kernel
theorem d_Ca_reduce_61 : decode c_Ca_reduce 61 = .ok (.lsub, 1) := by decide +kernel
theorem d_Ca_reduce_62 : decode c_Ca_reduce 62 = .ok (.lastore, 1) := by decide +kernel
theorem d_Ca_reduce_63 : decode c_Ca_reduce 63 = .ok (.iinc 6 (-1), 3) := by decide +kernel
theorem d_Ca_reduce_66 : decode c_Ca_reduce 66 = .ok (.goto (-60), 3) := by decide +kernel
theorem d_Ca_reduce_69 : decode c_Ca_reduce 69 = .ok (.aload_n 0, 1) := by decide +kernel
theorem d_Ca_reduce_70 : decode c_Ca_reduce 70 = .ok (.getfield 17, 3) := by decide +kernel
theorem d_Ca_reduce_73 : decode c_Ca_reduce 73 = .ok (.iconst 0, 1) := by decide +kernel
theorem d_Ca_reduce_74 : decode c_Ca_reduce 74 = .ok (.dup2, 1) := by decide +kernel
theorem d_Ca_reduce_75 : decode c_Ca_reduce 75 = .ok (.laload, 1) := by decide +kernel
theorem d_Ca_reduce_76 : decode c_Ca_reduce 76 = .ok (.lload 4, 2) := by decide +kernel
theorem d_Ca_reduce_78 : decode c_Ca_reduce 78 = .ok (.ladd, 1) := by decide +kernel
theorem d_Ca_reduce_79 : decode c_Ca_reduce 79 = .ok (.lastore, 1) := by decide +kernel
theorem d_Ca_reduce_80 : decode c_Ca_reduce 80 = .ok (.return_, 1) := by decide +kernel
theorem d_Ca_add_0 : decode c_Ca_add 0 = .ok (.aload_n 1, 1) := by decide +kernel
theorem d_Ca_add_1 : decode c_Ca_add 1 = .ok (.aload_n 2, 1) := by decide +kernel
theorem d_Ca_add_2 : decode c_Ca_add 2 = .ok (.aload_n 3, 1) := by decide +kernel
theorem d_Ca_add_3 : decode c_Ca_add 3 = .ok (.invokestatic 33, 3) := by decide +kernel
theorem d_Ca_add_6 : decode c_Ca_add 6 = .ok (.ifCond .eq 4, 3) := by decide +kernel
theorem d_Ca_add_9 : decode c_Ca_add 9 = .ok (.return_, 1) := by decide +kernel
theorem d_Ca_add_10 : decode c_Ca_add 10 = .ok (.aload_n 3, 1) := by decide +kernel
theorem d_Ca_add_11 : decode c_Ca_add 11 = .ok (.getfield 37, 3) := by decide +kernel
theorem d_Ca_add_14 : decode c_Ca_add 14 = .ok (.iload 4, 2) := by decide +kernel
theorem d_Ca_add_16 : decode c_Ca_add 16 = .ok (.imul, 1) := by decide +kernel
theorem d_Ca_add_17 : decode c_Ca_add 17 = .ok (.istore 5, 2) := by decide +kernel
theorem d_Ca_add_19 : decode c_Ca_add 19 = .ok (.aload_n 2, 1) := by decide +kernel
theorem d_Ca_add_20 : decode c_Ca_add 20 = .ok (.aload_n 3, 1) := by decide +kernel
theorem d_Ca_add_21 : decode c_Ca_add 21 = .ok (.invokevirtual 40, 3) := by decide +kernel
theorem d_Ca_add_24 : decode c_Ca_add 24 = .ok (.ifCond .ge 7, 3) := by decide +kernel
theorem d_Ca_add_27 : decode c_Ca_add 27 = .ok (.iconst 1, 1) := by decide +kernel
theorem d_Ca_add_28 : decode c_Ca_add 28 = .ok (.goto 4, 3) := by decide +kernel
theorem d_Ca_add_31 : decode c_Ca_add 31 = .ok (.iconst 0, 1) := by decide +kernel
theorem d_Ca_add_32 : decode c_Ca_add 32 = .ok (.istore 6, 2) := by decide +kernel
theorem d_Ca_add_34 : decode c_Ca_add 34 = .ok (.aload_n 0, 1) := by decide +kernel
theorem d_Ca_add_35 : decode c_Ca_add 35 = .ok (.getfield 11, 3) := by decide +kernel
theorem d_Ca_add_38 : decode c_Ca_add 38 = .ok (.lconst 0, 1) := by decide +kernel
theorem d_Ca_add_39 : decode c_Ca_add 39 = .ok (.invokestatic 44, 3) := by decide +kernel
theorem d_Ca_add_42 : decode c_Ca_add 42 = .ok (.aload_n 0, 1) := by decide +kernel
theorem d_Ca_add_43 : decode c_Ca_add 43 = .ok (.iload 6, 2) := by decide +kernel
theorem d_Ca_add_45 : decode c_Ca_add 45 = .ok (.ifCond .eq 7, 3) := by decide +kernel
theorem d_Ca_add_48 : decode c_Ca_add 48 = .ok (.aload_n 3, 1) := by decide +kernel
theorem d_Ca_add_49 : decode c_Ca_add 49 = .ok (.goto 4, 3) := by decide +kernel
theorem d_Ca_add_52 : decode c_Ca_add 52 = .ok (.aload_n 2, 1) := by decide +kernel
theorem d_Ca_add_53 : decode c_Ca_add 53 = .ok (.iconst 1, 1) := by decide +kernel
theorem d_Ca_add_54 : decode c_Ca_add 54 = .ok (.invokevirtual 50, 3) := by decide +kernel
theorem d_Ca_add_57 : decode c_Ca_add 57 = .ok (.aload_n 0, 1) := by decide +kernel
theorem d_Ca_add_58 : decode c_Ca_add 58 = .ok (.iload 6, 2) := by decide +kernel
theorem d_Ca_add_60 : decode c_Ca_add 60 = .ok (.ifCond .eq 7, 3) := by decide +kernel
theorem d_Ca_add_63 : decode c_Ca_add 63 = .ok (.aload_n 2, 1) := by decide +kernel
theorem d_Ca_add_64 : decode c_Ca_add 64 = .ok (.goto 4, 3) := by decide +kernel
theorem d_Ca_add_67 : decode c_Ca_add 67 = .ok (.aload_n 3, 1) := by decide +kernel
theorem d_Ca_add_68 : decode c_Ca_add 68 = .ok (.aload_n 2, 1) := by decide +kernel
theorem d_Ca_add_69 : decode c_Ca_add 69 = .ok (.getfield 37, 3) := by decide +kernel
theorem d_Ca_add_72 : decode c_Ca_add 72 = .ok (.iload 5, 2) := by decide +kernel
theorem d_Ca_add_74 : decode c_Ca_add 74 = .ok (.if_icmp .ne 7, 3) := by decide +kernel
theorem d_Ca_add_77 : decode c_Ca_add 77 = .ok (.iconst 1, 1) := by decide +kernel
theorem d_Ca_add_78 : decode c_Ca_add 78 = .ok (.goto 4, 3) := by decide +kernel
theorem d_Ca_add_81 : decode c_Ca_add 81 = .ok (.iconst (-1), 1) := by decide +kernel
theorem d_Ca_add_82 : decode c_Ca_add 82 = .ok (.invokevirtual 50, 3) := by decide +kernel
theorem d_Ca_add_85 : decode c_Ca_add 85 = .ok (.aload_n 0, 1) := by decide +kernel
theorem d_Ca_add_86 : decode c_Ca_add 86 = .ok (.invokevirtual 54, 3) := by decide +kernel
theorem d_Ca_add_89 : decode c_Ca_add 89 = .ok (.aload_n 0, 1) := by decide +kernel
theorem d_Ca_add_90 : decode c_Ca_add 90 = .ok (.aload_n 1, 1) := by decide +kernel
theorem d_Ca_add_91 : decode c_Ca_add 91 = .ok (.iload 6, 2) := by decide +kernel
theorem d_Ca_add_93 : decode c_Ca_add 93 = .ok (.ifCond .eq 8, 3) := by decide +kernel
theorem d_Ca_add_96 : decode c_Ca_add 96 = .ok (.iload 5, 2) := by decide +kernel
theorem d_Ca_add_98 : decode c_Ca_add 98 = .ok (.goto 7, 3) := by decide +kernel
theorem d_Ca_add_101 : decode c_Ca_add 101 = .ok (.aload_n 2, 1) := by decide +kernel
theorem d_Ca_add_102 : decode c_Ca_add 102 = .ok (.getfield 37, 3) := by decide +kernel
theorem d_Ca_add_105 : decode c_Ca_add 105 = .ok (.bipush 103, 2) := by decide +kernel
theorem d_Ca_add_107 : decode c_Ca_add 107 = .ok (.invokevirtual 57, 3) := by decide +kernel
theorem d_Ca_add_110 : decode c_Ca_add 110 = .ok (.return_, 1) := by decide +kernel
theorem d_Ca_place_0 : decode c_Ca_place 0 = .ok (.bipush 103, 2) := by decide +kernel
theorem d_Ca_place_2 : decode c_Ca_place 2 = .ok (.aload_n 1, 1) := by decide +kernel
theorem d_Ca_place_3 : decode c_Ca_place 3 = .ok (.getfield 64, 3) := by decide +kernel
theorem d_Ca_place_6 : decode c_Ca_place 6 = .ok (.isub, 1) := by decide +kernel
theorem d_Ca_place_7 : decode c_Ca_place 7 = .ok (.istore_n 3, 1) := by decide +kernel
theorem d_Ca_place_8 : decode c_Ca_place 8 = .ok (.iload_n 3, 1) := by decide +kernel
theorem d_Ca_place_9 : decode c_Ca_place 9 = .ok (.bipush 8, 2) := by decide +kernel
theorem d_Ca_place_11 : decode c_Ca_place 11 = .ok (.idiv, 1) := by decide +kernel
theorem d_Ca_place_12 : decode c_Ca_place 12 = .ok (.istore 4, 2) := by decide +kernel
theorem d_Ca_place_14 : decode c_Ca_place 14 = .ok (.iload_n 3, 1) := by decide +kernel
theorem d_Ca_place_15 : decode c_Ca_place 15 = .ok (.ifCond .lt 12, 3) := by decide +kernel
theorem d_Ca_place_18 : decode c_Ca_place 18 = .ok (.iload 4, 2) := by decide +kernel
theorem d_Ca_place_20 : decode c_Ca_place 20 = .ok (.iconst 4, 1) := by decide +kernel
theorem d_Ca_place_21 : decode c_Ca_place 21 = .ok (.iadd, 1) := by decide +kernel
theorem d_Ca_place_22 : decode c_Ca_place 22 = .ok (.bipush 30, 2) := by decide +kernel
theorem d_Ca_place_24 : decode c_Ca_place 24 = .ok (.if_icmp .lt 4, 3) := by decide +kernel
theorem d_Ca_place_27 : decode c_Ca_place 27 = .ok (.return_, 1) := by decide +kernel
theorem d_Ca_place_28 : decode c_Ca_place 28 = .ok (.iload_n 3, 1) := by decide +kernel
theorem d_Ca_place_29 : decode c_Ca_place 29 = .ok (.bipush 8, 2) := by decide +kernel
theorem d_Ca_place_31 : decode c_Ca_place 31 = .ok (.irem, 1) := by decide +kernel
theorem d_Ca_place_32 : decode c_Ca_place 32 = .ok (.invokestatic 112, 3) := by decide +kernel
theorem d_Ca_place_35 : decode c_Ca_place 35 = .ok (.lstore 5, 2) := by decide +kernel
theorem d_Ca_place_37 : decode c_Ca_place 37 = .ok (.ldc2_w 115, 3) := by decide +kernel
theorem d_Ca_place_40 : decode c_Ca_place 40 = .ok (.lload 5, 2) := by decide +kernel
theorem d_Ca_place_42 : decode c_Ca_place 42 = .ok (.ldiv, 1) := by decide +kernel
theorem d_Ca_place_43 : decode c_Ca_place 43 = .ok (.lstore 7, 2) := by decide +kernel
theorem d_Ca_place_45 : decode c_Ca_place 45 = .ok (.iconst 0, 1) := by decide +kernel
theorem d_Ca_place_46 : decode c_Ca_place 46 = .ok (.istore 9, 2) := by decide +kernel
theorem d_Ca_place_48 : decode c_Ca_place 48 = .ok (.iload 9, 2) := by decide +kernel
theorem d_Ca_place_50 : decode c_Ca_place 50 = .ok (.iconst 4, 1) := by decide +kernel
theorem d_Ca_place_51 : decode c_Ca_place 51 = .ok (.if_icmp .ge 66, 3) := by decide +kernel
theorem d_Ca_place_54 : decode c_Ca_place 54 = .ok (.aload_n 0, 1) := by decide +kernel
theorem d_Ca_place_55 : decode c_Ca_place 55 = .ok (.getfield 11, 3) := by decide +kernel
theorem d_Ca_place_58 : decode c_Ca_place 58 = .ok (.iload 4, 2) := by decide +kernel
theorem d_Ca_place_60 : decode c_Ca_place 60 = .ok (.iload 9, 2) := by decide +kernel
theorem d_Ca_place_62 : decode c_Ca_place 62 = .ok (.iadd, 1) := by decide +kernel
theorem d_Ca_place_63 : decode c_Ca_place 63 = .ok (.dup2, 1) := by decide +kernel
theorem d_Ca_place_64 : decode c_Ca_place 64 = .ok (.laload, 1) := by decide +kernel
theorem d_Ca_place_65 : decode c_Ca_place 65 = .ok (.iload_n 2, 1) := by decide +kernel
theorem d_Ca_place_66 : decode c_Ca_place 66 = .ok (.i2l, 1) := by decide +kernel
theorem d_Ca_place_67 : decode c_Ca_place 67 = .ok (.aload_n 1, 1) := by decide +kernel
theorem d_Ca_place_68 : decode c_Ca_place 68 = .ok (.getfield 61, 3) := by decide +kernel
theorem d_Ca_place_71 : decode c_Ca_place 71 = .ok (.iload 9, 2) := by decide +kernel
theorem d_Ca_place_73 : decode c_Ca_place 73 = .ok (.laload, 1) := by decide +kernel
theorem d_Ca_place_74 : decode c_Ca_place 74 = .ok (.lload 5, 2) := by decide +kernel
theorem d_Ca_place_76 : decode c_Ca_place 76 = .ok (.ldiv, 1) := by decide +kernel
theorem d_Ca_place_77 : decode c_Ca_place 77 = .ok (.lmul, 1) := by decide +kernel
theorem d_Ca_place_78 : decode c_Ca_place 78 = .ok (.ladd, 1) := by decide +kernel
theorem d_Ca_place_79 : decode c_Ca_place 79 = .ok (.lastore, 1) := by decide +kernel
theorem d_Ca_place_80 : decode c_Ca_place 80 = .ok (.aload_n 0, 1) := by decide +kernel
theorem d_Ca_place_81 : decode c_Ca_place 81 = .ok (.getfield 11, 3) := by decide +kernel
theorem d_Ca_place_84 : decode c_Ca_place 84 = .ok (.iload 4, 2) := by decide +kernel
theorem d_Ca_place_86 : decode c_Ca_place 86 = .ok (.iload 9, 2) := by decide +kernel
theorem d_Ca_place_88 : decode c_Ca_place 88 = .ok (.iadd, 1) := by decide +kernel
theorem d_Ca_place_89 : decode c_Ca_place 89 = .ok (.iconst 1, 1) := by decide +kernel
theorem d_Ca_place_90 : decode c_Ca_place 90 = .ok (.iadd, 1) := by decide +kernel
theorem d_Ca_place_91 : decode c_Ca_place 91 = .ok (.dup2, 1) := by decide +kernel
theorem d_Ca_place_92 : decode c_Ca_place 92 = .ok (.laload, 1) := by decide +kernel
theorem d_Ca_place_93 : decode c_Ca_place 93 = .ok (.iload_n 2, 1) := by decide +kernel
theorem d_Ca_place_94 : decode c_Ca_place 94 = .ok (.i2l, 1) := by decide +kernel
theorem d_Ca_place_95 : decode c_Ca_place 95 = .ok (.aload_n 1, 1) := by decide +kernel
theorem d_Ca_place_96 : decode c_Ca_place 96 = .ok (.getfield 61, 3) := by decide +kernel
theorem d_Ca_place_99 : decode c_Ca_place 99 = .ok (.iload 9, 2) := by decide +kernel
theorem d_Ca_place_101 : decode c_Ca_place 101 = .ok (.laload, 1) := by decide +kernel
theorem d_Ca_place_102 : decode c_Ca_place 102 = .ok (.lload 5, 2) := by decide +kernel
theorem d_Ca_place_104 : decode c_Ca_place 104 = .ok (.lrem, 1) := by decide +kernel
theorem d_Ca_place_105 : decode c_Ca_place 105 = .ok (.lload 7, 2) := by decide +kernel
theorem d_Ca_place_107 : decode c_Ca_place 107 = .ok (.lmul, 1) := by decide +kernel
theorem d_Ca_place_108 : decode c_Ca_place 108 = .ok (.lmul, 1) := by decide +kernel
theorem d_Ca_place_109 : decode c_Ca_place 109 = .ok (.ladd, 1) := by decide +kernel
theorem d_Ca_place_110 : decode c_Ca_place 110 = .ok (.lastore, 1) := by decide +kernel
theorem d_Ca_place_111 : decode c_Ca_place 111 = .ok (.iinc 9 1, 3) := by decide +kernel
theorem d_Ca_place_114 : decode c_Ca_place 114 = .ok (.goto (-66), 3) := by decide +kernel
theorem d_Ca_place_117 : decode c_Ca_place 117 = .ok (.return_, 1) := by decide +kernel
