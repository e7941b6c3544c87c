theorem d_AF_init_0 : decode c_AF_init 0 = .ok (.aload_n 0, 1) := by decide +kernel
theorem d_AF_init_1 : decode c_AF_init 1 = .ok (.invokespecial 1, 3) := by decide +kernel
theorem d_AF_init_4 : decode c_AF_init 4 = .ok (.aload_n 0, 1) := by decide +kernel
theorem d_AF_init_5 : decode c_AF_init 5 = .ok (.bipush 100, 2) := by decide +kernel
theorem d_AF_init_7 : decode c_AF_init 7 = .ok (.anewarray 9, 3) := by decide +kernel
theorem d_AF_init_10 : decode c_AF_init 10 = .ok (.putfield 11, 3) := by decide +kernel
theorem d_AF_init_13 : decode c_AF_init 13 = .ok (.aload_n 0, 1) := by decide +kernel
theorem d_AF_init_14 : decode c_AF_init 14 = .ok (.bipush 20, 2) := by decide +kernel
theorem d_AF_init_16 : decode c_AF_init 16 = .ok (.anewarray 15, 3) := by decide +kernel
theorem d_AF_init_19 : decode c_AF_init 19 = .ok (.putfield 17, 3) := by decide +kernel
theorem d_AF_init_22 : decode c_AF_init 22 = .ok (.aload_n 0, 1) := by decide +kernel
theorem d_AF_init_23 : decode c_AF_init 23 = .ok (.new 9, 3) := by decide +kernel
theorem d_AF_init_26 : decode c_AF_init 26 = .ok (.dup, 1) := by decide +kernel
theorem d_AF_init_27 : decode c_AF_init 27 = .ok (.invokespecial 21, 3) := by decide +kernel
theorem d_AF_init_30 : decode c_AF_init 30 = .ok (.putfield 22, 3) := by decide +kernel
theorem d_AF_init_33 : decode c_AF_init 33 = .ok (.aload_n 0, 1) := by decide +kernel
theorem d_AF_init_34 : decode c_AF_init 34 = .ok (.new 9, 3) := by decide +kernel
theorem d_AF_init_37 : decode c_AF_init 37 = .ok (.dup, 1) := by decide +kernel
theorem d_AF_init_38 : decode c_AF_init 38 = .ok (.invokespecial 21, 3) := by decide +kernel
theorem d_AF_init_41 : decode c_AF_init 41 = .ok (.putfield 26, 3) := by decide +kernel
theorem d_AF_init_44 : decode c_AF_init 44 = .ok (.aload_n 0, 1) := by decide +kernel
theorem d_AF_init_45 : decode c_AF_init 45 = .ok (.new 9, 3) := by decide +kernel
theorem d_AF_init_48 : decode c_AF_init 48 = .ok (.dup, 1) := by decide +kernel
theorem d_AF_init_49 : decode c_AF_init 49 = .ok (.invokespecial 21, 3) := by decide +kernel
theorem d_AF_init_52 : decode c_AF_init 52 = .ok (.putfield 29, 3) := by decide +kernel
theorem d_AF_init_55 : decode c_AF_init 55 = .ok (.aload_n 0, 1) := by decide +kernel
theorem d_AF_init_56 : decode c_AF_init 56 = .ok (.new 32, 3) := by decide +kernel
theorem d_AF_init_59 : decode c_AF_init 59 = .ok (.dup, 1) := by decide +kernel
theorem d_AF_init_60 : decode c_AF_init 60 = .ok (.iconst 1, 1) := by decide +kernel
theorem d_AF_init_61 : decode c_AF_init 61 = .ok (.bipush 31, 2) := by decide +kernel
theorem d_AF_init_63 : decode c_AF_init 63 = .ok (.iload_n 1, 1) := by decide +kernel
theorem d_AF_init_64 : decode c_AF_init 64 = .ok (.invokestatic 34, 3) := by decide +kernel
theorem d_AF_init_67 : decode c_AF_init 67 = .ok (.invokestatic 40, 3) := by decide +kernel
theorem d_AF_init_70 : decode c_AF_init 70 = .ok (.invokespecial 43, 3) := by decide +kernel
theorem d_AF_init_73 : decode c_AF_init 73 = .ok (.putfield 46, 3) := by decide +kernel
theorem d_AF_init_76 : decode c_AF_init 76 = .ok (.return_, 1) := by decide +kernel
theorem d_AF_ten_0 : decode c_AF_ten 0 = .ok (.iload_n 0, 1) := by decide +kernel
theorem d_AF_ten_1 : decode c_AF_ten 1 = .ok (.ifCond .lt 11, 3) := by decide +kernel
theorem d_AF_ten_4 : decode c_AF_ten 4 = .ok (.iload_n 0, 1) := by decide +kernel
theorem d_AF_ten_5 : decode c_AF_ten 5 = .ok (.getstatic 180, 3) := by decide +kernel
theorem d_AF_ten_8 : decode c_AF_ten 8 = .ok (.arraylength, 1) := by decide +kernel
theorem d_AF_ten_9 : decode c_AF_ten 9 = .ok (.if_icmp .lt 7, 3) := by decide +kernel
theorem d_AF_ten_12 : decode c_AF_ten 12 = .ok (.lconst 1, 1) := by decide +kernel
theorem d_AF_ten_13 : decode c_AF_ten 13 = .ok (.goto 8, 3) := by decide +kernel
theorem d_AF_ten_16 : decode c_AF_ten 16 = .ok (.getstatic 180, 3) := by decide +kernel
theorem d_AF_ten_19 : decode c_AF_ten 19 = .ok (.iload_n 0, 1) := by decide +kernel
theorem d_AF_ten_20 : decode c_AF_ten 20 = .ok (.laload, 1) := by decide +kernel
theorem d_AF_ten_21 : decode c_AF_ten 21 = .ok (.lreturn, 1) := by decide +kernel
theorem d_AF_value_0 : decode c_AF_value 0 = .ok (.iload_n 3, 1) := by decide +kernel
theorem d_AF_value_1 : decode c_AF_value 1 = .ok (.ifCond .lt 9, 3) := by decide +kernel
theorem d_AF_value_4 : decode c_AF_value 4 = .ok (.iload_n 3, 1) := by decide +kernel
theorem d_AF_value_5 : decode c_AF_value 5 = .ok (.bipush 18, 2) := by decide +kernel
theorem d_AF_value_7 : decode c_AF_value 7 = .ok (.if_icmp .le 6, 3) := by decide +kernel
theorem d_AF_value_10 : decode c_AF_value 10 = .ok (.bipush (-4), 2) := by decide +kernel
theorem d_AF_value_12 : decode c_AF_value 12 = .ok (.ireturn, 1) := by decide +kernel
theorem d_AF_value_13 : decode c_AF_value 13 = .ok (.aload_n 0, 1) := by decide +kernel
theorem d_AF_value_14 : decode c_AF_value 14 = .ok (.getfield 50, 3) := by decide +kernel
theorem d_AF_value_17 : decode c_AF_value 17 = .ok (.bipush 100, 2) := by decide +kernel
theorem d_AF_value_19 : decode c_AF_value 19 = .ok (.if_icmp .lt 5, 3) := by decide +kernel
theorem d_AF_value_22 : decode c_AF_value 22 = .ok (.iconst (-1), 1) := by decide +kernel
theorem d_AF_value_23 : decode c_AF_value 23 = .ok (.ireturn, 1) := by decide +kernel
theorem d_AF_value_24 : decode c_AF_value 24 = .ok (.new 9, 3) := by decide +kernel
theorem d_AF_value_27 : decode c_AF_value 27 = .ok (.dup, 1) := by decide +kernel
theorem d_AF_value_28 : decode c_AF_value 28 = .ok (.invokespecial 21, 3) := by decide +kernel
theorem d_AF_value_31 : decode c_AF_value 31 = .ok (.astore 4, 2) := by decide +kernel
theorem d_AF_value_33 : decode c_AF_value 33 = .ok (.aload 4, 2) := by decide +kernel
theorem d_AF_value_35 : decode c_AF_value 35 = .ok (.lload_n 1, 1) := by decide +kernel
theorem d_AF_value_36 : decode c_AF_value 36 = .ok (.iload_n 3, 1) := by decide +kernel
theorem d_AF_value_37 : decode c_AF_value 37 = .ok (.invokevirtual 54, 3) := by decide +kernel
theorem d_AF_value_40 : decode c_AF_value 40 = .ok (.aload 4, 2) := by decide +kernel
theorem d_AF_value_42 : decode c_AF_value 42 = .ok (.aload_n 0, 1) := by decide +kernel
theorem d_AF_value_43 : decode c_AF_value 43 = .ok (.getfield 46, 3) := by decide +kernel
theorem d_AF_value_46 : decode c_AF_value 46 = .ok (.getfield 58, 3) := by decide +kernel
theorem d_AF_value_49 : decode c_AF_value 49 = .ok (.invokevirtual 61, 3) := by decide +kernel
theorem d_AF_value_52 : decode c_AF_value 52 = .ok (.aload_n 0, 1) := by decide +kernel
theorem d_AF_value_53 : decode c_AF_value 53 = .ok (.aload 4, 2) := by decide +kernel
theorem d_AF_value_55 : decode c_AF_value 55 = .ok (.invokevirtual 64, 3) := by decide +kernel
theorem d_AF_value_58 : decode c_AF_value 58 = .ok (.ireturn, 1) := by decide +kernel
theorem d_AF_keepNode_0 : decode c_AF_keepNode 0 = .ok (.aload_n 0, 1) := by decide +kernel
theorem d_AF_keepNode_1 : decode c_AF_keepNode 1 = .ok (.getfield 11, 3) := by decide +kernel
theorem d_AF_keepNode_4 : decode c_AF_keepNode 4 = .ok (.aload_n 0, 1) := by decide +kernel
theorem d_AF_keepNode_5 : decode c_AF_keepNode 5 = .ok (.getfield 50, 3) := by decide +kernel
theorem d_AF_keepNode_8 : decode c_AF_keepNode 8 = .ok (.aload_n 1, 1) := by decide +kernel
theorem d_AF_keepNode_9 : decode c_AF_keepNode 9 = .ok (.aastore, 1) := by decide +kernel
theorem d_AF_keepNode_10 : decode c_AF_keepNode 10 = .ok (.aload_n 0, 1) := by decide +kernel
theorem d_AF_keepNode_11 : decode c_AF_keepNode 11 = .ok (.dup, 1) := by decide +kernel
theorem d_AF_keepNode_12 : decode c_AF_keepNode 12 = .ok (.getfield 50, 3) := by decide +kernel
theorem d_AF_keepNode_15 : decode c_AF_keepNode 15 = .ok (.iconst 1, 1) := by decide +kernel
theorem d_AF_keepNode_16 : decode c_AF_keepNode 16 = .ok (.iadd, 1) := by decide +kernel
theorem d_AF_keepNode_17 : decode c_AF_keepNode 17 = .ok (.putfield 50, 3) := by decide +kernel
theorem d_AF_keepNode_20 : decode c_AF_keepNode 20 = .ok (.aload_n 0, 1) := by decide +kernel
theorem d_AF_keepNode_21 : decode c_AF_keepNode 21 = .ok (.getfield 50, 3) := by decide +kernel
theorem d_AF_keepNode_24 : decode c_AF_keepNode 24 = .ok (.ireturn, 1) := by decide +kernel
theorem d_AF_node_0 : decode c_AF_node 0 = .ok (.iload_n 1, 1) := by decide +kernel
theorem d_AF_node_1 : decode c_AF_node 1 = .ok (.ifCond .lt 8, 3) := by decide +kernel
theorem d_AF_node_4 : decode c_AF_node 4 = .ok (.iload_n 1, 1) := by decide +kernel
theorem d_AF_node_5 : decode c_AF_node 5 = .ok (.iconst 5, 1) := by decide +kernel
theorem d_AF_node_6 : decode c_AF_node 6 = .ok (.if_icmp .le 6, 3) := by decide +kernel
theorem d_AF_node_9 : decode c_AF_node 9 = .ok (.bipush (-4), 2) := by decide +kernel
theorem d_AF_node_11 : decode c_AF_node 11 = .ok (.ireturn, 1) := by decide +kernel
theorem d_AF_node_12 : decode c_AF_node 12 = .ok (.aload_n 0, 1) := by decide +kernel
theorem d_AF_node_13 : decode c_AF_node 13 = .ok (.iload_n 2, 1) := by decide +kernel
theorem d_AF_node_14 : decode c_AF_node 14 = .ok (.invokevirtual 68, 3) := by decide +kernel
theorem d_AF_node_17 : decode c_AF_node 17 = .ok (.astore 4, 2) := by decide +kernel
theorem d_AF_node_19 : decode c_AF_node 19 = .ok (.iload_n 1, 1) := by decide +kernel
theorem d_AF_node_20 : decode c_AF_node 20 = .ok (.iconst 5, 1) := by decide +kernel
theorem d_AF_node_21 : decode c_AF_node 21 = .ok (.if_icmp .ne 8, 3) := by decide +kernel
theorem d_AF_node_24 : decode c_AF_node 24 = .ok (.aload 4, 2) := by decide +kernel
theorem d_AF_node_26 : decode c_AF_node 26 = .ok (.goto 8, 3) := by decide +kernel
theorem d_AF_node_29 : decode c_AF_node 29 = .ok (.aload_n 0, 1) := by decide +kernel
theorem d_AF_node_30 : decode c_AF_node 30 = .ok (.iload_n 3, 1) := by decide +kernel
theorem d_AF_node_31 : decode c_AF_node 31 = .ok (.invokevirtual 68, 3) := by decide +kernel
theorem d_AF_node_34 : decode c_AF_node 34 = .ok (.astore 5, 2) := by decide +kernel
theorem d_AF_node_36 : decode c_AF_node 36 = .ok (.aload 4, 2) := by decide +kernel
theorem d_AF_node_38 : decode c_AF_node 38 = .ok (.ifnull 8, 3) := by decide +kernel
theorem d_AF_node_41 : decode c_AF_node 41 = .ok (.aload 5, 2) := by decide +kernel
theorem d_AF_node_43 : decode c_AF_node 43 = .ok (.ifnonnull 6, 3) := by decide +kernel
theorem d_AF_node_46 : decode c_AF_node 46 = .ok (.bipush (-2), 2) := by decide +kernel
theorem d_AF_node_48 : decode c_AF_node 48 = .ok (.ireturn, 1) := by decide +kernel
theorem d_AF_node_49 : decode c_AF_node 49 = .ok (.aload_n 0, 1) := by decide +kernel
theorem d_AF_node_50 : decode c_AF_node 50 = .ok (.getfield 50, 3) := by decide +kernel
theorem d_AF_node_53 : decode c_AF_node 53 = .ok (.bipush 100, 2) := by decide +kernel
theorem d_AF_node_55 : decode c_AF_node 55 = .ok (.if_icmp .lt 5, 3) := by decide +kernel
theorem d_AF_node_58 : decode c_AF_node 58 = .ok (.iconst (-1), 1) := by decide +kernel
theorem d_AF_node_59 : decode c_AF_node 59 = .ok (.ireturn, 1) := by decide +kernel
theorem d_AF_node_60 : decode c_AF_node 60 = .ok (.new 9, 3) := by decide +kernel
theorem d_AF_node_63 : decode c_AF_node 63 = .ok (.dup, 1) := by decide +kernel
theorem d_AF_node_64 : decode c_AF_node 64 = .ok (.invokespecial 21, 3) := by decide +kernel
theorem d_AF_node_67 : decode c_AF_node 67 = .ok (.astore 6, 2) := by decide +kernel
theorem d_AF_node_69 : decode c_AF_node 69 = .ok (.aload_n 0, 1) := by decide +kernel
theorem d_AF_node_70 : decode c_AF_node 70 = .ok (.iload_n 1, 1) := by decide +kernel
theorem d_AF_node_71 : decode c_AF_node 71 = .ok (.aload 6, 2) := by decide +kernel
theorem d_AF_node_73 : decode c_AF_node 73 = .ok (.aload 4, 2) := by decide +kernel
theorem d_AF_node_75 : decode c_AF_node 75 = .ok (.aload 5, 2) := by decide +kernel
theorem d_AF_node_77 : decode c_AF_node 77 = .ok (.invokevirtual 72, 3) := by decide +kernel
theorem d_AF_node_80 : decode c_AF_node 80 = .ok (.aload_n 0, 1) := by decide +kernel
theorem d_AF_node_81 : decode c_AF_node 81 = .ok (.aload 6, 2) := by decide +kernel
theorem d_AF_node_83 : decode c_AF_node 83 = .ok (.invokevirtual 64, 3) := by decide +kernel
theorem d_AF_node_86 : decode c_AF_node 86 = .ok (.ireturn, 1) := by decide +kernel
theorem d_AF_nodeAt_0 : decode c_AF_nodeAt 0 = .ok (.iload_n 1, 1) := by decide +kernel
theorem d_AF_nodeAt_1 : decode c_AF_nodeAt 1 = .ok (.iconst 1, 1) := by decide +kernel
theorem d_AF_nodeAt_2 : decode c_AF_nodeAt 2 = .ok (.if_icmp .lt 11, 3) := by decide +kernel
theorem d_AF_nodeAt_5 : decode c_AF_nodeAt 5 = .ok (.iload_n 1, 1) := by decide +kernel
theorem d_AF_nodeAt_6 : decode c_AF_nodeAt 6 = .ok (.aload_n 0, 1) := by decide +kernel
theorem d_AF_nodeAt_7 : decode c_AF_nodeAt 7 = .ok (.getfield 50, 3) := by decide +kernel
theorem d_AF_nodeAt_10 : decode c_AF_nodeAt 10 = .ok (.if_icmp .le 7, 3) := by decide +kernel
theorem d_AF_nodeAt_13 : decode c_AF_nodeAt 13 = .ok (.aconst_null, 1) := by decide +kernel
theorem d_AF_nodeAt_14 : decode c_AF_nodeAt 14 = .ok (.goto 11, 3) := by decide +kernel
theorem d_AF_nodeAt_17 : decode c_AF_nodeAt 17 = .ok (.aload_n 0, 1) := by decide +kernel
theorem d_AF_nodeAt_18 : decode c_AF_nodeAt 18 = .ok (.getfield 11, 3) := by decide +kernel
theorem d_AF_nodeAt_21 : decode c_AF_nodeAt 21 = .ok (.iload_n 1, 1) := by decide +kernel
theorem d_AF_nodeAt_22 : decode c_AF_nodeAt 22 = .ok (.iconst 1, 1) := by decide +kernel
theorem d_AF_nodeAt_23 : decode c_AF_nodeAt 23 = .ok (.isub, 1) := by decide +kernel
theorem d_AF_nodeAt_24 : decode c_AF_nodeAt 24 = .ok (.aaload, 1) := by decide +kernel
theorem d_AF_nodeAt_25 : decode c_AF_nodeAt 25 = .ok (.areturn, 1) := by decide +kernel
theorem d_AF_operate_0 : decode c_AF_operate 0 = .ok (.iload_n 1, 1) := by decide +kernel
theorem d_AF_operate_1 : decode c_AF_operate 1 = .ok (.lookupswitch 58 #[(4, 27), (5, 41)], 27) := by decide +kernel
theorem d_AF_operate_28 : decode c_AF_operate 28 = .ok (.aload_n 0, 1) := by decide +kernel
theorem d_AF_operate_29 : decode c_AF_operate 29 = .ok (.getfield 46, 3) := by decide +kernel
theorem d_AF_operate_32 : decode c_AF_operate 32 = .ok (.aload_n 2, 1) := by decide +kernel
theorem d_AF_operate_33 : decode c_AF_operate 33 = .ok (.aload_n 3, 1) := by decide +kernel
theorem d_AF_operate_34 : decode c_AF_operate 34 = .ok (.aload 4, 2) := by decide +kernel
theorem d_AF_operate_36 : decode c_AF_operate 36 = .ok (.invokevirtual 134, 3) := by decide +kernel
theorem d_AF_operate_39 : decode c_AF_operate 39 = .ok (.goto 29, 3) := by decide +kernel
theorem d_AF_operate_42 : decode c_AF_operate 42 = .ok (.aload_n 2, 1) := by decide +kernel
theorem d_AF_operate_43 : decode c_AF_operate 43 = .ok (.aload_n 3, 1) := by decide +kernel
theorem d_AF_operate_44 : decode c_AF_operate 44 = .ok (.invokevirtual 138, 3) := by decide +kernel
theorem d_AF_operate_47 : decode c_AF_operate 47 = .ok (.aload_n 2, 1) := by decide +kernel
theorem d_AF_operate_48 : decode c_AF_operate 48 = .ok (.aload_n 3, 1) := by decide +kernel
theorem d_AF_operate_49 : decode c_AF_operate 49 = .ok (.getfield 120, 3) := by decide +kernel
theorem d_AF_operate_52 : decode c_AF_operate 52 = .ok (.ineg, 1) := by decide +kernel
theorem d_AF_operate_53 : decode c_AF_operate 53 = .ok (.putfield 120, 3) := by decide +kernel
theorem d_AF_operate_56 : decode c_AF_operate 56 = .ok (.goto 12, 3) := by decide +kernel
theorem d_AF_operate_59 : decode c_AF_operate 59 = .ok (.aload_n 0, 1) := by decide +kernel
theorem d_AF_operate_60 : decode c_AF_operate 60 = .ok (.iload_n 1, 1) := by decide +kernel
theorem d_AF_operate_61 : decode c_AF_operate 61 = .ok (.aload_n 2, 1) := by decide +kernel
theorem d_AF_operate_62 : decode c_AF_operate 62 = .ok (.aload_n 3, 1) := by decide +kernel
theorem d_AF_operate_63 : decode c_AF_operate 63 = .ok (.aload 4, 2) := by decide +kernel
theorem d_AF_operate_65 : decode c_AF_operate 65 = .ok (.invokevirtual 142, 3) := by decide +kernel
theorem d_AF_operate_68 : decode c_AF_operate 68 = .ok (.return_, 1) := by decide +kernel
theorem d_AF_calculate_0 : decode c_AF_calculate 0 = .ok (.iload_n 1, 1) := by decide +kernel
theorem d_AF_calculate_1 : decode c_AF_calculate 1 = .ok (.tableswitch 71 0 2 #[27, 42, 57], 27) := by decide +kernel
theorem d_AF_calculate_28 : decode c_AF_calculate 28 = .ok (.aload_n 0, 1) := by decide +kernel
theorem d_AF_calculate_29 : decode c_AF_calculate 29 = .ok (.getfield 46, 3) := by decide +kernel
theorem d_AF_calculate_32 : decode c_AF_calculate 32 = .ok (.aload_n 2, 1) := by decide +kernel
theorem d_AF_calculate_33 : decode c_AF_calculate 33 = .ok (.aload_n 3, 1) := by decide +kernel
theorem d_AF_calculate_34 : decode c_AF_calculate 34 = .ok (.aload 4, 2) := by decide +kernel
theorem d_AF_calculate_36 : decode c_AF_calculate 36 = .ok (.iconst 1, 1) := by decide +kernel
theorem d_AF_calculate_37 : decode c_AF_calculate 37 = .ok (.invokevirtual 145, 3) := by decide +kernel
theorem d_AF_calculate_40 : decode c_AF_calculate 40 = .ok (.goto 43, 3) := by decide +kernel
theorem d_AF_calculate_43 : decode c_AF_calculate 43 = .ok (.aload_n 0, 1) := by decide +kernel
theorem d_AF_calculate_44 : decode c_AF_calculate 44 = .ok (.getfield 46, 3) := by decide +kernel
theorem d_AF_calculate_47 : decode c_AF_calculate 47 = .ok (.aload_n 2, 1) := by decide +kernel
theorem d_AF_calculate_48 : decode c_AF_calculate 48 = .ok (.aload_n 3, 1) := by decide +kernel
theorem d_AF_calculate_49 : decode c_AF_calculate 49 = .ok (.aload 4, 2) := by decide +kernel
theorem d_AF_calculate_51 : decode c_AF_calculate 51 = .ok (.iconst (-1), 1) := by decide +kernel
theorem d_AF_calculate_52 : decode c_AF_calculate 52 = .ok (.invokevirtual 145, 3) := by decide +kernel
theorem d_AF_calculate_55 : decode c_AF_calculate 55 = .ok (.goto 28, 3) := by decide +kernel
theorem d_AF_calculate_58 : decode c_AF_calculate 58 = .ok (.aload_n 0, 1) := by decide +kernel
theorem d_AF_calculate_59 : decode c_AF_calculate 59 = .ok (.getfield 46, 3) := by decide +kernel
theorem d_AF_calculate_62 : decode c_AF_calculate 62 = .ok (.aload_n 2, 1) := by decide +kernel
theorem d_AF_calculate_63 : decode c_AF_calculate 63 = .ok (.aload_n 3, 1) := by decide +kernel
theorem d_AF_calculate_64 : decode c_AF_calculate 64 = .ok (.aload 4, 2) := by decide +kernel
theorem d_AF_calculate_66 : decode c_AF_calculate 66 = .ok (.invokevirtual 149, 3) := by decide +kernel
theorem d_AF_calculate_69 : decode c_AF_calculate 69 = .ok (.goto 14, 3) := by decide +kernel
theorem d_AF_calculate_72 : decode c_AF_calculate 72 = .ok (.aload_n 0, 1) := by decide +kernel
theorem d_AF_calculate_73 : decode c_AF_calculate 73 = .ok (.getfield 46, 3) := by decide +kernel
theorem d_AF_calculate_76 : decode c_AF_calculate 76 = .ok (.aload_n 2, 1) := by decide +kernel
theorem d_AF_calculate_77 : decode c_AF_calculate 77 = .ok (.aload_n 3, 1) := by decide +kernel
theorem d_AF_calculate_78 : decode c_AF_calculate 78 = .ok (.aload 4, 2) := by decide +kernel
theorem d_AF_calculate_80 : decode c_AF_calculate 80 = .ok (.invokevirtual 152, 3) := by decide +kernel
theorem d_AF_calculate_83 : decode c_AF_calculate 83 = .ok (.return_, 1) := by decide +kernel
theorem d_AF_receiver_0 : decode c_AF_receiver 0 = .ok (.iload_n 1, 1) := by decide +kernel
theorem d_AF_receiver_1 : decode c_AF_receiver 1 = .ok (.iconst 1, 1) := by decide +kernel
theorem d_AF_receiver_2 : decode c_AF_receiver 2 = .ok (.if_icmp .lt 28, 3) := by decide +kernel
theorem d_AF_receiver_5 : decode c_AF_receiver 5 = .ok (.iload_n 1, 1) := by decide +kernel
theorem d_AF_receiver_6 : decode c_AF_receiver 6 = .ok (.bipush 18, 2) := by decide +kernel
theorem d_AF_receiver_8 : decode c_AF_receiver 8 = .ok (.if_icmp .gt 22, 3) := by decide +kernel
theorem d_AF_receiver_11 : decode c_AF_receiver 11 = .ok (.iload_n 2, 1) := by decide +kernel
theorem d_AF_receiver_12 : decode c_AF_receiver 12 = .ok (.ifCond .lt 18, 3) := by decide +kernel
theorem d_AF_receiver_15 : decode c_AF_receiver 15 = .ok (.iload_n 2, 1) := by decide +kernel
theorem d_AF_receiver_16 : decode c_AF_receiver 16 = .ok (.iload_n 1, 1) := by decide +kernel
theorem d_AF_receiver_17 : decode c_AF_receiver 17 = .ok (.if_icmp .gt 13, 3) := by decide +kernel
theorem d_AF_receiver_20 : decode c_AF_receiver 20 = .ok (.iload_n 3, 1) := by decide +kernel
theorem d_AF_receiver_21 : decode c_AF_receiver 21 = .ok (.ifCond .lt 9, 3) := by decide +kernel
theorem d_AF_receiver_24 : decode c_AF_receiver 24 = .ok (.iload_n 3, 1) := by decide +kernel
theorem d_AF_receiver_25 : decode c_AF_receiver 25 = .ok (.bipush 7, 2) := by decide +kernel
theorem d_AF_receiver_27 : decode c_AF_receiver 27 = .ok (.if_icmp .le 6, 3) := by decide +kernel
theorem d_AF_receiver_30 : decode c_AF_receiver 30 = .ok (.bipush (-4), 2) := by decide +kernel
theorem d_AF_receiver_32 : decode c_AF_receiver 32 = .ok (.ireturn, 1) := by decide +kernel
theorem d_AF_receiver_33 : decode c_AF_receiver 33 = .ok (.aload_n 0, 1) := by decide +kernel
theorem d_AF_receiver_34 : decode c_AF_receiver 34 = .ok (.getfield 76, 3) := by decide +kernel
theorem d_AF_receiver_37 : decode c_AF_receiver 37 = .ok (.bipush 20, 2) := by decide +kernel
theorem d_AF_receiver_39 : decode c_AF_receiver 39 = .ok (.if_icmp .lt 5, 3) := by decide +kernel
theorem d_AF_receiver_42 : decode c_AF_receiver 42 = .ok (.iconst (-1), 1) := by decide +kernel
theorem d_AF_receiver_43 : decode c_AF_receiver 43 = .ok (.ireturn, 1) := by decide +kernel
theorem d_AF_receiver_44 : decode c_AF_receiver 44 = .ok (.aload_n 0, 1) := by decide +kernel
theorem d_AF_receiver_45 : decode c_AF_receiver 45 = .ok (.getfield 17, 3) := by decide +kernel
theorem d_AF_receiver_48 : decode c_AF_receiver 48 = .ok (.aload_n 0, 1) := by decide +kernel
theorem d_AF_receiver_49 : decode c_AF_receiver 49 = .ok (.getfield 76, 3) := by decide +kernel
theorem d_AF_receiver_52 : decode c_AF_receiver 52 = .ok (.new 15, 3) := by decide +kernel
theorem d_AF_receiver_55 : decode c_AF_receiver 55 = .ok (.dup, 1) := by decide +kernel
theorem d_AF_receiver_56 : decode c_AF_receiver 56 = .ok (.iload_n 1, 1) := by decide +kernel
theorem d_AF_receiver_57 : decode c_AF_receiver 57 = .ok (.iload_n 2, 1) := by decide +kernel
theorem d_AF_receiver_58 : decode c_AF_receiver 58 = .ok (.iload_n 3, 1) := by decide +kernel
theorem d_AF_receiver_59 : decode c_AF_receiver 59 = .ok (.invokespecial 79, 3) := by decide +kernel
theorem d_AF_receiver_62 : decode c_AF_receiver 62 = .ok (.aastore, 1) := by decide +kernel
theorem d_AF_receiver_63 : decode c_AF_receiver 63 = .ok (.aload_n 0, 1) := by decide +kernel
theorem d_AF_receiver_64 : decode c_AF_receiver 64 = .ok (.dup, 1) := by decide +kernel
theorem d_AF_receiver_65 : decode c_AF_receiver 65 = .ok (.getfield 76, 3) := by decide +kernel
theorem d_AF_receiver_68 : decode c_AF_receiver 68 = .ok (.iconst 1, 1) := by decide +kernel
theorem d_AF_receiver_69 : decode c_AF_receiver 69 = .ok (.iadd, 1) := by decide +kernel
theorem d_AF_receiver_70 : decode c_AF_receiver 70 = .ok (.putfield 76, 3) := by decide +kernel
theorem d_AF_receiver_73 : decode c_AF_receiver 73 = .ok (.aload_n 0, 1) := by decide +kernel
theorem d_AF_receiver_74 : decode c_AF_receiver 74 = .ok (.getfield 76, 3) := by decide +kernel
theorem d_AF_receiver_77 : decode c_AF_receiver 77 = .ok (.ireturn, 1) := by decide +kernel
theorem d_AF_run_0 : decode c_AF_run 0 = .ok (.iload_n 1, 1) := by decide +kernel
theorem d_AF_run_1 : decode c_AF_run 1 = .ok (.ifCond .lt 8, 3) := by decide +kernel
theorem d_AF_run_4 : decode c_AF_run 4 = .ok (.iload_n 1, 1) := by decide +kernel
theorem d_AF_run_5 : decode c_AF_run 5 = .ok (.iconst 4, 1) := by decide +kernel
theorem d_AF_run_6 : decode c_AF_run 6 = .ok (.if_icmp .le 6, 3) := by decide +kernel
theorem d_AF_run_9 : decode c_AF_run 9 = .ok (.bipush (-4), 2) := by decide +kernel
theorem d_AF_run_11 : decode c_AF_run 11 = .ok (.ireturn, 1) := by decide +kernel
theorem d_AF_run_12 : decode c_AF_run 12 = .ok (.aload_n 0, 1) := by decide +kernel
theorem d_AF_run_13 : decode c_AF_run 13 = .ok (.iload_n 2, 1) := by decide +kernel
theorem d_AF_run_14 : decode c_AF_run 14 = .ok (.invokevirtual 68, 3) := by decide +kernel
theorem d_AF_run_17 : decode c_AF_run 17 = .ok (.astore 4, 2) := by decide +kernel
theorem d_AF_run_19 : decode c_AF_run 19 = .ok (.aload 4, 2) := by decide +kernel
theorem d_AF_run_21 : decode c_AF_run 21 = .ok (.ifnonnull 6, 3) := by decide +kernel
theorem d_AF_run_24 : decode c_AF_run 24 = .ok (.bipush (-2), 2) := by decide +kernel
theorem d_AF_run_26 : decode c_AF_run 26 = .ok (.ireturn, 1) := by decide +kernel
theorem d_AF_run_27 : decode c_AF_run 27 = .ok (.aload_n 0, 1) := by decide +kernel
theorem d_AF_run_28 : decode c_AF_run 28 = .ok (.iconst 0, 1) := by decide +kernel
theorem d_AF_run_29 : decode c_AF_run 29 = .ok (.putfield 82, 3) := by decide +kernel
theorem d_AF_run_32 : decode c_AF_run 32 = .ok (.iconst 0, 1) := by decide +kernel
theorem d_AF_run_33 : decode c_AF_run 33 = .ok (.istore 5, 2) := by decide +kernel
theorem d_AF_run_35 : decode c_AF_run 35 = .ok (.iconst 1, 1) := by decide +kernel
theorem d_AF_run_36 : decode c_AF_run 36 = .ok (.istore 6, 2) := by decide +kernel
theorem d_AF_run_38 : decode c_AF_run 38 = .ok (.iload 6, 2) := by decide +kernel
theorem d_AF_run_40 : decode c_AF_run 40 = .ok (.aload_n 0, 1) := by decide +kernel
theorem d_AF_run_41 : decode c_AF_run 41 = .ok (.getfield 76, 3) := by decide +kernel
theorem d_AF_run_44 : decode c_AF_run 44 = .ok (.if_icmp .gt 38, 3) := by decide +kernel
theorem d_AF_run_47 : decode c_AF_run 47 = .ok (.aload_n 0, 1) := by decide +kernel
theorem d_AF_run_48 : decode c_AF_run 48 = .ok (.iload 6, 2) := by decide +kernel
theorem d_AF_run_50 : decode c_AF_run 50 = .ok (.invokevirtual 85, 3) := by decide +kernel
theorem d_AF_run_53 : decode c_AF_run 53 = .ok (.astore 7, 2) := by decide +kernel
theorem d_AF_run_55 : decode c_AF_run 55 = .ok (.aload 7, 2) := by decide +kernel
theorem d_AF_run_57 : decode c_AF_run 57 = .ok (.ifnull 19, 3) := by decide +kernel
theorem d_AF_run_60 : decode c_AF_run 60 = .ok (.aload_n 0, 1) := by decide +kernel
theorem d_AF_run_61 : decode c_AF_run 61 = .ok (.aload 7, 2) := by decide +kernel
theorem d_AF_run_63 : decode c_AF_run 63 = .ok (.iload_n 1, 1) := by decide +kernel
theorem d_AF_run_64 : decode c_AF_run 64 = .ok (.aload 4, 2) := by decide +kernel
theorem d_AF_run_66 : decode c_AF_run 66 = .ok (.iload_n 3, 1) := by decide +kernel
theorem d_AF_run_67 : decode c_AF_run 67 = .ok (.invokevirtual 89, 3) := by decide +kernel
theorem d_AF_run_70 : decode c_AF_run 70 = .ok (.ifCond .eq 6, 3) := by decide +kernel
theorem d_AF_run_73 : decode c_AF_run 73 = .ok (.iinc 5 1, 3) := by decide +kernel
theorem d_AF_run_76 : decode c_AF_run 76 = .ok (.iinc 6 1, 3) := by decide +kernel
theorem d_AF_run_79 : decode c_AF_run 79 = .ok (.goto (-41), 3) := by decide +kernel
theorem d_AF_run_82 : decode c_AF_run 82 = .ok (.iload 5, 2) := by decide +kernel
theorem d_AF_run_84 : decode c_AF_run 84 = .ok (.ireturn, 1) := by decide +kernel
theorem d_AF_receiverAt_0 : decode c_AF_receiverAt 0 = .ok (.iload_n 1, 1) := by decide +kernel
theorem d_AF_receiverAt_1 : decode c_AF_receiverAt 1 = .ok (.iconst 1, 1) := by decide +kernel
theorem d_AF_receiverAt_2 : decode c_AF_receiverAt 2 = .ok (.if_icmp .lt 11, 3) := by decide +kernel
theorem d_AF_receiverAt_5 : decode c_AF_receiverAt 5 = .ok (.iload_n 1, 1) := by decide +kernel
theorem d_AF_receiverAt_6 : decode c_AF_receiverAt 6 = .ok (.aload_n 0, 1) := by decide +kernel
theorem d_AF_receiverAt_7 : decode c_AF_receiverAt 7 = .ok (.getfield 76, 3) := by decide +kernel
theorem d_AF_receiverAt_10 : decode c_AF_receiverAt 10 = .ok (.if_icmp .le 7, 3) := by decide +kernel
theorem d_AF_receiverAt_13 : decode c_AF_receiverAt 13 = .ok (.aconst_null, 1) := by decide +kernel
theorem d_AF_receiverAt_14 : decode c_AF_receiverAt 14 = .ok (.goto 11, 3) := by decide +kernel
theorem d_AF_receiverAt_17 : decode c_AF_receiverAt 17 = .ok (.aload_n 0, 1) := by decide +kernel
theorem d_AF_receiverAt_18 : decode c_AF_receiverAt 18 = .ok (.getfield 17, 3) := by decide +kernel
theorem d_AF_receiverAt_21 : decode c_AF_receiverAt 21 = .ok (.iload_n 1, 1) := by decide +kernel
theorem d_AF_receiverAt_22 : decode c_AF_receiverAt 22 = .ok (.iconst 1, 1) := by decide +kernel
theorem d_AF_receiverAt_23 : decode c_AF_receiverAt 23 = .ok (.isub, 1) := by decide +kernel
theorem d_AF_receiverAt_24 : decode c_AF_receiverAt 24 = .ok (.aaload, 1) := by decide +kernel
theorem d_AF_receiverAt_25 : decode c_AF_receiverAt 25 = .ok (.areturn, 1) := by decide +kernel
theorem d_AF_give_0 : decode c_AF_give 0 = .ok (.aload_n 0, 1) := by decide +kernel
theorem d_AF_give_1 : decode c_AF_give 1 = .ok (.getfield 22, 3) := by decide +kernel
theorem d_AF_give_4 : decode c_AF_give 4 = .ok (.aload_n 1, 1) := by decide +kernel
theorem d_AF_give_5 : decode c_AF_give 5 = .ok (.getfield 93, 3) := by decide +kernel
theorem d_AF_give_8 : decode c_AF_give 8 = .ok (.aload_n 1, 1) := by decide +kernel
theorem d_AF_give_9 : decode c_AF_give 9 = .ok (.getfield 155, 3) := by decide +kernel
theorem d_AF_give_12 : decode c_AF_give 12 = .ok (.invokevirtual 54, 3) := by decide +kernel
theorem d_AF_give_15 : decode c_AF_give 15 = .ok (.iload_n 2, 1) := by decide +kernel
theorem d_AF_give_16 : decode c_AF_give 16 = .ok (.ifCond .ne 14, 3) := by decide +kernel
theorem d_AF_give_19 : decode c_AF_give 19 = .ok (.aload_n 0, 1) := by decide +kernel
theorem d_AF_give_20 : decode c_AF_give 20 = .ok (.getfield 26, 3) := by decide +kernel
theorem d_AF_give_23 : decode c_AF_give 23 = .ok (.aload_n 3, 1) := by decide +kernel
theorem d_AF_give_24 : decode c_AF_give 24 = .ok (.invokevirtual 138, 3) := by decide +kernel
theorem d_AF_give_27 : decode c_AF_give 27 = .ok (.goto 19, 3) := by decide +kernel
theorem d_AF_give_30 : decode c_AF_give 30 = .ok (.aload_n 0, 1) := by decide +kernel
theorem d_AF_give_31 : decode c_AF_give 31 = .ok (.iload_n 2, 1) := by decide +kernel
theorem d_AF_give_32 : decode c_AF_give 32 = .ok (.iconst 1, 1) := by decide +kernel
theorem d_AF_give_33 : decode c_AF_give 33 = .ok (.isub, 1) := by decide +kernel
theorem d_AF_give_34 : decode c_AF_give 34 = .ok (.aload_n 0, 1) := by decide +kernel
theorem d_AF_give_35 : decode c_AF_give 35 = .ok (.getfield 26, 3) := by decide +kernel
theorem d_AF_give_38 : decode c_AF_give 38 = .ok (.aload_n 0, 1) := by decide +kernel
theorem d_AF_give_39 : decode c_AF_give 39 = .ok (.getfield 22, 3) := by decide +kernel
theorem d_AF_give_42 : decode c_AF_give 42 = .ok (.aload_n 3, 1) := by decide +kernel
theorem d_AF_give_43 : decode c_AF_give 43 = .ok (.invokevirtual 142, 3) := by decide +kernel
theorem d_AF_give_46 : decode c_AF_give 46 = .ok (.aload_n 0, 1) := by decide +kernel
theorem d_AF_give_47 : decode c_AF_give 47 = .ok (.getfield 26, 3) := by decide +kernel
theorem d_AF_give_50 : decode c_AF_give 50 = .ok (.getfield 110, 3) := by decide +kernel
theorem d_AF_give_53 : decode c_AF_give 53 = .ok (.istore 5, 2) := by decide +kernel
theorem d_AF_give_55 : decode c_AF_give 55 = .ok (.iload 5, 2) := by decide +kernel
theorem d_AF_give_57 : decode c_AF_give 57 = .ok (.ifCond .ne 17, 3) := by decide +kernel
theorem d_AF_give_60 : decode c_AF_give 60 = .ok (.aload_n 1, 1) := by decide +kernel
theorem d_AF_give_61 : decode c_AF_give 61 = .ok (.aload_n 0, 1) := by decide +kernel
theorem d_AF_give_62 : decode c_AF_give 62 = .ok (.getfield 26, 3) := by decide +kernel
theorem d_AF_give_65 : decode c_AF_give 65 = .ok (.invokevirtual 158, 3) := by decide +kernel
theorem d_AF_give_68 : decode c_AF_give 68 = .ok (.ifCond .eq 6, 3) := by decide +kernel
theorem d_AF_give_71 : decode c_AF_give 71 = .ok (.iconst 3, 1) := by decide +kernel
theorem d_AF_give_72 : decode c_AF_give 72 = .ok (.istore 5, 2) := by decide +kernel
theorem d_AF_give_74 : decode c_AF_give 74 = .ok (.iload 5, 2) := by decide +kernel
theorem d_AF_give_76 : decode c_AF_give 76 = .ok (.ifCond .ne 18, 3) := by decide +kernel
theorem d_AF_give_79 : decode c_AF_give 79 = .ok (.aload_n 1, 1) := by decide +kernel
theorem d_AF_give_80 : decode c_AF_give 80 = .ok (.aload_n 0, 1) := by decide +kernel
theorem d_AF_give_81 : decode c_AF_give 81 = .ok (.getfield 26, 3) := by decide +kernel
theorem d_AF_give_84 : decode c_AF_give 84 = .ok (.invokevirtual 162, 3) := by decide +kernel
theorem d_AF_give_87 : decode c_AF_give 87 = .ok (.ifCond .eq 7, 3) := by decide +kernel
theorem d_AF_give_90 : decode c_AF_give 90 = .ok (.iconst 1, 1) := by decide +kernel
theorem d_AF_give_91 : decode c_AF_give 91 = .ok (.goto 4, 3) := by decide +kernel
theorem d_AF_give_94 : decode c_AF_give 94 = .ok (.iconst 0, 1) := by decide +kernel
theorem d_AF_give_95 : decode c_AF_give 95 = .ok (.istore 6, 2) := by decide +kernel
theorem d_AF_give_97 : decode c_AF_give 97 = .ok (.aload_n 1, 1) := by decide +kernel
theorem d_AF_give_98 : decode c_AF_give 98 = .ok (.iload 6, 2) := by decide +kernel
theorem d_AF_give_100 : decode c_AF_give 100 = .ok (.ifCond .ne 7, 3) := by decide +kernel
theorem d_AF_give_103 : decode c_AF_give 103 = .ok (.iconst 1, 1) := by decide +kernel
theorem d_AF_give_104 : decode c_AF_give 104 = .ok (.goto 4, 3) := by decide +kernel
theorem d_AF_give_107 : decode c_AF_give 107 = .ok (.iconst 0, 1) := by decide +kernel
theorem d_AF_give_108 : decode c_AF_give 108 = .ok (.putfield 101, 3) := by decide +kernel
theorem d_AF_give_111 : decode c_AF_give 111 = .ok (.iload 6, 2) := by decide +kernel
theorem d_AF_give_113 : decode c_AF_give 113 = .ok (.ifCond .ne 18, 3) := by decide +kernel
theorem d_AF_give_116 : decode c_AF_give 116 = .ok (.aload_n 0, 1) := by decide +kernel
theorem d_AF_give_117 : decode c_AF_give 117 = .ok (.iload 5, 2) := by decide +kernel
theorem d_AF_give_119 : decode c_AF_give 119 = .ok (.ifCond .ne 7, 3) := by decide +kernel
theorem d_AF_give_122 : decode c_AF_give 122 = .ok (.iconst 1, 1) := by decide +kernel
theorem d_AF_give_123 : decode c_AF_give 123 = .ok (.goto 5, 3) := by decide +kernel
theorem d_AF_give_126 : decode c_AF_give 126 = .ok (.iload 5, 2) := by decide +kernel
theorem d_AF_give_128 : decode c_AF_give 128 = .ok (.putfield 82, 3) := by decide +kernel
theorem d_AF_give_131 : decode c_AF_give 131 = .ok (.iload 6, 2) := by decide +kernel
theorem d_AF_give_133 : decode c_AF_give 133 = .ok (.ifCond .ne 13, 3) := by decide +kernel
theorem d_AF_give_136 : decode c_AF_give 136 = .ok (.iload 5, 2) := by decide +kernel
theorem d_AF_give_138 : decode c_AF_give 138 = .ok (.ifCond .ne 33, 3) := by decide +kernel
theorem d_AF_give_141 : decode c_AF_give 141 = .ok (.iload 4, 2) := by decide +kernel
theorem d_AF_give_143 : decode c_AF_give 143 = .ok (.ifCond .ne 28, 3) := by decide +kernel
theorem d_AF_give_146 : decode c_AF_give 146 = .ok (.aload_n 1, 1) := by decide +kernel
theorem d_AF_give_147 : decode c_AF_give 147 = .ok (.aload_n 1, 1) := by decide +kernel
theorem d_AF_give_148 : decode c_AF_give 148 = .ok (.aload_n 0, 1) := by decide +kernel
theorem d_AF_give_149 : decode c_AF_give 149 = .ok (.getfield 26, 3) := by decide +kernel
theorem d_AF_give_152 : decode c_AF_give 152 = .ok (.getfield 120, 3) := by decide +kernel
theorem d_AF_give_155 : decode c_AF_give 155 = .ok (.i2l, 1) := by decide +kernel
theorem d_AF_give_156 : decode c_AF_give 156 = .ok (.aload_n 1, 1) := by decide +kernel
theorem d_AF_give_157 : decode c_AF_give 157 = .ok (.aload_n 0, 1) := by decide +kernel
theorem d_AF_give_158 : decode c_AF_give 158 = .ok (.getfield 26, 3) := by decide +kernel
theorem d_AF_give_161 : decode c_AF_give 161 = .ok (.invokevirtual 165, 3) := by decide +kernel
theorem d_AF_give_164 : decode c_AF_give 164 = .ok (.lmul, 1) := by decide +kernel
theorem d_AF_give_165 : decode c_AF_give 165 = .ok (.invokevirtual 97, 3) := by decide +kernel
theorem d_AF_give_168 : decode c_AF_give 168 = .ok (.putfield 93, 3) := by decide +kernel
theorem d_AF_give_171 : decode c_AF_give 171 = .ok (.iload_n 2, 1) := by decide +kernel
theorem d_AF_give_172 : decode c_AF_give 172 = .ok (.iconst 4, 1) := by decide +kernel
theorem d_AF_give_173 : decode c_AF_give 173 = .ok (.if_icmp .ne 22, 3) := by decide +kernel
theorem d_AF_give_176 : decode c_AF_give 176 = .ok (.aload_n 1, 1) := by decide +kernel
theorem d_AF_give_177 : decode c_AF_give 177 = .ok (.iload 6, 2) := by decide +kernel
theorem d_AF_give_179 : decode c_AF_give 179 = .ok (.ifCond .eq 12, 3) := by decide +kernel
theorem d_AF_give_182 : decode c_AF_give 182 = .ok (.aload_n 0, 1) := by decide +kernel
theorem d_AF_give_183 : decode c_AF_give 183 = .ok (.aload_n 1, 1) := by decide +kernel
theorem d_AF_give_184 : decode c_AF_give 184 = .ok (.aload_n 3, 1) := by decide +kernel
theorem d_AF_give_185 : decode c_AF_give 185 = .ok (.invokevirtual 169, 3) := by decide +kernel
theorem d_AF_give_188 : decode c_AF_give 188 = .ok (.goto 4, 3) := by decide +kernel
theorem d_AF_give_191 : decode c_AF_give 191 = .ok (.lconst 0, 1) := by decide +kernel
theorem d_AF_give_192 : decode c_AF_give 192 = .ok (.putfield 105, 3) := by decide +kernel
theorem d_AF_give_195 : decode c_AF_give 195 = .ok (.iload 6, 2) := by decide +kernel
theorem d_AF_give_197 : decode c_AF_give 197 = .ok (.ireturn, 1) := by decide +kernel
theorem d_AF_restOf_0 : decode c_AF_restOf 0 = .ok (.aload_n 0, 1) := by decide +kernel
theorem d_AF_restOf_1 : decode c_AF_restOf 1 = .ok (.getfield 26, 3) := by decide +kernel
theorem d_AF_restOf_4 : decode c_AF_restOf 4 = .ok (.aload_n 0, 1) := by decide +kernel
theorem d_AF_restOf_5 : decode c_AF_restOf 5 = .ok (.getfield 26, 3) := by decide +kernel
theorem d_AF_restOf_8 : decode c_AF_restOf 8 = .ok (.aload_n 1, 1) := by decide +kernel
theorem d_AF_restOf_9 : decode c_AF_restOf 9 = .ok (.getfield 155, 3) := by decide +kernel
theorem d_AF_restOf_12 : decode c_AF_restOf 12 = .ok (.invokevirtual 173, 3) := by decide +kernel
theorem d_AF_restOf_15 : decode c_AF_restOf 15 = .ok (.invokevirtual 61, 3) := by decide +kernel
theorem d_AF_restOf_18 : decode c_AF_restOf 18 = .ok (.aload_n 0, 1) := by decide +kernel
theorem d_AF_restOf_19 : decode c_AF_restOf 19 = .ok (.getfield 46, 3) := by decide +kernel
theorem d_AF_restOf_22 : decode c_AF_restOf 22 = .ok (.aload_n 0, 1) := by decide +kernel
theorem d_AF_restOf_23 : decode c_AF_restOf 23 = .ok (.getfield 29, 3) := by decide +kernel
theorem d_AF_restOf_26 : decode c_AF_restOf 26 = .ok (.aload_n 2, 1) := by decide +kernel
theorem d_AF_restOf_27 : decode c_AF_restOf 27 = .ok (.aload_n 0, 1) := by decide +kernel
theorem d_AF_restOf_28 : decode c_AF_restOf 28 = .ok (.getfield 26, 3) := by decide +kernel
theorem d_AF_restOf_31 : decode c_AF_restOf 31 = .ok (.invokevirtual 149, 3) := by decide +kernel
theorem d_AF_restOf_34 : decode c_AF_restOf 34 = .ok (.aload_n 0, 1) := by decide +kernel
theorem d_AF_restOf_35 : decode c_AF_restOf 35 = .ok (.getfield 46, 3) := by decide +kernel
theorem d_AF_restOf_38 : decode c_AF_restOf 38 = .ok (.aload_n 0, 1) := by decide +kernel
theorem d_AF_restOf_39 : decode c_AF_restOf 39 = .ok (.getfield 29, 3) := by decide +kernel
theorem d_AF_restOf_42 : decode c_AF_restOf 42 = .ok (.aload_n 0, 1) := by decide +kernel
theorem d_AF_restOf_43 : decode c_AF_restOf 43 = .ok (.getfield 22, 3) := by decide +kernel
theorem d_AF_restOf_46 : decode c_AF_restOf 46 = .ok (.aload_n 0, 1) := by decide +kernel
theorem d_AF_restOf_47 : decode c_AF_restOf 47 = .ok (.getfield 29, 3) := by decide +kernel
theorem d_AF_restOf_50 : decode c_AF_restOf 50 = .ok (.iconst (-1), 1) := by decide +kernel
theorem d_AF_restOf_51 : decode c_AF_restOf 51 = .ok (.invokevirtual 145, 3) := by decide +kernel
theorem d_AF_restOf_54 : decode c_AF_restOf 54 = .ok (.aload_n 0, 1) := by decide +kernel
theorem d_AF_restOf_55 : decode c_AF_restOf 55 = .ok (.getfield 29, 3) := by decide +kernel
theorem d_AF_restOf_58 : decode c_AF_restOf 58 = .ok (.getfield 120, 3) := by decide +kernel
theorem d_AF_restOf_61 : decode c_AF_restOf 61 = .ok (.i2l, 1) := by decide +kernel
theorem d_AF_restOf_62 : decode c_AF_restOf 62 = .ok (.aload_n 0, 1) := by decide +kernel
theorem d_AF_restOf_63 : decode c_AF_restOf 63 = .ok (.getfield 29, 3) := by decide +kernel
theorem d_AF_restOf_66 : decode c_AF_restOf 66 = .ok (.aload_n 1, 1) := by decide +kernel
theorem d_AF_restOf_67 : decode c_AF_restOf 67 = .ok (.getfield 155, 3) := by decide +kernel
theorem d_AF_restOf_70 : decode c_AF_restOf 70 = .ok (.invokevirtual 176, 3) := by decide +kernel
theorem d_AF_restOf_73 : decode c_AF_restOf 73 = .ok (.lmul, 1) := by decide +kernel
theorem d_AF_restOf_74 : decode c_AF_restOf 74 = .ok (.lreturn, 1) := by decide +kernel
theorem d_AF_stored_0 : decode c_AF_stored 0 = .ok (.aload_n 0, 1) := by decide +kernel
theorem d_AF_stored_1 : decode c_AF_stored 1 = .ok (.iload_n 1, 1) := by decide +kernel
theorem d_AF_stored_2 : decode c_AF_stored 2 = .ok (.invokevirtual 85, 3) := by decide +kernel
theorem d_AF_stored_5 : decode c_AF_stored 5 = .ok (.astore_n 2, 1) := by decide +kernel
theorem d_AF_stored_6 : decode c_AF_stored 6 = .ok (.aload_n 2, 1) := by decide +kernel
theorem d_AF_stored_7 : decode c_AF_stored 7 = .ok (.ifnonnull 7, 3) := by decide +kernel
theorem d_AF_stored_10 : decode c_AF_stored 10 = .ok (.lconst 0, 1) := by decide +kernel
theorem d_AF_stored_11 : decode c_AF_stored 11 = .ok (.goto 7, 3) := by decide +kernel
theorem d_AF_stored_14 : decode c_AF_stored 14 = .ok (.aload_n 2, 1) := by decide +kernel
theorem d_AF_stored_15 : decode c_AF_stored 15 = .ok (.getfield 93, 3) := by decide +kernel
theorem d_AF_stored_18 : decode c_AF_stored 18 = .ok (.lreturn, 1) := by decide +kernel
theorem d_AF_set_0 : decode c_AF_set 0 = .ok (.aload_n 0, 1) := by decide +kernel
theorem d_AF_set_1 : decode c_AF_set 1 = .ok (.iload_n 1, 1) := by decide +kernel
theorem d_AF_set_2 : decode c_AF_set 2 = .ok (.invokevirtual 85, 3) := by decide +kernel
theorem d_AF_set_5 : decode c_AF_set 5 = .ok (.astore 4, 2) := by decide +kernel
theorem d_AF_set_7 : decode c_AF_set 7 = .ok (.aload 4, 2) := by decide +kernel
theorem d_AF_set_9 : decode c_AF_set 9 = .ok (.ifnonnull 6, 3) := by decide +kernel
theorem d_AF_set_12 : decode c_AF_set 12 = .ok (.bipush (-2), 2) := by decide +kernel
theorem d_AF_set_14 : decode c_AF_set 14 = .ok (.ireturn, 1) := by decide +kernel
theorem d_AF_set_15 : decode c_AF_set 15 = .ok (.aload 4, 2) := by decide +kernel
theorem d_AF_set_17 : decode c_AF_set 17 = .ok (.aload 4, 2) := by decide +kernel
theorem d_AF_set_19 : decode c_AF_set 19 = .ok (.lload_n 2, 1) := by decide +kernel
theorem d_AF_set_20 : decode c_AF_set 20 = .ok (.invokevirtual 97, 3) := by decide +kernel
theorem d_AF_set_23 : decode c_AF_set 23 = .ok (.putfield 93, 3) := by decide +kernel
theorem d_AF_set_26 : decode c_AF_set 26 = .ok (.iconst 1, 1) := by decide +kernel
theorem d_AF_set_27 : decode c_AF_set 27 = .ok (.ireturn, 1) := by decide +kernel
theorem d_AF_error_0 : decode c_AF_error 0 = .ok (.aload_n 0, 1) := by decide +kernel
theorem d_AF_error_1 : decode c_AF_error 1 = .ok (.iload_n 1, 1) := by decide +kernel
theorem d_AF_error_2 : decode c_AF_error 2 = .ok (.invokevirtual 85, 3) := by decide +kernel
theorem d_AF_error_5 : decode c_AF_error 5 = .ok (.astore_n 2, 1) := by decide +kernel
theorem d_AF_error_6 : decode c_AF_error 6 = .ok (.aload_n 2, 1) := by decide +kernel
theorem d_AF_error_7 : decode c_AF_error 7 = .ok (.ifnull 14, 3) := by decide +kernel
theorem d_AF_error_10 : decode c_AF_error 10 = .ok (.aload_n 2, 1) := by decide +kernel
theorem d_AF_error_11 : decode c_AF_error 11 = .ok (.getfield 101, 3) := by decide +kernel
theorem d_AF_error_14 : decode c_AF_error 14 = .ok (.ifCond .eq 7, 3) := by decide +kernel
theorem d_AF_error_17 : decode c_AF_error 17 = .ok (.iconst 1, 1) := by decide +kernel
theorem d_AF_error_18 : decode c_AF_error 18 = .ok (.goto 4, 3) := by decide +kernel
theorem d_AF_error_21 : decode c_AF_error 21 = .ok (.iconst 0, 1) := by decide +kernel
theorem d_AF_error_22 : decode c_AF_error 22 = .ok (.ireturn, 1) := by decide +kernel
theorem d_AF_rest_0 : decode c_AF_rest 0 = .ok (.aload_n 0, 1) := by decide +kernel
theorem d_AF_rest_1 : decode c_AF_rest 1 = .ok (.iload_n 1, 1) := by decide +kernel
theorem d_AF_rest_2 : decode c_AF_rest 2 = .ok (.invokevirtual 85, 3) := by decide +kernel
theorem d_AF_rest_5 : decode c_AF_rest 5 = .ok (.astore_n 2, 1) := by decide +kernel
theorem d_AF_rest_6 : decode c_AF_rest 6 = .ok (.aload_n 2, 1) := by decide +kernel
theorem d_AF_rest_7 : decode c_AF_rest 7 = .ok (.ifnonnull 7, 3) := by decide +kernel
theorem d_AF_rest_10 : decode c_AF_rest 10 = .ok (.lconst 0, 1) := by decide +kernel
theorem d_AF_rest_11 : decode c_AF_rest 11 = .ok (.goto 7, 3) := by decide +kernel
theorem d_AF_rest_14 : decode c_AF_rest 14 = .ok (.aload_n 2, 1) := by decide +kernel
theorem d_AF_rest_15 : decode c_AF_rest 15 = .ok (.getfield 105, 3) := by decide +kernel
theorem d_AF_rest_18 : decode c_AF_rest 18 = .ok (.lreturn, 1) := by decide +kernel
theorem d_AF_raises_0 : decode c_AF_raises 0 = .ok (.aload_n 0, 1) := by decide +kernel
theorem d_AF_raises_1 : decode c_AF_raises 1 = .ok (.iload_n 1, 1) := by decide +kernel
theorem d_AF_raises_2 : decode c_AF_raises 2 = .ok (.invokevirtual 68, 3) := by decide +kernel
theorem d_AF_raises_5 : decode c_AF_raises 5 = .ok (.astore_n 2, 1) := by decide +kernel
theorem d_AF_raises_6 : decode c_AF_raises 6 = .ok (.aload_n 2, 1) := by decide +kernel
theorem d_AF_raises_7 : decode c_AF_raises 7 = .ok (.ifnonnull 8, 3) := by decide +kernel
theorem d_AF_raises_10 : decode c_AF_raises 10 = .ok (.bipush (-2), 2) := by decide +kernel
theorem d_AF_raises_12 : decode c_AF_raises 12 = .ok (.goto 7, 3) := by decide +kernel
theorem d_AF_raises_15 : decode c_AF_raises 15 = .ok (.aload_n 2, 1) := by decide +kernel
theorem d_AF_raises_16 : decode c_AF_raises 16 = .ok (.getfield 110, 3) := by decide +kernel
theorem d_AF_raises_19 : decode c_AF_raises 19 = .ok (.ireturn, 1) := by decide +kernel
theorem d_AF_raised_0 : decode c_AF_raised 0 = .ok (.aload_n 0, 1) := by decide +kernel
theorem d_AF_raised_1 : decode c_AF_raised 1 = .ok (.getfield 82, 3) := by decide +kernel
theorem d_AF_raised_4 : decode c_AF_raised 4 = .ok (.ireturn, 1) := by decide +kernel
theorem d_AF_exact_0 : decode c_AF_exact 0 = .ok (.aload_n 0, 1) := by decide +kernel
theorem d_AF_exact_1 : decode c_AF_exact 1 = .ok (.iload_n 1, 1) := by decide +kernel
theorem d_AF_exact_2 : decode c_AF_exact 2 = .ok (.invokevirtual 68, 3) := by decide +kernel
theorem d_AF_exact_5 : decode c_AF_exact 5 = .ok (.astore_n 3, 1) := by decide +kernel
theorem d_AF_exact_6 : decode c_AF_exact 6 = .ok (.aload_n 3, 1) := by decide +kernel
theorem d_AF_exact_7 : decode c_AF_exact 7 = .ok (.ifnull 7, 3) := by decide +kernel
theorem d_AF_exact_10 : decode c_AF_exact 10 = .ok (.iload_n 2, 1) := by decide +kernel
theorem d_AF_exact_11 : decode c_AF_exact 11 = .ok (.ifCond .ge 7, 3) := by decide +kernel
theorem d_AF_exact_14 : decode c_AF_exact 14 = .ok (.ldc2_w 108, 3) := by decide +kernel
theorem d_AF_exact_17 : decode c_AF_exact 17 = .ok (.lreturn, 1) := by decide +kernel
theorem d_AF_exact_18 : decode c_AF_exact 18 = .ok (.aload_n 3, 1) := by decide +kernel
theorem d_AF_exact_19 : decode c_AF_exact 19 = .ok (.getfield 110, 3) := by decide +kernel
theorem d_AF_exact_22 : decode c_AF_exact 22 = .ok (.ifCond .eq 13, 3) := by decide +kernel
theorem d_AF_exact_25 : decode c_AF_exact 25 = .ok (.new 113, 3) := by decide +kernel
theorem d_AF_exact_28 : decode c_AF_exact 28 = .ok (.dup, 1) := by decide +kernel
theorem d_AF_exact_29 : decode c_AF_exact 29 = .ok (.ldc 115, 2) := by decide +kernel
theorem d_AF_exact_31 : decode c_AF_exact 31 = .ok (.invokespecial 117, 3) := by decide +kernel
theorem d_AF_exact_34 : decode c_AF_exact 34 = .ok (.athrow, 1) := by decide +kernel
theorem d_AF_exact_35 : decode c_AF_exact 35 = .ok (.iload_n 2, 1) := by decide +kernel
theorem d_AF_exact_36 : decode c_AF_exact 36 = .ok (.tableswitch 46 0 2 #[28, 34, 40], 28) := by decide +kernel
theorem d_AF_exact_64 : decode c_AF_exact 64 = .ok (.aload_n 3, 1) := by decide +kernel
theorem d_AF_exact_65 : decode c_AF_exact 65 = .ok (.getfield 120, 3) := by decide +kernel
theorem d_AF_exact_68 : decode c_AF_exact 68 = .ok (.i2l, 1) := by decide +kernel
theorem d_AF_exact_69 : decode c_AF_exact 69 = .ok (.lreturn, 1) := by decide +kernel
theorem d_AF_exact_70 : decode c_AF_exact 70 = .ok (.aload_n 3, 1) := by decide +kernel
theorem d_AF_exact_71 : decode c_AF_exact 71 = .ok (.getfield 123, 3) := by decide +kernel
theorem d_AF_exact_74 : decode c_AF_exact 74 = .ok (.i2l, 1) := by decide +kernel
theorem d_AF_exact_75 : decode c_AF_exact 75 = .ok (.lreturn, 1) := by decide +kernel
theorem d_AF_exact_76 : decode c_AF_exact 76 = .ok (.aload_n 3, 1) := by decide +kernel
theorem d_AF_exact_77 : decode c_AF_exact 77 = .ok (.invokevirtual 126, 3) := by decide +kernel
theorem d_AF_exact_80 : decode c_AF_exact 80 = .ok (.i2l, 1) := by decide +kernel
theorem d_AF_exact_81 : decode c_AF_exact 81 = .ok (.lreturn, 1) := by decide +kernel
theorem d_AF_exact_82 : decode c_AF_exact 82 = .ok (.iload_n 2, 1) := by decide +kernel
theorem d_AF_exact_83 : decode c_AF_exact 83 = .ok (.iconst 3, 1) := by decide +kernel
theorem d_AF_exact_84 : decode c_AF_exact 84 = .ok (.isub, 1) := by decide +kernel
theorem d_AF_exact_85 : decode c_AF_exact 85 = .ok (.istore 4, 2) := by decide +kernel
theorem d_AF_exact_87 : decode c_AF_exact 87 = .ok (.iload 4, 2) := by decide +kernel
theorem d_AF_exact_89 : decode c_AF_exact 89 = .ok (.aload_n 3, 1) := by decide +kernel
theorem d_AF_exact_90 : decode c_AF_exact 90 = .ok (.getfield 123, 3) := by decide +kernel
theorem d_AF_exact_93 : decode c_AF_exact 93 = .ok (.if_icmp .ge 13, 3) := by decide +kernel
theorem d_AF_exact_96 : decode c_AF_exact 96 = .ok (.aload_n 3, 1) := by decide +kernel
theorem d_AF_exact_97 : decode c_AF_exact 97 = .ok (.iload 4, 2) := by decide +kernel
theorem d_AF_exact_99 : decode c_AF_exact 99 = .ok (.invokevirtual 130, 3) := by decide +kernel
theorem d_AF_exact_102 : decode c_AF_exact 102 = .ok (.i2l, 1) := by decide +kernel
theorem d_AF_exact_103 : decode c_AF_exact 103 = .ok (.goto 6, 3) := by decide +kernel
theorem d_AF_exact_106 : decode c_AF_exact 106 = .ok (.ldc2_w 108, 3) := by decide +kernel
theorem d_AF_exact_109 : decode c_AF_exact 109 = .ok (.lreturn, 1) := by decide +kernel
theorem d_De_init_0 : decode c_De_init 0 = .ok (.aload_n 0, 1) := by decide +kernel
theorem d_De_init_1 : decode c_De_init 1 = .ok (.invokespecial 5, 3) := by decide +kernel
theorem d_De_init_4 : decode c_De_init 4 = .ok (.aload_n 0, 1) := by decide +kernel
theorem d_De_init_5 : decode c_De_init 5 = .ok (.iconst 4, 1) := by decide +kernel
theorem d_De_init_6 : decode c_De_init 6 = .ok (.newarray .long, 2) := by decide +kernel
theorem d_De_init_8 : decode c_De_init 8 = .ok (.putfield 11, 3) := by decide +kernel
theorem d_De_init_11 : decode c_De_init 11 = .ok (.return_, 1) := by decide +kernel
theorem d_De_load_0 : decode c_De_load 0 = .ok (.aload_n 0, 1) := by decide +kernel
theorem d_De_load_1 : decode c_De_load 1 = .ok (.invokevirtual 34, 3) := by decide +kernel
theorem d_De_load_4 : decode c_De_load 4 = .ok (.lload_n 1, 1) := by decide +kernel
theorem d_De_load_5 : decode c_De_load 5 = .ok (.lconst 0, 1) := by decide +kernel
theorem d_De_load_6 : decode c_De_load 6 = .ok (.lcmp, 1) := by decide +kernel
theorem d_De_load_7 : decode c_De_load 7 = .ok (.ifCond .ne 4, 3) := by decide +kernel
theorem d_De_load_10 : decode c_De_load 10 = .ok (.return_, 1) := by decide +kernel
theorem d_De_load_11 : decode c_De_load 11 = .ok (.iconst 1, 1) := by decide +kernel
theorem d_De_load_12 : decode c_De_load 12 = .ok (.istore 4, 2) := by decide +kernel
theorem d_De_load_14 : decode c_De_load 14 = .ok (.iload 4, 2) := by decide +kernel
theorem d_De_load_16 : decode c_De_load 16 = .ok (.bipush 19, 2) := by decide +kernel
theorem d_De_load_18 : decode c_De_load 18 = .ok (.if_icmp .ge 21, 3) := by decide +kernel
theorem d_De_load_21 : decode c_De_load 21 = .ok (.lload_n 1, 1) := by decide +kernel
theorem d_De_load_22 : decode c_De_load 22 = .ok (.iload 4, 2) := by decide +kernel
theorem d_De_load_24 : decode c_De_load 24 = .ok (.invokestatic 43, 3) := by decide +kernel
theorem d_De_load_27 : decode c_De_load 27 = .ok (.ldiv, 1) := by decide +kernel
theorem d_De_load_28 : decode c_De_load 28 = .ok (.lconst 0, 1) := by decide +kernel
theorem d_De_load_29 : decode c_De_load 29 = .ok (.lcmp, 1) := by decide +kernel
theorem d_De_load_30 : decode c_De_load 30 = .ok (.ifCond .eq 9, 3) := by decide +kernel
theorem d_De_load_33 : decode c_De_load 33 = .ok (.iinc 4 1, 3) := by decide +kernel
theorem d_De_load_36 : decode c_De_load 36 = .ok (.goto (-22), 3) := by decide +kernel
theorem d_De_load_39 : decode c_De_load 39 = .ok (.lload_n 1, 1) := by decide +kernel
theorem d_De_load_40 : decode c_De_load 40 = .ok (.lstore 5, 2) := by decide +kernel
theorem d_De_load_42 : decode c_De_load 42 = .ok (.iload 4, 2) := by decide +kernel
theorem d_De_load_44 : decode c_De_load 44 = .ok (.iconst 1, 1) := by decide +kernel
theorem d_De_load_45 : decode c_De_load 45 = .ok (.isub, 1) := by decide +kernel
theorem d_De_load_46 : decode c_De_load 46 = .ok (.istore 7, 2) := by decide +kernel
theorem d_De_load_48 : decode c_De_load 48 = .ok (.iload 7, 2) := by decide +kernel
theorem d_De_load_50 : decode c_De_load 50 = .ok (.ifCond .lt 51, 3) := by decide +kernel
theorem d_De_load_53 : decode c_De_load 53 = .ok (.aload_n 0, 1) := by decide +kernel
theorem d_De_load_54 : decode c_De_load 54 = .ok (.getfield 11, 3) := by decide +kernel
theorem d_De_load_57 : decode c_De_load 57 = .ok (.iload 7, 2) := by decide +kernel
theorem d_De_load_59 : decode c_De_load 59 = .ok (.bipush 8, 2) := by decide +kernel
theorem d_De_load_61 : decode c_De_load 61 = .ok (.idiv, 1) := by decide +kernel
theorem d_De_load_62 : decode c_De_load 62 = .ok (.dup2, 1) := by decide +kernel
theorem d_De_load_63 : decode c_De_load 63 = .ok (.laload, 1) := by decide +kernel
theorem d_De_load_64 : decode c_De_load 64 = .ok (.lload 5, 2) := by decide +kernel
theorem d_De_load_66 : decode c_De_load 66 = .ok (.ldc2_w 47, 3) := by decide +kernel
theorem d_De_load_69 : decode c_De_load 69 = .ok (.lrem, 1) := by decide +kernel
theorem d_De_load_70 : decode c_De_load 70 = .ok (.invokestatic 49, 3) := by decide +kernel
theorem d_De_load_73 : decode c_De_load 73 = .ok (.bipush 7, 2) := by decide +kernel
theorem d_De_load_75 : decode c_De_load 75 = .ok (.iload 7, 2) := by decide +kernel
theorem d_De_load_77 : decode c_De_load 77 = .ok (.bipush 8, 2) := by decide +kernel
theorem d_De_load_79 : decode c_De_load 79 = .ok (.irem, 1) := by decide +kernel
theorem d_De_load_80 : decode c_De_load 80 = .ok (.isub, 1) := by decide +kernel
theorem d_De_load_81 : decode c_De_load 81 = .ok (.invokestatic 43, 3) := by decide +kernel
theorem d_De_load_84 : decode c_De_load 84 = .ok (.lmul, 1) := by decide +kernel
theorem d_De_load_85 : decode c_De_load 85 = .ok (.ladd, 1) := by decide +kernel
theorem d_De_load_86 : decode c_De_load 86 = .ok (.lastore, 1) := by decide +kernel
theorem d_De_load_87 : decode c_De_load 87 = .ok (.lload 5, 2) := by decide +kernel
theorem d_De_load_89 : decode c_De_load 89 = .ok (.ldc2_w 47, 3) := by decide +kernel
theorem d_De_load_92 : decode c_De_load 92 = .ok (.ldiv, 1) := by decide +kernel
theorem d_De_load_93 : decode c_De_load 93 = .ok (.lstore 5, 2) := by decide +kernel
theorem d_De_load_95 : decode c_De_load 95 = .ok (.iinc 7 (-1), 3) := by decide +kernel
theorem d_De_load_98 : decode c_De_load 98 = .ok (.goto (-50), 3) := by decide +kernel
theorem d_De_load_101 : decode c_De_load 101 = .ok (.aload_n 0, 1) := by decide +kernel
theorem d_De_load_102 : decode c_De_load 102 = .ok (.lload_n 1, 1) := by decide +kernel
theorem d_De_load_103 : decode c_De_load 103 = .ok (.lconst 0, 1) := by decide +kernel
theorem d_De_load_104 : decode c_De_load 104 = .ok (.lcmp, 1) := by decide +kernel
theorem d_De_load_105 : decode c_De_load 105 = .ok (.ifCond .ge 7, 3) := by decide +kernel
theorem d_De_load_108 : decode c_De_load 108 = .ok (.iconst (-1), 1) := by decide +kernel
theorem d_De_load_109 : decode c_De_load 109 = .ok (.goto 4, 3) := by decide +kernel
theorem d_De_load_112 : decode c_De_load 112 = .ok (.iconst 1, 1) := by decide +kernel
theorem d_De_load_113 : decode c_De_load 113 = .ok (.putfield 19, 3) := by decide +kernel
theorem d_De_load_116 : decode c_De_load 116 = .ok (.aload_n 0, 1) := by decide +kernel
theorem d_De_load_117 : decode c_De_load 117 = .ok (.iload 4, 2) := by decide +kernel
theorem d_De_load_119 : decode c_De_load 119 = .ok (.iconst 1, 1) := by decide +kernel
theorem d_De_load_120 : decode c_De_load 120 = .ok (.isub, 1) := by decide +kernel
theorem d_De_load_121 : decode c_De_load 121 = .ok (.iload_n 3, 1) := by decide +kernel
theorem d_De_load_122 : decode c_De_load 122 = .ok (.isub, 1) := by decide +kernel
theorem d_De_load_123 : decode c_De_load 123 = .ok (.putfield 22, 3) := by decide +kernel
theorem d_De_load_126 : decode c_De_load 126 = .ok (.aload_n 0, 1) := by decide +kernel
theorem d_De_load_127 : decode c_De_load 127 = .ok (.bipush 32, 2) := by decide +kernel
theorem d_De_load_129 : decode c_De_load 129 = .ok (.invokevirtual 55, 3) := by decide +kernel
theorem d_De_load_132 : decode c_De_load 132 = .ok (.return_, 1) := by decide +kernel
theorem d_De_clear_0 : decode c_De_clear 0 = .ok (.aload_n 0, 1) := by decide +kernel
theorem d_De_clear_1 : decode c_De_clear 1 = .ok (.iconst 0, 1) := by decide +kernel
theorem d_De_clear_2 : decode c_De_clear 2 = .ok (.putfield 15, 3) := by decide +kernel
theorem d_De_clear_5 : decode c_De_clear 5 = .ok (.aload_n 0, 1) := by decide +kernel
theorem d_De_clear_6 : decode c_De_clear 6 = .ok (.iconst 0, 1) := by decide +kernel
theorem d_De_clear_7 : decode c_De_clear 7 = .ok (.putfield 19, 3) := by decide +kernel
theorem d_De_clear_10 : decode c_De_clear 10 = .ok (.aload_n 0, 1) := by decide +kernel
theorem d_De_clear_11 : decode c_De_clear 11 = .ok (.iconst 0, 1) := by decide +kernel
theorem d_De_clear_12 : decode c_De_clear 12 = .ok (.putfield 22, 3) := by decide +kernel
theorem d_De_clear_15 : decode c_De_clear 15 = .ok (.aload_n 0, 1) := by decide +kernel
theorem d_De_clear_16 : decode c_De_clear 16 = .ok (.iconst 0, 1) := by decide +kernel
theorem d_De_clear_17 : decode c_De_clear 17 = .ok (.putfield 25, 3) := by decide +kernel
theorem d_De_clear_20 : decode c_De_clear 20 = .ok (.aload_n 0, 1) := by decide +kernel
theorem d_De_clear_21 : decode c_De_clear 21 = .ok (.getfield 11, 3) := by decide +kernel
theorem d_De_clear_24 : decode c_De_clear 24 = .ok (.lconst 0, 1) := by decide +kernel
theorem d_De_clear_25 : decode c_De_clear 25 = .ok (.invokestatic 28, 3) := by decide +kernel
theorem d_De_clear_28 : decode c_De_clear 28 = .ok (.return_, 1) := by decide +kernel
theorem d_De_cut_0 : decode c_De_cut 0 = .ok (.iconst 0, 1) := by decide +kernel
theorem d_De_cut_1 : decode c_De_cut 1 = .ok (.istore_n 2, 1) := by decide +kernel
theorem d_De_cut_2 : decode c_De_cut 2 = .ok (.iload_n 2, 1) := by decide +kernel
theorem d_De_cut_3 : decode c_De_cut 3 = .ok (.iconst 4, 1) := by decide +kernel
theorem d_De_cut_4 : decode c_De_cut 4 = .ok (.if_icmp .ge 48, 3) := by decide +kernel
theorem d_De_cut_7 : decode c_De_cut 7 = .ok (.iconst 0, 1) := by decide +kernel
theorem d_De_cut_8 : decode c_De_cut 8 = .ok (.bipush 8, 2) := by decide +kernel
theorem d_De_cut_10 : decode c_De_cut 10 = .ok (.iload_n 1, 1) := by decide +kernel
theorem d_De_cut_11 : decode c_De_cut 11 = .ok (.iload_n 2, 1) := by decide +kernel
theorem d_De_cut_12 : decode c_De_cut 12 = .ok (.bipush 8, 2) := by decide +kernel
theorem d_De_cut_14 : decode c_De_cut 14 = .ok (.imul, 1) := by decide +kernel
theorem d_De_cut_15 : decode c_De_cut 15 = .ok (.isub, 1) := by decide +kernel
theorem d_De_cut_16 : decode c_De_cut 16 = .ok (.invokestatic 59, 3) := by decide +kernel
theorem d_De_cut_19 : decode c_De_cut 19 = .ok (.invokestatic 63, 3) := by decide +kernel
theorem d_De_cut_22 : decode c_De_cut 22 = .ok (.istore_n 3, 1) := by decide +kernel
theorem d_De_cut_23 : decode c_De_cut 23 = .ok (.aload_n 0, 1) := by decide +kernel
theorem d_De_cut_24 : decode c_De_cut 24 = .ok (.getfield 11, 3) := by decide +kernel
theorem d_De_cut_27 : decode c_De_cut 27 = .ok (.iload_n 2, 1) := by decide +kernel
theorem d_De_cut_28 : decode c_De_cut 28 = .ok (.dup2, 1) := by decide +kernel
theorem d_De_cut_29 : decode c_De_cut 29 = .ok (.laload, 1) := by decide +kernel
theorem d_De_cut_30 : decode c_De_cut 30 = .ok (.aload_n 0, 1) := by decide +kernel
theorem d_De_cut_31 : decode c_De_cut 31 = .ok (.getfield 11, 3) := by decide +kernel
theorem d_De_cut_34 : decode c_De_cut 34 = .ok (.iload_n 2, 1) := by decide +kernel
theorem d_De_cut_35 : decode c_De_cut 35 = .ok (.laload, 1) := by decide +kernel
theorem d_De_cut_36 : decode c_De_cut 36 = .ok (.bipush 8, 2) := by decide +kernel
theorem d_De_cut_38 : decode c_De_cut 38 = .ok (.iload_n 3, 1) := by decide +kernel
theorem d_De_cut_39 : decode c_De_cut 39 = .ok (.isub, 1) := by decide +kernel
theorem d_De_cut_40 : decode c_De_cut 40 = .ok (.invokestatic 43, 3) := by decide +kernel
theorem d_De_cut_43 : decode c_De_cut 43 = .ok (.lrem, 1) := by decide +kernel
theorem d_De_cut_44 : decode c_De_cut 44 = .ok (.lsub, 1) := by decide +kernel
theorem d_De_cut_45 : decode c_De_cut 45 = .ok (.lastore, 1) := by decide +kernel
theorem d_De_cut_46 : decode c_De_cut 46 = .ok (.iinc 2 1, 3) := by decide +kernel
theorem d_De_cut_49 : decode c_De_cut 49 = .ok (.goto (-47), 3) := by decide +kernel
theorem d_De_cut_52 : decode c_De_cut 52 = .ok (.iconst 3, 1) := by decide +kernel
theorem d_De_cut_53 : decode c_De_cut 53 = .ok (.istore_n 2, 1) := by decide +kernel
theorem d_De_cut_54 : decode c_De_cut 54 = .ok (.iload_n 2, 1) := by decide +kernel
theorem d_De_cut_55 : decode c_De_cut 55 = .ok (.ifCond .lt 20, 3) := by decide +kernel
theorem d_De_cut_58 : decode c_De_cut 58 = .ok (.aload_n 0, 1) := by decide +kernel
theorem d_De_cut_59 : decode c_De_cut 59 = .ok (.getfield 11, 3) := by decide +kernel
theorem d_De_cut_62 : decode c_De_cut 62 = .ok (.iload_n 2, 1) := by decide +kernel
theorem d_De_cut_63 : decode c_De_cut 63 = .ok (.laload, 1) := by decide +kernel
theorem d_De_cut_64 : decode c_De_cut 64 = .ok (.lconst 0, 1) := by decide +kernel
theorem d_De_cut_65 : decode c_De_cut 65 = .ok (.lcmp, 1) := by decide +kernel
theorem d_De_cut_66 : decode c_De_cut 66 = .ok (.ifCond .ne 9, 3) := by decide +kernel
theorem d_De_cut_69 : decode c_De_cut 69 = .ok (.iinc 2 (-1), 3) := by decide +kernel
theorem d_De_cut_72 : decode c_De_cut 72 = .ok (.goto (-18), 3) := by decide +kernel
theorem d_De_cut_75 : decode c_De_cut 75 = .ok (.iload_n 2, 1) := by decide +kernel
theorem d_De_cut_76 : decode c_De_cut 76 = .ok (.ifCond .ge 8, 3) := by decide +kernel
theorem d_De_cut_79 : decode c_De_cut 79 = .ok (.aload_n 0, 1) := by decide +kernel
theorem d_De_cut_80 : decode c_De_cut 80 = .ok (.invokevirtual 34, 3) := by decide +kernel
theorem d_De_cut_83 : decode c_De_cut 83 = .ok (.return_, 1) := by decide +kernel
theorem d_De_cut_84 : decode c_De_cut 84 = .ok (.iconst 0, 1) := by decide +kernel
theorem d_De_cut_85 : decode c_De_cut 85 = .ok (.istore_n 3, 1) := by decide +kernel
theorem d_De_cut_86 : decode c_De_cut 86 = .ok (.iload_n 3, 1) := by decide +kernel
theorem d_De_cut_87 : decode c_De_cut 87 = .ok (.bipush 8, 2) := by decide +kernel
theorem d_De_cut_89 : decode c_De_cut 89 = .ok (.if_icmp .ge 27, 3) := by decide +kernel
theorem d_De_cut_92 : decode c_De_cut 92 = .ok (.aload_n 0, 1) := by decide +kernel
theorem d_De_cut_93 : decode c_De_cut 93 = .ok (.getfield 11, 3) := by decide +kernel
theorem d_De_cut_96 : decode c_De_cut 96 = .ok (.iload_n 2, 1) := by decide +kernel
theorem d_De_cut_97 : decode c_De_cut 97 = .ok (.laload, 1) := by decide +kernel
theorem d_De_cut_98 : decode c_De_cut 98 = .ok (.iload_n 3, 1) := by decide +kernel
theorem d_De_cut_99 : decode c_De_cut 99 = .ok (.iconst 1, 1) := by decide +kernel
theorem d_De_cut_100 : decode c_De_cut 100 = .ok (.iadd, 1) := by decide +kernel
theorem d_De_cut_101 : decode c_De_cut 101 = .ok (.invokestatic 43, 3) := by decide +kernel
theorem d_De_cut_104 : decode c_De_cut 104 = .ok (.lrem, 1) := by decide +kernel
theorem d_De_cut_105 : decode c_De_cut 105 = .ok (.lconst 0, 1) := by decide +kernel
theorem d_De_cut_106 : decode c_De_cut 106 = .ok (.lcmp, 1) := by decide +kernel
theorem d_De_cut_107 : decode c_De_cut 107 = .ok (.ifCond .ne 9, 3) := by decide +kernel
theorem d_De_cut_110 : decode c_De_cut 110 = .ok (.iinc 3 1, 3) := by decide +kernel
theorem d_De_cut_113 : decode c_De_cut 113 = .ok (.goto (-27), 3) := by decide +kernel
theorem d_De_cut_116 : decode c_De_cut 116 = .ok (.aload_n 0, 1) := by decide +kernel
theorem d_De_cut_117 : decode c_De_cut 117 = .ok (.iload_n 2, 1) := by decide +kernel
theorem d_De_cut_118 : decode c_De_cut 118 = .ok (.iconst 1, 1) := by decide +kernel
theorem d_De_cut_119 : decode c_De_cut 119 = .ok (.iadd, 1) := by decide +kernel
theorem d_De_cut_120 : decode c_De_cut 120 = .ok (.bipush 8, 2) := by decide +kernel
theorem d_De_cut_122 : decode c_De_cut 122 = .ok (.imul, 1) := by decide +kernel
theorem d_De_cut_123 : decode c_De_cut 123 = .ok (.iload_n 3, 1) := by decide +kernel
theorem d_De_cut_124 : decode c_De_cut 124 = .ok (.isub, 1) := by decide +kernel
theorem d_De_cut_125 : decode c_De_cut 125 = .ok (.putfield 25, 3) := by decide +kernel
theorem d_De_cut_128 : decode c_De_cut 128 = .ok (.return_, 1) := by decide +kernel
theorem d_De_raise_0 : decode c_De_raise 0 = .ok (.aload_n 0, 1) := by decide +kernel
theorem d_De_raise_1 : decode c_De_raise 1 = .ok (.invokevirtual 34, 3) := by decide +kernel
theorem d_De_raise_4 : decode c_De_raise 4 = .ok (.aload_n 0, 1) := by decide +kernel
theorem d_De_raise_5 : decode c_De_raise 5 = .ok (.iload_n 1, 1) := by decide +kernel
theorem d_De_raise_6 : decode c_De_raise 6 = .ok (.putfield 15, 3) := by decide +kernel
theorem d_De_raise_9 : decode c_De_raise 9 = .ok (.return_, 1) := by decide +kernel
theorem d_De_exponent_0 : decode c_De_exponent 0 = .ok (.aload_n 0, 1) := by decide +kernel
theorem d_De_exponent_1 : decode c_De_exponent 1 = .ok (.getfield 25, 3) := by decide +kernel
theorem d_De_exponent_4 : decode c_De_exponent 4 = .ok (.ifCond .ne 7, 3) := by decide +kernel
theorem d_De_exponent_7 : decode c_De_exponent 7 = .ok (.iconst 0, 1) := by decide +kernel
theorem d_De_exponent_8 : decode c_De_exponent 8 = .ok (.goto 14, 3) := by decide +kernel
theorem d_De_exponent_11 : decode c_De_exponent 11 = .ok (.aload_n 0, 1) := by decide +kernel
theorem d_De_exponent_12 : decode c_De_exponent 12 = .ok (.getfield 22, 3) := by decide +kernel
theorem d_De_exponent_15 : decode c_De_exponent 15 = .ok (.iconst 1, 1) := by decide +kernel
theorem d_De_exponent_16 : decode c_De_exponent 16 = .ok (.iadd, 1) := by decide +kernel
theorem d_De_exponent_17 : decode c_De_exponent 17 = .ok (.aload_n 0, 1) := by decide +kernel
theorem d_De_exponent_18 : decode c_De_exponent 18 = .ok (.getfield 25, 3) := by decide +kernel
theorem d_De_exponent_21 : decode c_De_exponent 21 = .ok (.isub, 1) := by decide +kernel
theorem d_De_exponent_22 : decode c_De_exponent 22 = .ok (.ireturn, 1) := by decide +kernel
theorem d_De_lowestWhole_0 : decode c_De_lowestWhole 0 = .ok (.aload_n 0, 1) := by decide +kernel
theorem d_De_lowestWhole_1 : decode c_De_lowestWhole 1 = .ok (.iload_n 1, 1) := by decide +kernel
theorem d_De_lowestWhole_2 : decode c_De_lowestWhole 2 = .ok (.invokevirtual 66, 3) := by decide +kernel
theorem d_De_lowestWhole_5 : decode c_De_lowestWhole 5 = .ok (.istore_n 2, 1) := by decide +kernel
theorem d_De_lowestWhole_6 : decode c_De_lowestWhole 6 = .ok (.lconst 0, 1) := by decide +kernel
theorem d_De_lowestWhole_7 : decode c_De_lowestWhole 7 = .ok (.lstore_n 3, 1) := by decide +kernel
theorem d_De_lowestWhole_8 : decode c_De_lowestWhole 8 = .ok (.iconst 0, 1) := by decide +kernel
theorem d_De_lowestWhole_9 : decode c_De_lowestWhole 9 = .ok (.iload_n 2, 1) := by decide +kernel
theorem d_De_lowestWhole_10 : decode c_De_lowestWhole 10 = .ok (.bipush 18, 2) := by decide +kernel
theorem d_De_lowestWhole_12 : decode c_De_lowestWhole 12 = .ok (.isub, 1) := by decide +kernel
theorem d_De_lowestWhole_13 : decode c_De_lowestWhole 13 = .ok (.invokestatic 63, 3) := by decide +kernel
theorem d_De_lowestWhole_16 : decode c_De_lowestWhole 16 = .ok (.istore 5, 2) := by decide +kernel
theorem d_De_lowestWhole_18 : decode c_De_lowestWhole 18 = .ok (.iload 5, 2) := by decide +kernel
theorem d_De_lowestWhole_20 : decode c_De_lowestWhole 20 = .ok (.iload_n 2, 1) := by decide +kernel
theorem d_De_lowestWhole_21 : decode c_De_lowestWhole 21 = .ok (.if_icmp .ge 23, 3) := by decide +kernel
theorem d_De_lowestWhole_24 : decode c_De_lowestWhole 24 = .ok (.lload_n 3, 1) := by decide +kernel
theorem d_De_lowestWhole_25 : decode c_De_lowestWhole 25 = .ok (.ldc2_w 47, 3) := by decide +kernel
theorem d_De_lowestWhole_28 : decode c_De_lowestWhole 28 = .ok (.lmul, 1) := by decide +kernel
theorem d_De_lowestWhole_29 : decode c_De_lowestWhole 29 = .ok (.aload_n 0, 1) := by decide +kernel
theorem d_De_lowestWhole_30 : decode c_De_lowestWhole 30 = .ok (.iload 5, 2) := by decide +kernel
theorem d_De_lowestWhole_32 : decode c_De_lowestWhole 32 = .ok (.invokevirtual 70, 3) := by decide +kernel
theorem d_De_lowestWhole_35 : decode c_De_lowestWhole 35 = .ok (.i2l, 1) := by decide +kernel
theorem d_De_lowestWhole_36 : decode c_De_lowestWhole 36 = .ok (.ladd, 1) := by decide +kernel
theorem d_De_lowestWhole_37 : decode c_De_lowestWhole 37 = .ok (.lstore_n 3, 1) := by decide +kernel
theorem d_De_lowestWhole_38 : decode c_De_lowestWhole 38 = .ok (.iinc 5 1, 3) := by decide +kernel
theorem d_De_lowestWhole_41 : decode c_De_lowestWhole 41 = .ok (.goto (-23), 3) := by decide +kernel
theorem d_De_lowestWhole_44 : decode c_De_lowestWhole 44 = .ok (.lload_n 3, 1) := by decide +kernel
theorem d_De_lowestWhole_45 : decode c_De_lowestWhole 45 = .ok (.lreturn, 1) := by decide +kernel
theorem d_De_wholeDigits_0 : decode c_De_wholeDigits 0 = .ok (.aload_n 0, 1) := by decide +kernel
theorem d_De_wholeDigits_1 : decode c_De_wholeDigits 1 = .ok (.getfield 25, 3) := by decide +kernel
theorem d_De_wholeDigits_4 : decode c_De_wholeDigits 4 = .ok (.ifCond .ne 7, 3) := by decide +kernel
theorem d_De_wholeDigits_7 : decode c_De_wholeDigits 7 = .ok (.iconst 0, 1) := by decide +kernel
theorem d_De_wholeDigits_8 : decode c_De_wholeDigits 8 = .ok (.goto 11, 3) := by decide +kernel
theorem d_De_wholeDigits_11 : decode c_De_wholeDigits 11 = .ok (.aload_n 0, 1) := by decide +kernel
theorem d_De_wholeDigits_12 : decode c_De_wholeDigits 12 = .ok (.getfield 22, 3) := by decide +kernel
theorem d_De_wholeDigits_15 : decode c_De_wholeDigits 15 = .ok (.iconst 1, 1) := by decide +kernel
theorem d_De_wholeDigits_16 : decode c_De_wholeDigits 16 = .ok (.iadd, 1) := by decide +kernel
theorem d_De_wholeDigits_17 : decode c_De_wholeDigits 17 = .ok (.iload_n 1, 1) := by decide +kernel
theorem d_De_wholeDigits_18 : decode c_De_wholeDigits 18 = .ok (.iadd, 1) := by decide +kernel
theorem d_De_wholeDigits_19 : decode c_De_wholeDigits 19 = .ok (.ireturn, 1) := by decide +kernel
theorem d_De_digit_0 : decode c_De_digit 0 = .ok (.iload_n 1, 1) := by decide +kernel
theorem d_De_digit_1 : decode c_De_digit 1 = .ok (.ifCond .lt 9, 3) := by decide +kernel
theorem d_De_digit_4 : decode c_De_digit 4 = .ok (.iload_n 1, 1) := by decide +kernel
theorem d_De_digit_5 : decode c_De_digit 5 = .ok (.bipush 32, 2) := by decide +kernel
theorem d_De_digit_7 : decode c_De_digit 7 = .ok (.if_icmp .lt 5, 3) := by decide +kernel
theorem d_De_digit_10 : decode c_De_digit 10 = .ok (.iconst 0, 1) := by decide +kernel
theorem d_De_digit_11 : decode c_De_digit 11 = .ok (.ireturn, 1) := by decide +kernel
theorem d_De_digit_12 : decode c_De_digit 12 = .ok (.aload_n 0, 1) := by decide +kernel
theorem d_De_digit_13 : decode c_De_digit 13 = .ok (.getfield 11, 3) := by decide +kernel
theorem d_De_digit_16 : decode c_De_digit 16 = .ok (.iload_n 1, 1) := by decide +kernel
theorem d_De_digit_17 : decode c_De_digit 17 = .ok (.bipush 8, 2) := by decide +kernel
theorem d_De_digit_19 : decode c_De_digit 19 = .ok (.idiv, 1) := by decide +kernel
theorem d_De_digit_20 : decode c_De_digit 20 = .ok (.laload, 1) := by decide +kernel
theorem d_De_digit_21 : decode c_De_digit 21 = .ok (.bipush 7, 2) := by decide +kernel
theorem d_De_digit_23 : decode c_De_digit 23 = .ok (.iload_n 1, 1) := by decide +kernel
theorem d_De_digit_24 : decode c_De_digit 24 = .ok (.bipush 8, 2) := by decide +kernel
theorem d_De_digit_26 : decode c_De_digit 26 = .ok (.irem, 1) := by decide +kernel
theorem d_De_digit_27 : decode c_De_digit 27 = .ok (.isub, 1) := by decide +kernel
theorem d_De_digit_28 : decode c_De_digit 28 = .ok (.invokestatic 43, 3) := by decide +kernel
theorem d_De_digit_31 : decode c_De_digit 31 = .ok (.ldiv, 1) := by decide +kernel
theorem d_De_digit_32 : decode c_De_digit 32 = .ok (.ldc2_w 47, 3) := by decide +kernel
theorem d_De_digit_35 : decode c_De_digit 35 = .ok (.lrem, 1) := by decide +kernel
theorem d_De_digit_36 : decode c_De_digit 36 = .ok (.l2i, 1) := by decide +kernel
theorem d_De_digit_37 : decode c_De_digit 37 = .ok (.ireturn, 1) := by decide +kernel
theorem d_De_copy_0 : decode c_De_copy 0 = .ok (.aload_n 0, 1) := by decide +kernel
theorem d_De_copy_1 : decode c_De_copy 1 = .ok (.aload_n 1, 1) := by decide +kernel
theorem d_De_copy_2 : decode c_De_copy 2 = .ok (.getfield 15, 3) := by decide +kernel
theorem d_De_copy_5 : decode c_De_copy 5 = .ok (.putfield 15, 3) := by decide +kernel
theorem d_De_copy_8 : decode c_De_copy 8 = .ok (.aload_n 0, 1) := by decide +kernel
theorem d_De_copy_9 : decode c_De_copy 9 = .ok (.aload_n 1, 1) := by decide +kernel
theorem d_De_copy_10 : decode c_De_copy 10 = .ok (.getfield 19, 3) := by decide +kernel
theorem d_De_copy_13 : decode c_De_copy 13 = .ok (.putfield 19, 3) := by decide +kernel
theorem d_De_copy_16 : decode c_De_copy 16 = .ok (.aload_n 0, 1) := by decide +kernel
theorem d_De_copy_17 : decode c_De_copy 17 = .ok (.aload_n 1, 1) := by decide +kernel
theorem d_De_copy_18 : decode c_De_copy 18 = .ok (.getfield 22, 3) := by decide +kernel
theorem d_De_copy_21 : decode c_De_copy 21 = .ok (.putfield 22, 3) := by decide +kernel
theorem d_De_copy_24 : decode c_De_copy 24 = .ok (.aload_n 0, 1) := by decide +kernel
theorem d_De_copy_25 : decode c_De_copy 25 = .ok (.aload_n 1, 1) := by decide +kernel
theorem d_De_copy_26 : decode c_De_copy 26 = .ok (.getfield 25, 3) := by decide +kernel
theorem d_De_copy_29 : decode c_De_copy 29 = .ok (.putfield 25, 3) := by decide +kernel
theorem d_De_copy_32 : decode c_De_copy 32 = .ok (.aload_n 1, 1) := by decide +kernel
theorem d_De_copy_33 : decode c_De_copy 33 = .ok (.getfield 11, 3) := by decide +kernel
theorem d_De_copy_36 : decode c_De_copy 36 = .ok (.iconst 0, 1) := by decide +kernel
theorem d_De_copy_37 : decode c_De_copy 37 = .ok (.aload_n 0, 1) := by decide +kernel
theorem d_De_copy_38 : decode c_De_copy 38 = .ok (.getfield 11, 3) := by decide +kernel
theorem d_De_copy_41 : decode c_De_copy 41 = .ok (.iconst 0, 1) := by decide +kernel
theorem d_De_copy_42 : decode c_De_copy 42 = .ok (.iconst 4, 1) := by decide +kernel
theorem d_De_copy_43 : decode c_De_copy 43 = .ok (.invokestatic 37, 3) := by decide +kernel
theorem d_De_copy_46 : decode c_De_copy 46 = .ok (.return_, 1) := by decide +kernel
theorem d_De_compareSize_0 : decode c_De_compareSize 0 = .ok (.aload_n 0, 1) := by decide +kernel
theorem d_De_compareSize_1 : decode c_De_compareSize 1 = .ok (.getfield 25, 3) := by decide +kernel
theorem d_De_compareSize_4 : decode c_De_compareSize 4 = .ok (.ifCond .eq 10, 3) := by decide +kernel
theorem d_De_compareSize_7 : decode c_De_compareSize 7 = .ok (.aload_n 1, 1) := by decide +kernel
theorem d_De_compareSize_8 : decode c_De_compareSize 8 = .ok (.getfield 25, 3) := by decide +kernel
theorem d_De_compareSize_11 : decode c_De_compareSize 11 = .ok (.ifCond .ne 15, 3) := by decide +kernel
theorem d_De_compareSize_14 : decode c_De_compareSize 14 = .ok (.aload_n 0, 1) := by decide +kernel
theorem d_De_compareSize_15 : decode c_De_compareSize 15 = .ok (.getfield 25, 3) := by decide +kernel
theorem d_De_compareSize_18 : decode c_De_compareSize 18 = .ok (.aload_n 1, 1) := by decide +kernel
theorem d_De_compareSize_19 : decode c_De_compareSize 19 = .ok (.getfield 25, 3) := by decide +kernel
theorem d_De_compareSize_22 : decode c_De_compareSize 22 = .ok (.invokestatic 73, 3) := by decide +kernel
theorem d_De_compareSize_25 : decode c_De_compareSize 25 = .ok (.ireturn, 1) := by decide +kernel
theorem d_De_compareSize_26 : decode c_De_compareSize 26 = .ok (.aload_n 0, 1) := by decide +kernel
theorem d_De_compareSize_27 : decode c_De_compareSize 27 = .ok (.getfield 22, 3) := by decide +kernel
theorem d_De_compareSize_30 : decode c_De_compareSize 30 = .ok (.aload_n 1, 1) := by decide +kernel
theorem d_De_compareSize_31 : decode c_De_compareSize 31 = .ok (.getfield 22, 3) := by decide +kernel
theorem d_De_compareSize_34 : decode c_De_compareSize 34 = .ok (.if_icmp .eq 15, 3) := by decide +kernel
theorem d_De_compareSize_37 : decode c_De_compareSize 37 = .ok (.aload_n 0, 1) := by decide +kernel
theorem d_De_compareSize_38 : decode c_De_compareSize 38 = .ok (.getfield 22, 3) := by decide +kernel
theorem d_De_compareSize_41 : decode c_De_compareSize 41 = .ok (.aload_n 1, 1) := by decide +kernel
theorem d_De_compareSize_42 : decode c_De_compareSize 42 = .ok (.getfield 22, 3) := by decide +kernel
theorem d_De_compareSize_45 : decode c_De_compareSize 45 = .ok (.invokestatic 73, 3) := by decide +kernel
theorem d_De_compareSize_48 : decode c_De_compareSize 48 = .ok (.ireturn, 1) := by decide +kernel
theorem d_De_compareSize_49 : decode c_De_compareSize 49 = .ok (.iconst 0, 1) := by decide +kernel
theorem d_De_compareSize_50 : decode c_De_compareSize 50 = .ok (.istore_n 2, 1) := by decide +kernel
theorem d_De_compareSize_51 : decode c_De_compareSize 51 = .ok (.iload_n 2, 1) := by decide +kernel
theorem d_De_compareSize_52 : decode c_De_compareSize 52 = .ok (.iconst 4, 1) := by decide +kernel
theorem d_De_compareSize_53 : decode c_De_compareSize 53 = .ok (.if_icmp .ge 41, 3) := by decide +kernel
theorem d_De_compareSize_56 : decode c_De_compareSize 56 = .ok (.aload_n 0, 1) := by decide +kernel
theorem d_De_compareSize_57 : decode c_De_compareSize 57 = .ok (.getfield 11, 3) := by decide +kernel
theorem d_De_compareSize_60 : decode c_De_compareSize 60 = .ok (.iload_n 2, 1) := by decide +kernel
theorem d_De_compareSize_61 : decode c_De_compareSize 61 = .ok (.laload, 1) := by decide +kernel
theorem d_De_compareSize_62 : decode c_De_compareSize 62 = .ok (.aload_n 1, 1) := by decide +kernel
theorem d_De_compareSize_63 : decode c_De_compareSize 63 = .ok (.getfield 11, 3) := by decide +kernel
theorem d_De_compareSize_66 : decode c_De_compareSize 66 = .ok (.iload_n 2, 1) := by decide +kernel
theorem d_De_compareSize_67 : decode c_De_compareSize 67 = .ok (.laload, 1) := by decide +kernel
theorem d_De_compareSize_68 : decode c_De_compareSize 68 = .ok (.lcmp, 1) := by decide +kernel
theorem d_De_compareSize_69 : decode c_De_compareSize 69 = .ok (.ifCond .eq 19, 3) := by decide +kernel
theorem d_De_compareSize_72 : decode c_De_compareSize 72 = .ok (.aload_n 0, 1) := by decide +kernel
theorem d_De_compareSize_73 : decode c_De_compareSize 73 = .ok (.getfield 11, 3) := by decide +kernel
theorem d_De_compareSize_76 : decode c_De_compareSize 76 = .ok (.iload_n 2, 1) := by decide +kernel
theorem d_De_compareSize_77 : decode c_De_compareSize 77 = .ok (.laload, 1) := by decide +kernel
theorem d_De_compareSize_78 : decode c_De_compareSize 78 = .ok (.aload_n 1, 1) := by decide +kernel
theorem d_De_compareSize_79 : decode c_De_compareSize 79 = .ok (.getfield 11, 3) := by decide +kernel
theorem d_De_compareSize_82 : decode c_De_compareSize 82 = .ok (.iload_n 2, 1) := by decide +kernel
theorem d_De_compareSize_83 : decode c_De_compareSize 83 = .ok (.laload, 1) := by decide +kernel
theorem d_De_compareSize_84 : decode c_De_compareSize 84 = .ok (.invokestatic 78, 3) := by decide +kernel
theorem d_De_compareSize_87 : decode c_De_compareSize 87 = .ok (.ireturn, 1) := by decide +kernel
theorem d_De_compareSize_88 : decode c_De_compareSize 88 = .ok (.iinc 2 1, 3) := by decide +kernel
theorem d_De_compareSize_91 : decode c_De_compareSize 91 = .ok (.goto (-40), 3) := by decide +kernel
theorem d_De_compareSize_94 : decode c_De_compareSize 94 = .ok (.iconst 0, 1) := by decide +kernel
theorem d_De_compareSize_95 : decode c_De_compareSize 95 = .ok (.ireturn, 1) := by decide +kernel
theorem d_Re_init_0 : decode c_Re_init 0 = .ok (.aload_n 0, 1) := by decide +kernel
theorem d_Re_init_1 : decode c_Re_init 1 = .ok (.invokespecial 1, 3) := by decide +kernel
theorem d_Re_init_4 : decode c_Re_init 4 = .ok (.aload_n 0, 1) := by decide +kernel
theorem d_Re_init_5 : decode c_Re_init 5 = .ok (.iload_n 1, 1) := by decide +kernel
theorem d_Re_init_6 : decode c_Re_init 6 = .ok (.putfield 7, 3) := by decide +kernel
theorem d_Re_init_9 : decode c_Re_init 9 = .ok (.aload_n 0, 1) := by decide +kernel
theorem d_Re_init_10 : decode c_Re_init 10 = .ok (.iload_n 2, 1) := by decide +kernel
theorem d_Re_init_11 : decode c_Re_init 11 = .ok (.putfield 13, 3) := by decide +kernel
theorem d_Re_init_14 : decode c_Re_init 14 = .ok (.aload_n 0, 1) := by decide +kernel
theorem d_Re_init_15 : decode c_Re_init 15 = .ok (.iload_n 3, 1) := by decide +kernel
theorem d_Re_init_16 : decode c_Re_init 16 = .ok (.putfield 16, 3) := by decide +kernel
theorem d_Re_init_19 : decode c_Re_init 19 = .ok (.return_, 1) := by decide +kernel
theorem d_Re_refuses_0 : decode c_Re_refuses 0 = .ok (.aload_n 0, 1) := by decide +kernel
theorem d_Re_refuses_1 : decode c_Re_refuses 1 = .ok (.getfield 16, 3) := by decide +kernel
theorem d_Re_refuses_4 : decode c_Re_refuses 4 = .ok (.bipush 7, 2) := by decide +kernel
theorem d_Re_refuses_6 : decode c_Re_refuses 6 = .ok (.if_icmp .ne 15, 3) := by decide +kernel
theorem d_Re_refuses_9 : decode c_Re_refuses 9 = .ok (.aload_n 0, 1) := by decide +kernel
theorem d_Re_refuses_10 : decode c_Re_refuses 10 = .ok (.aload_n 1, 1) := by decide +kernel
theorem d_Re_refuses_11 : decode c_Re_refuses 11 = .ok (.invokevirtual 19, 3) := by decide +kernel
theorem d_Re_refuses_14 : decode c_Re_refuses 14 = .ok (.ifCond .ne 7, 3) := by decide +kernel
theorem d_Re_refuses_17 : decode c_Re_refuses 17 = .ok (.iconst 1, 1) := by decide +kernel
theorem d_Re_refuses_18 : decode c_Re_refuses 18 = .ok (.goto 4, 3) := by decide +kernel
theorem d_Re_refuses_21 : decode c_Re_refuses 21 = .ok (.iconst 0, 1) := by decide +kernel
theorem d_Re_refuses_22 : decode c_Re_refuses 22 = .ok (.ireturn, 1) := by decide +kernel
theorem d_Re_isExact_0 : decode c_Re_isExact 0 = .ok (.aload_n 1, 1) := by decide +kernel
theorem d_Re_isExact_1 : decode c_Re_isExact 1 = .ok (.getfield 45, 3) := by decide +kernel
theorem d_Re_isExact_4 : decode c_Re_isExact 4 = .ok (.aload_n 1, 1) := by decide +kernel
theorem d_Re_isExact_5 : decode c_Re_isExact 5 = .ok (.aload_n 0, 1) := by decide +kernel
theorem d_Re_isExact_6 : decode c_Re_isExact 6 = .ok (.getfield 13, 3) := by decide +kernel
theorem d_Re_isExact_9 : decode c_Re_isExact 9 = .ok (.invokevirtual 23, 3) := by decide +kernel
theorem d_Re_isExact_12 : decode c_Re_isExact 12 = .ok (.if_icmp .gt 7, 3) := by decide +kernel
theorem d_Re_isExact_15 : decode c_Re_isExact 15 = .ok (.iconst 1, 1) := by decide +kernel
theorem d_Re_isExact_16 : decode c_Re_isExact 16 = .ok (.goto 4, 3) := by decide +kernel
theorem d_Re_isExact_19 : decode c_Re_isExact 19 = .ok (.iconst 0, 1) := by decide +kernel
theorem d_Re_isExact_20 : decode c_Re_isExact 20 = .ok (.ireturn, 1) := by decide +kernel
theorem d_Re_fits_0 : decode c_Re_fits 0 = .ok (.aload_n 1, 1) := by decide +kernel
theorem d_Re_fits_1 : decode c_Re_fits 1 = .ok (.aload_n 0, 1) := by decide +kernel
theorem d_Re_fits_2 : decode c_Re_fits 2 = .ok (.getfield 13, 3) := by decide +kernel
theorem d_Re_fits_5 : decode c_Re_fits 5 = .ok (.invokevirtual 23, 3) := by decide +kernel
theorem d_Re_fits_8 : decode c_Re_fits 8 = .ok (.aload_n 0, 1) := by decide +kernel
theorem d_Re_fits_9 : decode c_Re_fits 9 = .ok (.getfield 7, 3) := by decide +kernel
theorem d_Re_fits_12 : decode c_Re_fits 12 = .ok (.if_icmp .gt 23, 3) := by decide +kernel
theorem d_Re_fits_15 : decode c_Re_fits 15 = .ok (.aload_n 0, 1) := by decide +kernel
theorem d_Re_fits_16 : decode c_Re_fits 16 = .ok (.aload_n 1, 1) := by decide +kernel
theorem d_Re_fits_17 : decode c_Re_fits 17 = .ok (.invokevirtual 29, 3) := by decide +kernel
theorem d_Re_fits_20 : decode c_Re_fits 20 = .ok (.aload_n 0, 1) := by decide +kernel
theorem d_Re_fits_21 : decode c_Re_fits 21 = .ok (.getfield 7, 3) := by decide +kernel
theorem d_Re_fits_24 : decode c_Re_fits 24 = .ok (.invokestatic 33, 3) := by decide +kernel
theorem d_Re_fits_27 : decode c_Re_fits 27 = .ok (.lcmp, 1) := by decide +kernel
theorem d_Re_fits_28 : decode c_Re_fits 28 = .ok (.ifCond .ge 7, 3) := by decide +kernel
theorem d_Re_fits_31 : decode c_Re_fits 31 = .ok (.iconst 1, 1) := by decide +kernel
theorem d_Re_fits_32 : decode c_Re_fits 32 = .ok (.goto 4, 3) := by decide +kernel
theorem d_Re_fits_35 : decode c_Re_fits 35 = .ok (.iconst 0, 1) := by decide +kernel
theorem d_Re_fits_36 : decode c_Re_fits 36 = .ok (.ireturn, 1) := by decide +kernel
theorem d_Re_roundedSize_0 : decode c_Re_roundedSize 0 = .ok (.aload_n 1, 1) := by decide +kernel
theorem d_Re_roundedSize_1 : decode c_Re_roundedSize 1 = .ok (.aload_n 0, 1) := by decide +kernel
theorem d_Re_roundedSize_2 : decode c_Re_roundedSize 2 = .ok (.getfield 13, 3) := by decide +kernel
theorem d_Re_roundedSize_5 : decode c_Re_roundedSize 5 = .ok (.invokevirtual 39, 3) := by decide +kernel
theorem d_Re_roundedSize_8 : decode c_Re_roundedSize 8 = .ok (.aload_n 0, 1) := by decide +kernel
theorem d_Re_roundedSize_9 : decode c_Re_roundedSize 9 = .ok (.aload_n 1, 1) := by decide +kernel
theorem d_Re_roundedSize_10 : decode c_Re_roundedSize 10 = .ok (.invokevirtual 42, 3) := by decide +kernel
theorem d_Re_roundedSize_13 : decode c_Re_roundedSize 13 = .ok (.ifCond .eq 7, 3) := by decide +kernel
theorem d_Re_roundedSize_16 : decode c_Re_roundedSize 16 = .ok (.iconst 1, 1) := by decide +kernel
theorem d_Re_roundedSize_17 : decode c_Re_roundedSize 17 = .ok (.goto 4, 3) := by decide +kernel
theorem d_Re_roundedSize_20 : decode c_Re_roundedSize 20 = .ok (.iconst 0, 1) := by decide +kernel
theorem d_Re_roundedSize_21 : decode c_Re_roundedSize 21 = .ok (.i2l, 1) := by decide +kernel
theorem d_Re_roundedSize_22 : decode c_Re_roundedSize 22 = .ok (.ladd, 1) := by decide +kernel
theorem d_Re_roundedSize_23 : decode c_Re_roundedSize 23 = .ok (.lreturn, 1) := by decide +kernel
theorem d_Re_goesUp_0 : decode c_Re_goesUp 0 = .ok (.aload_n 0, 1) := by decide +kernel
theorem d_Re_goesUp_1 : decode c_Re_goesUp 1 = .ok (.aload_n 1, 1) := by decide +kernel
theorem d_Re_goesUp_2 : decode c_Re_goesUp 2 = .ok (.invokevirtual 19, 3) := by decide +kernel
theorem d_Re_goesUp_5 : decode c_Re_goesUp 5 = .ok (.ifCond .eq 5, 3) := by decide +kernel
theorem d_Re_goesUp_8 : decode c_Re_goesUp 8 = .ok (.iconst 0, 1) := by decide +kernel
theorem d_Re_goesUp_9 : decode c_Re_goesUp 9 = .ok (.ireturn, 1) := by decide +kernel
theorem d_Re_goesUp_10 : decode c_Re_goesUp 10 = .ok (.aload_n 0, 1) := by decide +kernel
theorem d_Re_goesUp_11 : decode c_Re_goesUp 11 = .ok (.getfield 16, 3) := by decide +kernel
theorem d_Re_goesUp_14 : decode c_Re_goesUp 14 = .ok (.tableswitch 124 1 6 #[38, 40, 54, 84, 98, 111], 38) := by decide +kernel
theorem d_Re_goesUp_52 : decode c_Re_goesUp 52 = .ok (.iconst 1, 1) := by decide +kernel
theorem d_Re_goesUp_53 : decode c_Re_goesUp 53 = .ok (.ireturn, 1) := by decide +kernel
theorem d_Re_goesUp_54 : decode c_Re_goesUp 54 = .ok (.aload_n 0, 1) := by decide +kernel
theorem d_Re_goesUp_55 : decode c_Re_goesUp 55 = .ok (.aload_n 1, 1) := by decide +kernel
theorem d_Re_goesUp_56 : decode c_Re_goesUp 56 = .ok (.invokevirtual 48, 3) := by decide +kernel
theorem d_Re_goesUp_59 : decode c_Re_goesUp 59 = .ok (.ifCond .lt 7, 3) := by decide +kernel
theorem d_Re_goesUp_62 : decode c_Re_goesUp 62 = .ok (.iconst 1, 1) := by decide +kernel
theorem d_Re_goesUp_63 : decode c_Re_goesUp 63 = .ok (.goto 4, 3) := by decide +kernel
theorem d_Re_goesUp_66 : decode c_Re_goesUp 66 = .ok (.iconst 0, 1) := by decide +kernel
theorem d_Re_goesUp_67 : decode c_Re_goesUp 67 = .ok (.ireturn, 1) := by decide +kernel
theorem d_Re_goesUp_68 : decode c_Re_goesUp 68 = .ok (.aload_n 0, 1) := by decide +kernel
theorem d_Re_goesUp_69 : decode c_Re_goesUp 69 = .ok (.aload_n 1, 1) := by decide +kernel
theorem d_Re_goesUp_70 : decode c_Re_goesUp 70 = .ok (.invokevirtual 48, 3) := by decide +kernel
theorem d_Re_goesUp_73 : decode c_Re_goesUp 73 = .ok (.ifCond .gt 19, 3) := by decide +kernel
theorem d_Re_goesUp_76 : decode c_Re_goesUp 76 = .ok (.aload_n 0, 1) := by decide +kernel
theorem d_Re_goesUp_77 : decode c_Re_goesUp 77 = .ok (.aload_n 1, 1) := by decide +kernel
theorem d_Re_goesUp_78 : decode c_Re_goesUp 78 = .ok (.invokevirtual 48, 3) := by decide +kernel
theorem d_Re_goesUp_81 : decode c_Re_goesUp 81 = .ok (.ifCond .ne 15, 3) := by decide +kernel
theorem d_Re_goesUp_84 : decode c_Re_goesUp 84 = .ok (.aload_n 0, 1) := by decide +kernel
theorem d_Re_goesUp_85 : decode c_Re_goesUp 85 = .ok (.aload_n 1, 1) := by decide +kernel
theorem d_Re_goesUp_86 : decode c_Re_goesUp 86 = .ok (.invokevirtual 52, 3) := by decide +kernel
theorem d_Re_goesUp_89 : decode c_Re_goesUp 89 = .ok (.ifCond .eq 7, 3) := by decide +kernel
theorem d_Re_goesUp_92 : decode c_Re_goesUp 92 = .ok (.iconst 1, 1) := by decide +kernel
theorem d_Re_goesUp_93 : decode c_Re_goesUp 93 = .ok (.goto 4, 3) := by decide +kernel
theorem d_Re_goesUp_96 : decode c_Re_goesUp 96 = .ok (.iconst 0, 1) := by decide +kernel
theorem d_Re_goesUp_97 : decode c_Re_goesUp 97 = .ok (.ireturn, 1) := by decide +kernel
theorem d_Re_goesUp_98 : decode c_Re_goesUp 98 = .ok (.aload_n 0, 1) := by decide +kernel
theorem d_Re_goesUp_99 : decode c_Re_goesUp 99 = .ok (.aload_n 1, 1) := by decide +kernel
theorem d_Re_goesUp_100 : decode c_Re_goesUp 100 = .ok (.invokevirtual 48, 3) := by decide +kernel
theorem d_Re_goesUp_103 : decode c_Re_goesUp 103 = .ok (.ifCond .le 7, 3) := by decide +kernel
theorem d_Re_goesUp_106 : decode c_Re_goesUp 106 = .ok (.iconst 1, 1) := by decide +kernel
theorem d_Re_goesUp_107 : decode c_Re_goesUp 107 = .ok (.goto 4, 3) := by decide +kernel
theorem d_Re_goesUp_110 : decode c_Re_goesUp 110 = .ok (.iconst 0, 1) := by decide +kernel
theorem d_Re_goesUp_111 : decode c_Re_goesUp 111 = .ok (.ireturn, 1) := by decide +kernel
theorem d_Re_goesUp_112 : decode c_Re_goesUp 112 = .ok (.aload_n 1, 1) := by decide +kernel
theorem d_Re_goesUp_113 : decode c_Re_goesUp 113 = .ok (.getfield 55, 3) := by decide +kernel
theorem d_Re_goesUp_116 : decode c_Re_goesUp 116 = .ok (.ifCond .le 7, 3) := by decide +kernel
theorem d_Re_goesUp_119 : decode c_Re_goesUp 119 = .ok (.iconst 1, 1) := by decide +kernel
theorem d_Re_goesUp_120 : decode c_Re_goesUp 120 = .ok (.goto 4, 3) := by decide +kernel
theorem d_Re_goesUp_123 : decode c_Re_goesUp 123 = .ok (.iconst 0, 1) := by decide +kernel
theorem d_Re_goesUp_124 : decode c_Re_goesUp 124 = .ok (.ireturn, 1) := by decide +kernel
theorem d_Re_goesUp_125 : decode c_Re_goesUp 125 = .ok (.aload_n 1, 1) := by decide +kernel
theorem d_Re_goesUp_126 : decode c_Re_goesUp 126 = .ok (.getfield 55, 3) := by decide +kernel
theorem d_Re_goesUp_129 : decode c_Re_goesUp 129 = .ok (.ifCond .ge 7, 3) := by decide +kernel
theorem d_Re_goesUp_132 : decode c_Re_goesUp 132 = .ok (.iconst 1, 1) := by decide +kernel
theorem d_Re_goesUp_133 : decode c_Re_goesUp 133 = .ok (.goto 4, 3) := by decide +kernel
theorem d_Re_goesUp_136 : decode c_Re_goesUp 136 = .ok (.iconst 0, 1) := by decide +kernel
theorem d_Re_goesUp_137 : decode c_Re_goesUp 137 = .ok (.ireturn, 1) := by decide +kernel
theorem d_Re_goesUp_138 : decode c_Re_goesUp 138 = .ok (.iconst 0, 1) := by decide +kernel
theorem d_Re_goesUp_139 : decode c_Re_goesUp 139 = .ok (.ireturn, 1) := by decide +kernel
theorem d_Re_compareToHalf_0 : decode c_Re_compareToHalf 0 = .ok (.aload_n 1, 1) := by decide +kernel
theorem d_Re_compareToHalf_1 : decode c_Re_compareToHalf 1 = .ok (.aload_n 0, 1) := by decide +kernel
theorem d_Re_compareToHalf_2 : decode c_Re_compareToHalf 2 = .ok (.getfield 13, 3) := by decide +kernel
theorem d_Re_compareToHalf_5 : decode c_Re_compareToHalf 5 = .ok (.invokevirtual 23, 3) := by decide +kernel
theorem d_Re_compareToHalf_8 : decode c_Re_compareToHalf 8 = .ok (.istore_n 2, 1) := by decide +kernel
theorem d_Re_compareToHalf_9 : decode c_Re_compareToHalf 9 = .ok (.aload_n 1, 1) := by decide +kernel
theorem d_Re_compareToHalf_10 : decode c_Re_compareToHalf 10 = .ok (.iload_n 2, 1) := by decide +kernel
theorem d_Re_compareToHalf_11 : decode c_Re_compareToHalf 11 = .ok (.invokevirtual 58, 3) := by decide +kernel
theorem d_Re_compareToHalf_14 : decode c_Re_compareToHalf 14 = .ok (.istore_n 3, 1) := by decide +kernel
theorem d_Re_compareToHalf_15 : decode c_Re_compareToHalf 15 = .ok (.iload_n 3, 1) := by decide +kernel
theorem d_Re_compareToHalf_16 : decode c_Re_compareToHalf 16 = .ok (.iconst 5, 1) := by decide +kernel
theorem d_Re_compareToHalf_17 : decode c_Re_compareToHalf 17 = .ok (.if_icmp .eq 9, 3) := by decide +kernel
theorem d_Re_compareToHalf_20 : decode c_Re_compareToHalf 20 = .ok (.iload_n 3, 1) := by decide +kernel
theorem d_Re_compareToHalf_21 : decode c_Re_compareToHalf 21 = .ok (.iconst 5, 1) := by decide +kernel
theorem d_Re_compareToHalf_22 : decode c_Re_compareToHalf 22 = .ok (.invokestatic 61, 3) := by decide +kernel
theorem d_Re_compareToHalf_25 : decode c_Re_compareToHalf 25 = .ok (.ireturn, 1) := by decide +kernel
theorem d_Re_compareToHalf_26 : decode c_Re_compareToHalf 26 = .ok (.aload_n 1, 1) := by decide +kernel
theorem d_Re_compareToHalf_27 : decode c_Re_compareToHalf 27 = .ok (.getfield 45, 3) := by decide +kernel
theorem d_Re_compareToHalf_30 : decode c_Re_compareToHalf 30 = .ok (.iload_n 2, 1) := by decide +kernel
theorem d_Re_compareToHalf_31 : decode c_Re_compareToHalf 31 = .ok (.iconst 1, 1) := by decide +kernel
theorem d_Re_compareToHalf_32 : decode c_Re_compareToHalf 32 = .ok (.iadd, 1) := by decide +kernel
theorem d_Re_compareToHalf_33 : decode c_Re_compareToHalf 33 = .ok (.if_icmp .le 7, 3) := by decide +kernel
theorem d_Re_compareToHalf_36 : decode c_Re_compareToHalf 36 = .ok (.iconst 1, 1) := by decide +kernel
theorem d_Re_compareToHalf_37 : decode c_Re_compareToHalf 37 = .ok (.goto 4, 3) := by decide +kernel
theorem d_Re_compareToHalf_40 : decode c_Re_compareToHalf 40 = .ok (.iconst 0, 1) := by decide +kernel
theorem d_Re_compareToHalf_41 : decode c_Re_compareToHalf 41 = .ok (.ireturn, 1) := by decide +kernel
theorem d_Re_endsOdd_0 : decode c_Re_endsOdd 0 = .ok (.aload_n 1, 1) := by decide +kernel
theorem d_Re_endsOdd_1 : decode c_Re_endsOdd 1 = .ok (.aload_n 1, 1) := by decide +kernel
theorem d_Re_endsOdd_2 : decode c_Re_endsOdd 2 = .ok (.aload_n 0, 1) := by decide +kernel
theorem d_Re_endsOdd_3 : decode c_Re_endsOdd 3 = .ok (.getfield 13, 3) := by decide +kernel
theorem d_Re_endsOdd_6 : decode c_Re_endsOdd 6 = .ok (.invokevirtual 23, 3) := by decide +kernel
theorem d_Re_endsOdd_9 : decode c_Re_endsOdd 9 = .ok (.iconst 1, 1) := by decide +kernel
theorem d_Re_endsOdd_10 : decode c_Re_endsOdd 10 = .ok (.isub, 1) := by decide +kernel
theorem d_Re_endsOdd_11 : decode c_Re_endsOdd 11 = .ok (.invokevirtual 58, 3) := by decide +kernel
theorem d_Re_endsOdd_14 : decode c_Re_endsOdd 14 = .ok (.iconst 2, 1) := by decide +kernel
theorem d_Re_endsOdd_15 : decode c_Re_endsOdd 15 = .ok (.irem, 1) := by decide +kernel
theorem d_Re_endsOdd_16 : decode c_Re_endsOdd 16 = .ok (.ifCond .eq 7, 3) := by decide +kernel
theorem d_Re_endsOdd_19 : decode c_Re_endsOdd 19 = .ok (.iconst 1, 1) := by decide +kernel
theorem d_Re_endsOdd_20 : decode c_Re_endsOdd 20 = .ok (.goto 4, 3) := by decide +kernel
theorem d_Re_endsOdd_23 : decode c_Re_endsOdd 23 = .ok (.iconst 0, 1) := by decide +kernel
theorem d_Re_endsOdd_24 : decode c_Re_endsOdd 24 = .ok (.ireturn, 1) := by decide +kernel
theorem d_Re_lowestDigits_0 : decode c_Re_lowestDigits 0 = .ok (.lload_n 1, 1) := by decide +kernel
theorem d_Re_lowestDigits_1 : decode c_Re_lowestDigits 1 = .ok (.aload_n 0, 1) := by decide +kernel
theorem d_Re_lowestDigits_2 : decode c_Re_lowestDigits 2 = .ok (.getfield 7, 3) := by decide +kernel
theorem d_Re_lowestDigits_5 : decode c_Re_lowestDigits 5 = .ok (.invokestatic 33, 3) := by decide +kernel
theorem d_Re_lowestDigits_8 : decode c_Re_lowestDigits 8 = .ok (.lrem, 1) := by decide +kernel
theorem d_Re_lowestDigits_9 : decode c_Re_lowestDigits 9 = .ok (.lreturn, 1) := by decide +kernel
