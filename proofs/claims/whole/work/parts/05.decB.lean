theorem dX4_init_0 : decode cX4_init 0 = .ok (.aload_n 0, 1) := by decide +kernel
theorem dX4_init_1 : decode cX4_init 1 = .ok (.invokespecial 3, 3) := by decide +kernel
theorem dX4_init_4 : decode cX4_init 4 = .ok (.aload_n 0, 1) := by decide +kernel
theorem dX4_init_5 : decode cX4_init 5 = .ok (.sipush 256, 3) := by decide +kernel
theorem dX4_init_8 : decode cX4_init 8 = .ok (.newarray .int, 2) := by decide +kernel
theorem dX4_init_10 : decode cX4_init 10 = .ok (.putfield 9, 3) := by decide +kernel
theorem dX4_init_13 : decode cX4_init 13 = .ok (.aload_n 0, 1) := by decide +kernel
theorem dX4_init_14 : decode cX4_init 14 = .ok (.sipush 128, 3) := by decide +kernel
theorem dX4_init_17 : decode cX4_init 17 = .ok (.newarray .int, 2) := by decide +kernel
theorem dX4_init_19 : decode cX4_init 19 = .ok (.putfield 15, 3) := by decide +kernel
theorem dX4_init_22 : decode cX4_init 22 = .ok (.aload_n 0, 1) := by decide +kernel
theorem dX4_init_23 : decode cX4_init 23 = .ok (.sipush 128, 3) := by decide +kernel
theorem dX4_init_26 : decode cX4_init 26 = .ok (.newarray .int, 2) := by decide +kernel
theorem dX4_init_28 : decode cX4_init 28 = .ok (.putfield 18, 3) := by decide +kernel
theorem dX4_init_31 : decode cX4_init 31 = .ok (.aload_n 0, 1) := by decide +kernel
theorem dX4_init_32 : decode cX4_init 32 = .ok (.sipush 256, 3) := by decide +kernel
theorem dX4_init_35 : decode cX4_init 35 = .ok (.newarray .int, 2) := by decide +kernel
theorem dX4_init_37 : decode cX4_init 37 = .ok (.putfield 21, 3) := by decide +kernel
theorem dX4_init_40 : decode cX4_init 40 = .ok (.aload_n 0, 1) := by decide +kernel
theorem dX4_init_41 : decode cX4_init 41 = .ok (.iconst 0, 1) := by decide +kernel
theorem dX4_init_42 : decode cX4_init 42 = .ok (.putfield 24, 3) := by decide +kernel
theorem dX4_init_45 : decode cX4_init 45 = .ok (.aload_n 0, 1) := by decide +kernel
theorem dX4_init_46 : decode cX4_init 46 = .ok (.aload_n 1, 1) := by decide +kernel
theorem dX4_init_47 : decode cX4_init 47 = .ok (.putfield 28, 3) := by decide +kernel
theorem dX4_init_50 : decode cX4_init 50 = .ok (.return_, 1) := by decide +kernel
theorem dX4_checkSum_0 : decode cX4_checkSum 0 = .ok (.lconst 0, 1) := by decide +kernel
theorem dX4_checkSum_1 : decode cX4_checkSum 1 = .ok (.lstore_n 1, 1) := by decide +kernel
theorem dX4_checkSum_2 : decode cX4_checkSum 2 = .ok (.iconst 0, 1) := by decide +kernel
theorem dX4_checkSum_3 : decode cX4_checkSum 3 = .ok (.istore_n 3, 1) := by decide +kernel
theorem dX4_checkSum_4 : decode cX4_checkSum 4 = .ok (.iload_n 3, 1) := by decide +kernel
theorem dX4_checkSum_5 : decode cX4_checkSum 5 = .ok (.aload_n 0, 1) := by decide +kernel
theorem dX4_checkSum_6 : decode cX4_checkSum 6 = .ok (.getfield 24, 3) := by decide +kernel
theorem dX4_checkSum_9 : decode cX4_checkSum 9 = .ok (.if_icmp .ge 24, 3) := by decide +kernel
theorem dX4_checkSum_12 : decode cX4_checkSum 12 = .ok (.lload_n 1, 1) := by decide +kernel
theorem dX4_checkSum_13 : decode cX4_checkSum 13 = .ok (.iload_n 3, 1) := by decide +kernel
theorem dX4_checkSum_14 : decode cX4_checkSum 14 = .ok (.i2l, 1) := by decide +kernel
theorem dX4_checkSum_15 : decode cX4_checkSum 15 = .ok (.lconst 1, 1) := by decide +kernel
theorem dX4_checkSum_16 : decode cX4_checkSum 16 = .ok (.ladd, 1) := by decide +kernel
theorem dX4_checkSum_17 : decode cX4_checkSum 17 = .ok (.aload_n 0, 1) := by decide +kernel
theorem dX4_checkSum_18 : decode cX4_checkSum 18 = .ok (.getfield 21, 3) := by decide +kernel
theorem dX4_checkSum_21 : decode cX4_checkSum 21 = .ok (.iload_n 3, 1) := by decide +kernel
theorem dX4_checkSum_22 : decode cX4_checkSum 22 = .ok (.iaload, 1) := by decide +kernel
theorem dX4_checkSum_23 : decode cX4_checkSum 23 = .ok (.i2l, 1) := by decide +kernel
theorem dX4_checkSum_24 : decode cX4_checkSum 24 = .ok (.lmul, 1) := by decide +kernel
theorem dX4_checkSum_25 : decode cX4_checkSum 25 = .ok (.ladd, 1) := by decide +kernel
theorem dX4_checkSum_26 : decode cX4_checkSum 26 = .ok (.lstore_n 1, 1) := by decide +kernel
theorem dX4_checkSum_27 : decode cX4_checkSum 27 = .ok (.iinc 3 1, 3) := by decide +kernel
theorem dX4_checkSum_30 : decode cX4_checkSum 30 = .ok (.goto (-26), 3) := by decide +kernel
theorem dX4_checkSum_33 : decode cX4_checkSum 33 = .ok (.lload_n 1, 1) := by decide +kernel
theorem dX4_checkSum_34 : decode cX4_checkSum 34 = .ok (.ldc2_w 32, 3) := by decide +kernel
theorem dX4_checkSum_37 : decode cX4_checkSum 37 = .ok (.lrem, 1) := by decide +kernel
theorem dX4_checkSum_38 : decode cX4_checkSum 38 = .ok (.lreturn, 1) := by decide +kernel
theorem dX4_shuffle_0 : decode cX4_shuffle 0 = .ok (.iconst 0, 1) := by decide +kernel
theorem dX4_shuffle_1 : decode cX4_shuffle 1 = .ok (.istore_n 2, 1) := by decide +kernel
theorem dX4_shuffle_2 : decode cX4_shuffle 2 = .ok (.iload_n 2, 1) := by decide +kernel
theorem dX4_shuffle_3 : decode cX4_shuffle 3 = .ok (.iload_n 1, 1) := by decide +kernel
theorem dX4_shuffle_4 : decode cX4_shuffle 4 = .ok (.if_icmp .ge 16, 3) := by decide +kernel
theorem dX4_shuffle_7 : decode cX4_shuffle 7 = .ok (.aload_n 0, 1) := by decide +kernel
theorem dX4_shuffle_8 : decode cX4_shuffle 8 = .ok (.getfield 21, 3) := by decide +kernel
theorem dX4_shuffle_11 : decode cX4_shuffle 11 = .ok (.iload_n 2, 1) := by decide +kernel
theorem dX4_shuffle_12 : decode cX4_shuffle 12 = .ok (.iload_n 2, 1) := by decide +kernel
theorem dX4_shuffle_13 : decode cX4_shuffle 13 = .ok (.iastore, 1) := by decide +kernel
theorem dX4_shuffle_14 : decode cX4_shuffle 14 = .ok (.iinc 2 1, 3) := by decide +kernel
theorem dX4_shuffle_17 : decode cX4_shuffle 17 = .ok (.goto (-15), 3) := by decide +kernel
theorem dX4_shuffle_20 : decode cX4_shuffle 20 = .ok (.iload_n 1, 1) := by decide +kernel
theorem dX4_shuffle_21 : decode cX4_shuffle 21 = .ok (.iconst 1, 1) := by decide +kernel
theorem dX4_shuffle_22 : decode cX4_shuffle 22 = .ok (.isub, 1) := by decide +kernel
theorem dX4_shuffle_23 : decode cX4_shuffle 23 = .ok (.istore_n 2, 1) := by decide +kernel
theorem dX4_shuffle_24 : decode cX4_shuffle 24 = .ok (.iload_n 2, 1) := by decide +kernel
theorem dX4_shuffle_25 : decode cX4_shuffle 25 = .ok (.iconst 1, 1) := by decide +kernel
theorem dX4_shuffle_26 : decode cX4_shuffle 26 = .ok (.if_icmp .lt 60, 3) := by decide +kernel
theorem dX4_shuffle_29 : decode cX4_shuffle 29 = .ok (.aload_n 0, 1) := by decide +kernel
theorem dX4_shuffle_30 : decode cX4_shuffle 30 = .ok (.getfield 28, 3) := by decide +kernel
theorem dX4_shuffle_33 : decode cX4_shuffle 33 = .ok (.getfield 34, 3) := by decide +kernel
theorem dX4_shuffle_36 : decode cX4_shuffle 36 = .ok (.ifCond .ne 50, 3) := by decide +kernel
theorem dX4_shuffle_39 : decode cX4_shuffle 39 = .ok (.aload_n 0, 1) := by decide +kernel
theorem dX4_shuffle_40 : decode cX4_shuffle 40 = .ok (.getfield 28, 3) := by decide +kernel
theorem dX4_shuffle_43 : decode cX4_shuffle 43 = .ok (.iload_n 2, 1) := by decide +kernel
theorem dX4_shuffle_44 : decode cX4_shuffle 44 = .ok (.iconst 1, 1) := by decide +kernel
theorem dX4_shuffle_45 : decode cX4_shuffle 45 = .ok (.iadd, 1) := by decide +kernel
theorem dX4_shuffle_46 : decode cX4_shuffle 46 = .ok (.i2l, 1) := by decide +kernel
theorem dX4_shuffle_47 : decode cX4_shuffle 47 = .ok (.invokevirtual 40, 3) := by decide +kernel
theorem dX4_shuffle_50 : decode cX4_shuffle 50 = .ok (.l2i, 1) := by decide +kernel
theorem dX4_shuffle_51 : decode cX4_shuffle 51 = .ok (.istore_n 3, 1) := by decide +kernel
theorem dX4_shuffle_52 : decode cX4_shuffle 52 = .ok (.aload_n 0, 1) := by decide +kernel
theorem dX4_shuffle_53 : decode cX4_shuffle 53 = .ok (.getfield 21, 3) := by decide +kernel
theorem dX4_shuffle_56 : decode cX4_shuffle 56 = .ok (.iload_n 2, 1) := by decide +kernel
theorem dX4_shuffle_57 : decode cX4_shuffle 57 = .ok (.iaload, 1) := by decide +kernel
theorem dX4_shuffle_58 : decode cX4_shuffle 58 = .ok (.istore 4, 2) := by decide +kernel
theorem dX4_shuffle_60 : decode cX4_shuffle 60 = .ok (.aload_n 0, 1) := by decide +kernel
theorem dX4_shuffle_61 : decode cX4_shuffle 61 = .ok (.getfield 21, 3) := by decide +kernel
theorem dX4_shuffle_64 : decode cX4_shuffle 64 = .ok (.iload_n 2, 1) := by decide +kernel
theorem dX4_shuffle_65 : decode cX4_shuffle 65 = .ok (.aload_n 0, 1) := by decide +kernel
theorem dX4_shuffle_66 : decode cX4_shuffle 66 = .ok (.getfield 21, 3) := by decide +kernel
theorem dX4_shuffle_69 : decode cX4_shuffle 69 = .ok (.iload_n 3, 1) := by decide +kernel
theorem dX4_shuffle_70 : decode cX4_shuffle 70 = .ok (.iaload, 1) := by decide +kernel
theorem dX4_shuffle_71 : decode cX4_shuffle 71 = .ok (.iastore, 1) := by decide +kernel
theorem dX4_shuffle_72 : decode cX4_shuffle 72 = .ok (.aload_n 0, 1) := by decide +kernel
theorem dX4_shuffle_73 : decode cX4_shuffle 73 = .ok (.getfield 21, 3) := by decide +kernel
theorem dX4_shuffle_76 : decode cX4_shuffle 76 = .ok (.iload_n 3, 1) := by decide +kernel
theorem dX4_shuffle_77 : decode cX4_shuffle 77 = .ok (.iload 4, 2) := by decide +kernel
theorem dX4_shuffle_79 : decode cX4_shuffle 79 = .ok (.iastore, 1) := by decide +kernel
theorem dX4_shuffle_80 : decode cX4_shuffle 80 = .ok (.iinc 2 (-1), 3) := by decide +kernel
theorem dX4_shuffle_83 : decode cX4_shuffle 83 = .ok (.goto (-59), 3) := by decide +kernel
theorem dX4_shuffle_86 : decode cX4_shuffle 86 = .ok (.aload_n 0, 1) := by decide +kernel
theorem dX4_shuffle_87 : decode cX4_shuffle 87 = .ok (.iload_n 1, 1) := by decide +kernel
theorem dX4_shuffle_88 : decode cX4_shuffle 88 = .ok (.putfield 24, 3) := by decide +kernel
theorem dX4_shuffle_91 : decode cX4_shuffle 91 = .ok (.aload_n 0, 1) := by decide +kernel
theorem dX4_shuffle_92 : decode cX4_shuffle 92 = .ok (.getfield 24, 3) := by decide +kernel
theorem dX4_shuffle_95 : decode cX4_shuffle 95 = .ok (.ireturn, 1) := by decide +kernel
theorem dX4_stratum_0 : decode cX4_stratum 0 = .ok (.aload_n 0, 1) := by decide +kernel
theorem dX4_stratum_1 : decode cX4_stratum 1 = .ok (.iload_n 1, 1) := by decide +kernel
theorem dX4_stratum_2 : decode cX4_stratum 2 = .ok (.invokevirtual 44, 3) := by decide +kernel
theorem dX4_stratum_5 : decode cX4_stratum 5 = .ok (.pop, 1) := by decide +kernel
theorem dX4_stratum_6 : decode cX4_stratum 6 = .ok (.iconst 0, 1) := by decide +kernel
theorem dX4_stratum_7 : decode cX4_stratum 7 = .ok (.istore_n 3, 1) := by decide +kernel
theorem dX4_stratum_8 : decode cX4_stratum 8 = .ok (.iload_n 3, 1) := by decide +kernel
theorem dX4_stratum_9 : decode cX4_stratum 9 = .ok (.iload_n 1, 1) := by decide +kernel
theorem dX4_stratum_10 : decode cX4_stratum 10 = .ok (.if_icmp .ge 23, 3) := by decide +kernel
theorem dX4_stratum_13 : decode cX4_stratum 13 = .ok (.iload_n 2, 1) := by decide +kernel
theorem dX4_stratum_14 : decode cX4_stratum 14 = .ok (.ifCond .le 19, 3) := by decide +kernel
theorem dX4_stratum_17 : decode cX4_stratum 17 = .ok (.aload_n 0, 1) := by decide +kernel
theorem dX4_stratum_18 : decode cX4_stratum 18 = .ok (.getfield 21, 3) := by decide +kernel
theorem dX4_stratum_21 : decode cX4_stratum 21 = .ok (.iload_n 3, 1) := by decide +kernel
theorem dX4_stratum_22 : decode cX4_stratum 22 = .ok (.dup2, 1) := by decide +kernel
theorem dX4_stratum_23 : decode cX4_stratum 23 = .ok (.iaload, 1) := by decide +kernel
theorem dX4_stratum_24 : decode cX4_stratum 24 = .ok (.iload_n 2, 1) := by decide +kernel
theorem dX4_stratum_25 : decode cX4_stratum 25 = .ok (.irem, 1) := by decide +kernel
theorem dX4_stratum_26 : decode cX4_stratum 26 = .ok (.iastore, 1) := by decide +kernel
theorem dX4_stratum_27 : decode cX4_stratum 27 = .ok (.iinc 3 1, 3) := by decide +kernel
theorem dX4_stratum_30 : decode cX4_stratum 30 = .ok (.goto (-22), 3) := by decide +kernel
theorem dX4_stratum_33 : decode cX4_stratum 33 = .ok (.aload_n 0, 1) := by decide +kernel
theorem dX4_stratum_34 : decode cX4_stratum 34 = .ok (.getfield 24, 3) := by decide +kernel
theorem dX4_stratum_37 : decode cX4_stratum 37 = .ok (.ireturn, 1) := by decide +kernel
theorem dX4_subset_0 : decode cX4_subset 0 = .ok (.iconst 0, 1) := by decide +kernel
theorem dX4_subset_1 : decode cX4_subset 1 = .ok (.istore_n 3, 1) := by decide +kernel
theorem dX4_subset_2 : decode cX4_subset 2 = .ok (.iload_n 3, 1) := by decide +kernel
theorem dX4_subset_3 : decode cX4_subset 3 = .ok (.iload_n 1, 1) := by decide +kernel
theorem dX4_subset_4 : decode cX4_subset 4 = .ok (.if_icmp .ge 61, 3) := by decide +kernel
theorem dX4_subset_7 : decode cX4_subset 7 = .ok (.aload_n 0, 1) := by decide +kernel
theorem dX4_subset_8 : decode cX4_subset 8 = .ok (.getfield 28, 3) := by decide +kernel
theorem dX4_subset_11 : decode cX4_subset 11 = .ok (.getfield 34, 3) := by decide +kernel
theorem dX4_subset_14 : decode cX4_subset 14 = .ok (.ifCond .ne 51, 3) := by decide +kernel
theorem dX4_subset_17 : decode cX4_subset 17 = .ok (.aload_n 0, 1) := by decide +kernel
theorem dX4_subset_18 : decode cX4_subset 18 = .ok (.getfield 28, 3) := by decide +kernel
theorem dX4_subset_21 : decode cX4_subset 21 = .ok (.iload_n 2, 1) := by decide +kernel
theorem dX4_subset_22 : decode cX4_subset 22 = .ok (.aload_n 0, 1) := by decide +kernel
theorem dX4_subset_23 : decode cX4_subset 23 = .ok (.getfield 24, 3) := by decide +kernel
theorem dX4_subset_26 : decode cX4_subset 26 = .ok (.isub, 1) := by decide +kernel
theorem dX4_subset_27 : decode cX4_subset 27 = .ok (.i2l, 1) := by decide +kernel
theorem dX4_subset_28 : decode cX4_subset 28 = .ok (.iload_n 1, 1) := by decide +kernel
theorem dX4_subset_29 : decode cX4_subset 29 = .ok (.iload_n 3, 1) := by decide +kernel
theorem dX4_subset_30 : decode cX4_subset 30 = .ok (.isub, 1) := by decide +kernel
theorem dX4_subset_31 : decode cX4_subset 31 = .ok (.i2l, 1) := by decide +kernel
theorem dX4_subset_32 : decode cX4_subset 32 = .ok (.invokevirtual 48, 3) := by decide +kernel
theorem dX4_subset_35 : decode cX4_subset 35 = .ok (.iconst 1, 1) := by decide +kernel
theorem dX4_subset_36 : decode cX4_subset 36 = .ok (.if_icmp .ne 23, 3) := by decide +kernel
theorem dX4_subset_39 : decode cX4_subset 39 = .ok (.aload_n 0, 1) := by decide +kernel
theorem dX4_subset_40 : decode cX4_subset 40 = .ok (.getfield 21, 3) := by decide +kernel
theorem dX4_subset_43 : decode cX4_subset 43 = .ok (.aload_n 0, 1) := by decide +kernel
theorem dX4_subset_44 : decode cX4_subset 44 = .ok (.getfield 24, 3) := by decide +kernel
theorem dX4_subset_47 : decode cX4_subset 47 = .ok (.iload_n 3, 1) := by decide +kernel
theorem dX4_subset_48 : decode cX4_subset 48 = .ok (.iastore, 1) := by decide +kernel
theorem dX4_subset_49 : decode cX4_subset 49 = .ok (.aload_n 0, 1) := by decide +kernel
theorem dX4_subset_50 : decode cX4_subset 50 = .ok (.dup, 1) := by decide +kernel
theorem dX4_subset_51 : decode cX4_subset 51 = .ok (.getfield 24, 3) := by decide +kernel
theorem dX4_subset_54 : decode cX4_subset 54 = .ok (.iconst 1, 1) := by decide +kernel
theorem dX4_subset_55 : decode cX4_subset 55 = .ok (.iadd, 1) := by decide +kernel
theorem dX4_subset_56 : decode cX4_subset 56 = .ok (.putfield 24, 3) := by decide +kernel
theorem dX4_subset_59 : decode cX4_subset 59 = .ok (.iinc 3 1, 3) := by decide +kernel
theorem dX4_subset_62 : decode cX4_subset 62 = .ok (.goto (-60), 3) := by decide +kernel
theorem dX4_subset_65 : decode cX4_subset 65 = .ok (.aload_n 0, 1) := by decide +kernel
theorem dX4_subset_66 : decode cX4_subset 66 = .ok (.getfield 24, 3) := by decide +kernel
theorem dX4_subset_69 : decode cX4_subset 69 = .ok (.ireturn, 1) := by decide +kernel
theorem dX4_path_0 : decode cX4_path 0 = .ok (.aload_n 0, 1) := by decide +kernel
theorem dX4_path_1 : decode cX4_path 1 = .ok (.iload_n 1, 1) := by decide +kernel
theorem dX4_path_2 : decode cX4_path 2 = .ok (.invokevirtual 52, 3) := by decide +kernel
theorem dX4_path_5 : decode cX4_path 5 = .ok (.aload_n 0, 1) := by decide +kernel
theorem dX4_path_6 : decode cX4_path 6 = .ok (.iconst 2, 1) := by decide +kernel
theorem dX4_path_7 : decode cX4_path 7 = .ok (.iload_n 1, 1) := by decide +kernel
theorem dX4_path_8 : decode cX4_path 8 = .ok (.imul, 1) := by decide +kernel
theorem dX4_path_9 : decode cX4_path 9 = .ok (.putfield 24, 3) := by decide +kernel
theorem dX4_path_12 : decode cX4_path 12 = .ok (.aload_n 0, 1) := by decide +kernel
theorem dX4_path_13 : decode cX4_path 13 = .ok (.getfield 9, 3) := by decide +kernel
theorem dX4_path_16 : decode cX4_path 16 = .ok (.iconst 0, 1) := by decide +kernel
theorem dX4_path_17 : decode cX4_path 17 = .ok (.aload_n 0, 1) := by decide +kernel
theorem dX4_path_18 : decode cX4_path 18 = .ok (.getfield 21, 3) := by decide +kernel
theorem dX4_path_21 : decode cX4_path 21 = .ok (.iconst 0, 1) := by decide +kernel
theorem dX4_path_22 : decode cX4_path 22 = .ok (.aload_n 0, 1) := by decide +kernel
theorem dX4_path_23 : decode cX4_path 23 = .ok (.getfield 24, 3) := by decide +kernel
theorem dX4_path_26 : decode cX4_path 26 = .ok (.invokestatic 56, 3) := by decide +kernel
theorem dX4_path_29 : decode cX4_path 29 = .ok (.aload_n 0, 1) := by decide +kernel
theorem dX4_path_30 : decode cX4_path 30 = .ok (.getfield 24, 3) := by decide +kernel
theorem dX4_path_33 : decode cX4_path 33 = .ok (.ireturn, 1) := by decide +kernel
theorem dX4_tree_0 : decode cX4_tree 0 = .ok (.aload_n 0, 1) := by decide +kernel
theorem dX4_tree_1 : decode cX4_tree 1 = .ok (.iload_n 1, 1) := by decide +kernel
theorem dX4_tree_2 : decode cX4_tree 2 = .ok (.invokevirtual 52, 3) := by decide +kernel
theorem dX4_tree_5 : decode cX4_tree 5 = .ok (.iconst 0, 1) := by decide +kernel
theorem dX4_tree_6 : decode cX4_tree 6 = .ok (.istore_n 2, 1) := by decide +kernel
theorem dX4_tree_7 : decode cX4_tree 7 = .ok (.iconst 0, 1) := by decide +kernel
theorem dX4_tree_8 : decode cX4_tree 8 = .ok (.istore_n 3, 1) := by decide +kernel
theorem dX4_tree_9 : decode cX4_tree 9 = .ok (.iconst 0, 1) := by decide +kernel
theorem dX4_tree_10 : decode cX4_tree 10 = .ok (.istore 4, 2) := by decide +kernel
theorem dX4_tree_12 : decode cX4_tree 12 = .ok (.iload 4, 2) := by decide +kernel
theorem dX4_tree_14 : decode cX4_tree 14 = .ok (.iconst 2, 1) := by decide +kernel
theorem dX4_tree_15 : decode cX4_tree 15 = .ok (.iload_n 1, 1) := by decide +kernel
theorem dX4_tree_16 : decode cX4_tree 16 = .ok (.imul, 1) := by decide +kernel
theorem dX4_tree_17 : decode cX4_tree 17 = .ok (.if_icmp .ge 95, 3) := by decide +kernel
theorem dX4_tree_20 : decode cX4_tree 20 = .ok (.aload_n 0, 1) := by decide +kernel
theorem dX4_tree_21 : decode cX4_tree 21 = .ok (.getfield 28, 3) := by decide +kernel
theorem dX4_tree_24 : decode cX4_tree 24 = .ok (.getfield 34, 3) := by decide +kernel
theorem dX4_tree_27 : decode cX4_tree 27 = .ok (.ifCond .ne 85, 3) := by decide +kernel
theorem dX4_tree_30 : decode cX4_tree 30 = .ok (.aload_n 0, 1) := by decide +kernel
theorem dX4_tree_31 : decode cX4_tree 31 = .ok (.getfield 9, 3) := by decide +kernel
theorem dX4_tree_34 : decode cX4_tree 34 = .ok (.iload 4, 2) := by decide +kernel
theorem dX4_tree_36 : decode cX4_tree 36 = .ok (.iaload, 1) := by decide +kernel
theorem dX4_tree_37 : decode cX4_tree 37 = .ok (.iconst 1, 1) := by decide +kernel
theorem dX4_tree_38 : decode cX4_tree 38 = .ok (.if_icmp .ne 32, 3) := by decide +kernel
theorem dX4_tree_41 : decode cX4_tree 41 = .ok (.iload_n 2, 1) := by decide +kernel
theorem dX4_tree_42 : decode cX4_tree 42 = .ok (.iload_n 1, 1) := by decide +kernel
theorem dX4_tree_43 : decode cX4_tree 43 = .ok (.if_icmp .ge 27, 3) := by decide +kernel
theorem dX4_tree_46 : decode cX4_tree 46 = .ok (.aload_n 0, 1) := by decide +kernel
theorem dX4_tree_47 : decode cX4_tree 47 = .ok (.getfield 15, 3) := by decide +kernel
theorem dX4_tree_50 : decode cX4_tree 50 = .ok (.iload_n 2, 1) := by decide +kernel
theorem dX4_tree_51 : decode cX4_tree 51 = .ok (.iload 4, 2) := by decide +kernel
theorem dX4_tree_53 : decode cX4_tree 53 = .ok (.iastore, 1) := by decide +kernel
theorem dX4_tree_54 : decode cX4_tree 54 = .ok (.aload_n 0, 1) := by decide +kernel
theorem dX4_tree_55 : decode cX4_tree 55 = .ok (.getfield 18, 3) := by decide +kernel
theorem dX4_tree_58 : decode cX4_tree 58 = .ok (.iload_n 3, 1) := by decide +kernel
theorem dX4_tree_59 : decode cX4_tree 59 = .ok (.iload_n 2, 1) := by decide +kernel
theorem dX4_tree_60 : decode cX4_tree 60 = .ok (.iastore, 1) := by decide +kernel
theorem dX4_tree_61 : decode cX4_tree 61 = .ok (.iinc 3 1, 3) := by decide +kernel
theorem dX4_tree_64 : decode cX4_tree 64 = .ok (.iinc 2 1, 3) := by decide +kernel
theorem dX4_tree_67 : decode cX4_tree 67 = .ok (.goto 39, 3) := by decide +kernel
theorem dX4_tree_70 : decode cX4_tree 70 = .ok (.iload_n 3, 1) := by decide +kernel
theorem dX4_tree_71 : decode cX4_tree 71 = .ok (.ifCond .le 35, 3) := by decide +kernel
theorem dX4_tree_74 : decode cX4_tree 74 = .ok (.iinc 3 (-1), 3) := by decide +kernel
theorem dX4_tree_77 : decode cX4_tree 77 = .ok (.aload_n 0, 1) := by decide +kernel
theorem dX4_tree_78 : decode cX4_tree 78 = .ok (.getfield 18, 3) := by decide +kernel
theorem dX4_tree_81 : decode cX4_tree 81 = .ok (.iload_n 3, 1) := by decide +kernel
theorem dX4_tree_82 : decode cX4_tree 82 = .ok (.iaload, 1) := by decide +kernel
theorem dX4_tree_83 : decode cX4_tree 83 = .ok (.istore 5, 2) := by decide +kernel
theorem dX4_tree_85 : decode cX4_tree 85 = .ok (.aload_n 0, 1) := by decide +kernel
theorem dX4_tree_86 : decode cX4_tree 86 = .ok (.getfield 21, 3) := by decide +kernel
theorem dX4_tree_89 : decode cX4_tree 89 = .ok (.iload 5, 2) := by decide +kernel
theorem dX4_tree_91 : decode cX4_tree 91 = .ok (.iload 4, 2) := by decide +kernel
theorem dX4_tree_93 : decode cX4_tree 93 = .ok (.aload_n 0, 1) := by decide +kernel
theorem dX4_tree_94 : decode cX4_tree 94 = .ok (.getfield 15, 3) := by decide +kernel
theorem dX4_tree_97 : decode cX4_tree 97 = .ok (.iload 5, 2) := by decide +kernel
theorem dX4_tree_99 : decode cX4_tree 99 = .ok (.iaload, 1) := by decide +kernel
theorem dX4_tree_100 : decode cX4_tree 100 = .ok (.isub, 1) := by decide +kernel
theorem dX4_tree_101 : decode cX4_tree 101 = .ok (.iconst 1, 1) := by decide +kernel
theorem dX4_tree_102 : decode cX4_tree 102 = .ok (.isub, 1) := by decide +kernel
theorem dX4_tree_103 : decode cX4_tree 103 = .ok (.iconst 2, 1) := by decide +kernel
theorem dX4_tree_104 : decode cX4_tree 104 = .ok (.idiv, 1) := by decide +kernel
theorem dX4_tree_105 : decode cX4_tree 105 = .ok (.iastore, 1) := by decide +kernel
theorem dX4_tree_106 : decode cX4_tree 106 = .ok (.iinc 4 1, 3) := by decide +kernel
theorem dX4_tree_109 : decode cX4_tree 109 = .ok (.goto (-97), 3) := by decide +kernel
theorem dX4_tree_112 : decode cX4_tree 112 = .ok (.aload_n 0, 1) := by decide +kernel
theorem dX4_tree_113 : decode cX4_tree 113 = .ok (.iload_n 1, 1) := by decide +kernel
theorem dX4_tree_114 : decode cX4_tree 114 = .ok (.putfield 24, 3) := by decide +kernel
theorem dX4_tree_117 : decode cX4_tree 117 = .ok (.aload_n 0, 1) := by decide +kernel
theorem dX4_tree_118 : decode cX4_tree 118 = .ok (.getfield 24, 3) := by decide +kernel
theorem dX4_tree_121 : decode cX4_tree 121 = .ok (.ireturn, 1) := by decide +kernel
theorem dX4_walk_0 : decode cX4_walk 0 = .ok (.iconst 0, 1) := by decide +kernel
theorem dX4_walk_1 : decode cX4_walk 1 = .ok (.istore_n 2, 1) := by decide +kernel
theorem dX4_walk_2 : decode cX4_walk 2 = .ok (.iconst 0, 1) := by decide +kernel
theorem dX4_walk_3 : decode cX4_walk 3 = .ok (.istore_n 3, 1) := by decide +kernel
theorem dX4_walk_4 : decode cX4_walk 4 = .ok (.iload_n 3, 1) := by decide +kernel
theorem dX4_walk_5 : decode cX4_walk 5 = .ok (.iconst 2, 1) := by decide +kernel
theorem dX4_walk_6 : decode cX4_walk 6 = .ok (.iload_n 1, 1) := by decide +kernel
theorem dX4_walk_7 : decode cX4_walk 7 = .ok (.imul, 1) := by decide +kernel
theorem dX4_walk_8 : decode cX4_walk 8 = .ok (.if_icmp .ge 75, 3) := by decide +kernel
theorem dX4_walk_11 : decode cX4_walk 11 = .ok (.aload_n 0, 1) := by decide +kernel
theorem dX4_walk_12 : decode cX4_walk 12 = .ok (.getfield 28, 3) := by decide +kernel
theorem dX4_walk_15 : decode cX4_walk 15 = .ok (.getfield 34, 3) := by decide +kernel
theorem dX4_walk_18 : decode cX4_walk 18 = .ok (.ifCond .ne 65, 3) := by decide +kernel
theorem dX4_walk_21 : decode cX4_walk 21 = .ok (.iconst 2, 1) := by decide +kernel
theorem dX4_walk_22 : decode cX4_walk 22 = .ok (.iload_n 1, 1) := by decide +kernel
theorem dX4_walk_23 : decode cX4_walk 23 = .ok (.imul, 1) := by decide +kernel
theorem dX4_walk_24 : decode cX4_walk 24 = .ok (.iload_n 3, 1) := by decide +kernel
theorem dX4_walk_25 : decode cX4_walk 25 = .ok (.isub, 1) := by decide +kernel
theorem dX4_walk_26 : decode cX4_walk 26 = .ok (.istore 4, 2) := by decide +kernel
theorem dX4_walk_28 : decode cX4_walk 28 = .ok (.aload_n 0, 1) := by decide +kernel
theorem dX4_walk_29 : decode cX4_walk 29 = .ok (.getfield 9, 3) := by decide +kernel
theorem dX4_walk_32 : decode cX4_walk 32 = .ok (.iload_n 3, 1) := by decide +kernel
theorem dX4_walk_33 : decode cX4_walk 33 = .ok (.aload_n 0, 1) := by decide +kernel
theorem dX4_walk_34 : decode cX4_walk 34 = .ok (.getfield 28, 3) := by decide +kernel
theorem dX4_walk_37 : decode cX4_walk 37 = .ok (.iload_n 2, 1) := by decide +kernel
theorem dX4_walk_38 : decode cX4_walk 38 = .ok (.iconst 2, 1) := by decide +kernel
theorem dX4_walk_39 : decode cX4_walk 39 = .ok (.iadd, 1) := by decide +kernel
theorem dX4_walk_40 : decode cX4_walk 40 = .ok (.iload 4, 2) := by decide +kernel
theorem dX4_walk_42 : decode cX4_walk 42 = .ok (.iload_n 2, 1) := by decide +kernel
theorem dX4_walk_43 : decode cX4_walk 43 = .ok (.isub, 1) := by decide +kernel
theorem dX4_walk_44 : decode cX4_walk 44 = .ok (.imul, 1) := by decide +kernel
theorem dX4_walk_45 : decode cX4_walk 45 = .ok (.i2l, 1) := by decide +kernel
theorem dX4_walk_46 : decode cX4_walk 46 = .ok (.iconst 2, 1) := by decide +kernel
theorem dX4_walk_47 : decode cX4_walk 47 = .ok (.iload_n 2, 1) := by decide +kernel
theorem dX4_walk_48 : decode cX4_walk 48 = .ok (.iconst 1, 1) := by decide +kernel
theorem dX4_walk_49 : decode cX4_walk 49 = .ok (.iadd, 1) := by decide +kernel
theorem dX4_walk_50 : decode cX4_walk 50 = .ok (.imul, 1) := by decide +kernel
theorem dX4_walk_51 : decode cX4_walk 51 = .ok (.iload 4, 2) := by decide +kernel
theorem dX4_walk_53 : decode cX4_walk 53 = .ok (.imul, 1) := by decide +kernel
theorem dX4_walk_54 : decode cX4_walk 54 = .ok (.i2l, 1) := by decide +kernel
theorem dX4_walk_55 : decode cX4_walk 55 = .ok (.invokevirtual 48, 3) := by decide +kernel
theorem dX4_walk_58 : decode cX4_walk 58 = .ok (.iastore, 1) := by decide +kernel
theorem dX4_walk_59 : decode cX4_walk 59 = .ok (.iload_n 2, 1) := by decide +kernel
theorem dX4_walk_60 : decode cX4_walk 60 = .ok (.aload_n 0, 1) := by decide +kernel
theorem dX4_walk_61 : decode cX4_walk 61 = .ok (.getfield 9, 3) := by decide +kernel
theorem dX4_walk_64 : decode cX4_walk 64 = .ok (.iload_n 3, 1) := by decide +kernel
theorem dX4_walk_65 : decode cX4_walk 65 = .ok (.iaload, 1) := by decide +kernel
theorem dX4_walk_66 : decode cX4_walk 66 = .ok (.iconst 1, 1) := by decide +kernel
theorem dX4_walk_67 : decode cX4_walk 67 = .ok (.if_icmp .ne 7, 3) := by decide +kernel
theorem dX4_walk_70 : decode cX4_walk 70 = .ok (.iconst 1, 1) := by decide +kernel
theorem dX4_walk_71 : decode cX4_walk 71 = .ok (.goto 4, 3) := by decide +kernel
theorem dX4_walk_74 : decode cX4_walk 74 = .ok (.iconst (-1), 1) := by decide +kernel
theorem dX4_walk_75 : decode cX4_walk 75 = .ok (.iadd, 1) := by decide +kernel
theorem dX4_walk_76 : decode cX4_walk 76 = .ok (.istore_n 2, 1) := by decide +kernel
theorem dX4_walk_77 : decode cX4_walk 77 = .ok (.iinc 3 1, 3) := by decide +kernel
theorem dX4_walk_80 : decode cX4_walk 80 = .ok (.goto (-76), 3) := by decide +kernel
theorem dX4_walk_83 : decode cX4_walk 83 = .ok (.return_, 1) := by decide +kernel
theorem dX5_init_0 : decode cX5_init 0 = .ok (.aload_n 0, 1) := by decide +kernel
theorem dX5_init_1 : decode cX5_init 1 = .ok (.invokespecial 3, 3) := by decide +kernel
theorem dX5_init_4 : decode cX5_init 4 = .ok (.aload_n 0, 1) := by decide +kernel
theorem dX5_init_5 : decode cX5_init 5 = .ok (.aload_n 1, 1) := by decide +kernel
theorem dX5_init_6 : decode cX5_init 6 = .ok (.putfield 9, 3) := by decide +kernel
theorem dX5_init_9 : decode cX5_init 9 = .ok (.aload_n 0, 1) := by decide +kernel
theorem dX5_init_10 : decode cX5_init 10 = .ok (.aload_n 2, 1) := by decide +kernel
theorem dX5_init_11 : decode cX5_init 11 = .ok (.putfield 15, 3) := by decide +kernel
theorem dX5_init_14 : decode cX5_init 14 = .ok (.aload_n 0, 1) := by decide +kernel
theorem dX5_init_15 : decode cX5_init 15 = .ok (.aload_n 3, 1) := by decide +kernel
theorem dX5_init_16 : decode cX5_init 16 = .ok (.putfield 19, 3) := by decide +kernel
theorem dX5_init_19 : decode cX5_init 19 = .ok (.aload_n 0, 1) := by decide +kernel
theorem dX5_init_20 : decode cX5_init 20 = .ok (.aload 4, 2) := by decide +kernel
theorem dX5_init_22 : decode cX5_init 22 = .ok (.putfield 23, 3) := by decide +kernel
theorem dX5_init_25 : decode cX5_init 25 = .ok (.return_, 1) := by decide +kernel
theorem dX5_isReadyFor_0 : decode cX5_isReadyFor 0 = .ok (.aload_n 1, 1) := by decide +kernel
theorem dX5_isReadyFor_1 : decode cX5_isReadyFor 1 = .ok (.getfield 27, 3) := by decide +kernel
theorem dX5_isReadyFor_4 : decode cX5_isReadyFor 4 = .ok (.ifCond .ne 19, 3) := by decide +kernel
theorem dX5_isReadyFor_7 : decode cX5_isReadyFor 7 = .ok (.aload_n 0, 1) := by decide +kernel
theorem dX5_isReadyFor_8 : decode cX5_isReadyFor 8 = .ok (.getfield 9, 3) := by decide +kernel
theorem dX5_isReadyFor_11 : decode cX5_isReadyFor 11 = .ok (.aload_n 1, 1) := by decide +kernel
theorem dX5_isReadyFor_12 : decode cX5_isReadyFor 12 = .ok (.getfield 33, 3) := by decide +kernel
theorem dX5_isReadyFor_15 : decode cX5_isReadyFor 15 = .ok (.aaload, 1) := by decide +kernel
theorem dX5_isReadyFor_16 : decode cX5_isReadyFor 16 = .ok (.getfield 36, 3) := by decide +kernel
theorem dX5_isReadyFor_19 : decode cX5_isReadyFor 19 = .ok (.iconst (-1), 1) := by decide +kernel
theorem dX5_isReadyFor_20 : decode cX5_isReadyFor 20 = .ok (.if_icmp .eq 7, 3) := by decide +kernel
theorem dX5_isReadyFor_23 : decode cX5_isReadyFor 23 = .ok (.iconst 1, 1) := by decide +kernel
theorem dX5_isReadyFor_24 : decode cX5_isReadyFor 24 = .ok (.goto 4, 3) := by decide +kernel
theorem dX5_isReadyFor_27 : decode cX5_isReadyFor 27 = .ok (.iconst 0, 1) := by decide +kernel
theorem dX5_isReadyFor_28 : decode cX5_isReadyFor 28 = .ok (.ireturn, 1) := by decide +kernel
theorem dX5_answer_0 : decode cX5_answer 0 = .ok (.aload_n 0, 1) := by decide +kernel
theorem dX5_answer_1 : decode cX5_answer 1 = .ok (.getfield 23, 3) := by decide +kernel
theorem dX5_answer_4 : decode cX5_answer 4 = .ok (.iconst 0, 1) := by decide +kernel
theorem dX5_answer_5 : decode cX5_answer 5 = .ok (.putfield 41, 3) := by decide +kernel
theorem dX5_answer_8 : decode cX5_answer 8 = .ok (.aload_n 1, 1) := by decide +kernel
theorem dX5_answer_9 : decode cX5_answer 9 = .ok (.getfield 27, 3) := by decide +kernel
theorem dX5_answer_12 : decode cX5_answer 12 = .ok (.tableswitch 289 0 12 #[68, 86, 98, 117, 138, 159, 175, 196, 214, 233, 246, 263, 276], 68) := by decide +kernel
theorem dX5_answer_80 : decode cX5_answer 80 = .ok (.aload_n 0, 1) := by decide +kernel
theorem dX5_answer_81 : decode cX5_answer 81 = .ok (.getfield 9, 3) := by decide +kernel
theorem dX5_answer_84 : decode cX5_answer 84 = .ok (.aload_n 1, 1) := by decide +kernel
theorem dX5_answer_85 : decode cX5_answer 85 = .ok (.getfield 33, 3) := by decide +kernel
theorem dX5_answer_88 : decode cX5_answer 88 = .ok (.aaload, 1) := by decide +kernel
theorem dX5_answer_89 : decode cX5_answer 89 = .ok (.aload_n 0, 1) := by decide +kernel
theorem dX5_answer_90 : decode cX5_answer 90 = .ok (.getfield 15, 3) := by decide +kernel
theorem dX5_answer_93 : decode cX5_answer 93 = .ok (.invokevirtual 46, 3) := by decide +kernel
theorem dX5_answer_96 : decode cX5_answer 96 = .ok (.i2l, 1) := by decide +kernel
theorem dX5_answer_97 : decode cX5_answer 97 = .ok (.lreturn, 1) := by decide +kernel
theorem dX5_answer_98 : decode cX5_answer 98 = .ok (.aload_n 0, 1) := by decide +kernel
theorem dX5_answer_99 : decode cX5_answer 99 = .ok (.getfield 15, 3) := by decide +kernel
theorem dX5_answer_102 : decode cX5_answer 102 = .ok (.aload_n 1, 1) := by decide +kernel
theorem dX5_answer_103 : decode cX5_answer 103 = .ok (.invokevirtual 50, 3) := by decide +kernel
theorem dX5_answer_106 : decode cX5_answer 106 = .ok (.invokevirtual 54, 3) := by decide +kernel
theorem dX5_answer_109 : decode cX5_answer 109 = .ok (.lreturn, 1) := by decide +kernel
theorem dX5_answer_110 : decode cX5_answer 110 = .ok (.aload_n 0, 1) := by decide +kernel
theorem dX5_answer_111 : decode cX5_answer 111 = .ok (.getfield 15, 3) := by decide +kernel
theorem dX5_answer_114 : decode cX5_answer 114 = .ok (.aload_n 1, 1) := by decide +kernel
theorem dX5_answer_115 : decode cX5_answer 115 = .ok (.getfield 33, 3) := by decide +kernel
theorem dX5_answer_118 : decode cX5_answer 118 = .ok (.i2l, 1) := by decide +kernel
theorem dX5_answer_119 : decode cX5_answer 119 = .ok (.aload_n 1, 1) := by decide +kernel
theorem dX5_answer_120 : decode cX5_answer 120 = .ok (.getfield 60, 3) := by decide +kernel
theorem dX5_answer_123 : decode cX5_answer 123 = .ok (.i2l, 1) := by decide +kernel
theorem dX5_answer_124 : decode cX5_answer 124 = .ok (.invokevirtual 63, 3) := by decide +kernel
theorem dX5_answer_127 : decode cX5_answer 127 = .ok (.i2l, 1) := by decide +kernel
theorem dX5_answer_128 : decode cX5_answer 128 = .ok (.lreturn, 1) := by decide +kernel
theorem dX5_answer_129 : decode cX5_answer 129 = .ok (.aload_n 0, 1) := by decide +kernel
theorem dX5_answer_130 : decode cX5_answer 130 = .ok (.getfield 19, 3) := by decide +kernel
theorem dX5_answer_133 : decode cX5_answer 133 = .ok (.aload_n 1, 1) := by decide +kernel
theorem dX5_answer_134 : decode cX5_answer 134 = .ok (.getfield 33, 3) := by decide +kernel
theorem dX5_answer_137 : decode cX5_answer 137 = .ok (.aload_n 1, 1) := by decide +kernel
theorem dX5_answer_138 : decode cX5_answer 138 = .ok (.getfield 60, 3) := by decide +kernel
theorem dX5_answer_141 : decode cX5_answer 141 = .ok (.aload_n 1, 1) := by decide +kernel
theorem dX5_answer_142 : decode cX5_answer 142 = .ok (.getfield 67, 3) := by decide +kernel
theorem dX5_answer_145 : decode cX5_answer 145 = .ok (.invokevirtual 70, 3) := by decide +kernel
theorem dX5_answer_148 : decode cX5_answer 148 = .ok (.i2l, 1) := by decide +kernel
theorem dX5_answer_149 : decode cX5_answer 149 = .ok (.lreturn, 1) := by decide +kernel
theorem dX5_answer_150 : decode cX5_answer 150 = .ok (.aload_n 0, 1) := by decide +kernel
theorem dX5_answer_151 : decode cX5_answer 151 = .ok (.getfield 19, 3) := by decide +kernel
theorem dX5_answer_154 : decode cX5_answer 154 = .ok (.aload_n 1, 1) := by decide +kernel
theorem dX5_answer_155 : decode cX5_answer 155 = .ok (.getfield 33, 3) := by decide +kernel
theorem dX5_answer_158 : decode cX5_answer 158 = .ok (.aload_n 1, 1) := by decide +kernel
theorem dX5_answer_159 : decode cX5_answer 159 = .ok (.getfield 60, 3) := by decide +kernel
theorem dX5_answer_162 : decode cX5_answer 162 = .ok (.aload_n 1, 1) := by decide +kernel
theorem dX5_answer_163 : decode cX5_answer 163 = .ok (.getfield 67, 3) := by decide +kernel
theorem dX5_answer_166 : decode cX5_answer 166 = .ok (.invokevirtual 76, 3) := by decide +kernel
theorem dX5_answer_169 : decode cX5_answer 169 = .ok (.i2l, 1) := by decide +kernel
theorem dX5_answer_170 : decode cX5_answer 170 = .ok (.lreturn, 1) := by decide +kernel
theorem dX5_answer_171 : decode cX5_answer 171 = .ok (.aload_n 0, 1) := by decide +kernel
theorem dX5_answer_172 : decode cX5_answer 172 = .ok (.getfield 19, 3) := by decide +kernel
theorem dX5_answer_175 : decode cX5_answer 175 = .ok (.aload_n 1, 1) := by decide +kernel
theorem dX5_answer_176 : decode cX5_answer 176 = .ok (.getfield 33, 3) := by decide +kernel
theorem dX5_answer_179 : decode cX5_answer 179 = .ok (.aload_n 1, 1) := by decide +kernel
theorem dX5_answer_180 : decode cX5_answer 180 = .ok (.getfield 60, 3) := by decide +kernel
theorem dX5_answer_183 : decode cX5_answer 183 = .ok (.invokevirtual 79, 3) := by decide +kernel
theorem dX5_answer_186 : decode cX5_answer 186 = .ok (.lreturn, 1) := by decide +kernel
theorem dX5_answer_187 : decode cX5_answer 187 = .ok (.aload_n 0, 1) := by decide +kernel
theorem dX5_answer_188 : decode cX5_answer 188 = .ok (.getfield 19, 3) := by decide +kernel
theorem dX5_answer_191 : decode cX5_answer 191 = .ok (.aload_n 1, 1) := by decide +kernel
theorem dX5_answer_192 : decode cX5_answer 192 = .ok (.getfield 33, 3) := by decide +kernel
theorem dX5_answer_195 : decode cX5_answer 195 = .ok (.aload_n 1, 1) := by decide +kernel
theorem dX5_answer_196 : decode cX5_answer 196 = .ok (.getfield 60, 3) := by decide +kernel
theorem dX5_answer_199 : decode cX5_answer 199 = .ok (.aload_n 1, 1) := by decide +kernel
theorem dX5_answer_200 : decode cX5_answer 200 = .ok (.getfield 67, 3) := by decide +kernel
theorem dX5_answer_203 : decode cX5_answer 203 = .ok (.invokevirtual 83, 3) := by decide +kernel
theorem dX5_answer_206 : decode cX5_answer 206 = .ok (.i2l, 1) := by decide +kernel
theorem dX5_answer_207 : decode cX5_answer 207 = .ok (.lreturn, 1) := by decide +kernel
theorem dX5_answer_208 : decode cX5_answer 208 = .ok (.aload_n 0, 1) := by decide +kernel
theorem dX5_answer_209 : decode cX5_answer 209 = .ok (.getfield 19, 3) := by decide +kernel
theorem dX5_answer_212 : decode cX5_answer 212 = .ok (.aload_n 1, 1) := by decide +kernel
theorem dX5_answer_213 : decode cX5_answer 213 = .ok (.getfield 33, 3) := by decide +kernel
theorem dX5_answer_216 : decode cX5_answer 216 = .ok (.i2l, 1) := by decide +kernel
theorem dX5_answer_217 : decode cX5_answer 217 = .ok (.aload_n 1, 1) := by decide +kernel
theorem dX5_answer_218 : decode cX5_answer 218 = .ok (.getfield 60, 3) := by decide +kernel
theorem dX5_answer_221 : decode cX5_answer 221 = .ok (.i2l, 1) := by decide +kernel
theorem dX5_answer_222 : decode cX5_answer 222 = .ok (.invokevirtual 86, 3) := by decide +kernel
theorem dX5_answer_225 : decode cX5_answer 225 = .ok (.lreturn, 1) := by decide +kernel
theorem dX5_answer_226 : decode cX5_answer 226 = .ok (.aload_n 0, 1) := by decide +kernel
theorem dX5_answer_227 : decode cX5_answer 227 = .ok (.getfield 15, 3) := by decide +kernel
theorem dX5_answer_230 : decode cX5_answer 230 = .ok (.aload_n 1, 1) := by decide +kernel
theorem dX5_answer_231 : decode cX5_answer 231 = .ok (.getfield 33, 3) := by decide +kernel
theorem dX5_answer_234 : decode cX5_answer 234 = .ok (.i2l, 1) := by decide +kernel
theorem dX5_answer_235 : decode cX5_answer 235 = .ok (.aload_n 1, 1) := by decide +kernel
theorem dX5_answer_236 : decode cX5_answer 236 = .ok (.getfield 60, 3) := by decide +kernel
theorem dX5_answer_239 : decode cX5_answer 239 = .ok (.i2l, 1) := by decide +kernel
theorem dX5_answer_240 : decode cX5_answer 240 = .ok (.invokevirtual 90, 3) := by decide +kernel
theorem dX5_answer_243 : decode cX5_answer 243 = .ok (.i2l, 1) := by decide +kernel
theorem dX5_answer_244 : decode cX5_answer 244 = .ok (.lreturn, 1) := by decide +kernel
theorem dX5_answer_245 : decode cX5_answer 245 = .ok (.aload_n 0, 1) := by decide +kernel
theorem dX5_answer_246 : decode cX5_answer 246 = .ok (.getfield 23, 3) := by decide +kernel
theorem dX5_answer_249 : decode cX5_answer 249 = .ok (.aload_n 1, 1) := by decide +kernel
theorem dX5_answer_250 : decode cX5_answer 250 = .ok (.getfield 33, 3) := by decide +kernel
theorem dX5_answer_253 : decode cX5_answer 253 = .ok (.invokevirtual 93, 3) := by decide +kernel
theorem dX5_answer_256 : decode cX5_answer 256 = .ok (.i2l, 1) := by decide +kernel
theorem dX5_answer_257 : decode cX5_answer 257 = .ok (.lreturn, 1) := by decide +kernel
theorem dX5_answer_258 : decode cX5_answer 258 = .ok (.aload_n 0, 1) := by decide +kernel
theorem dX5_answer_259 : decode cX5_answer 259 = .ok (.getfield 23, 3) := by decide +kernel
theorem dX5_answer_262 : decode cX5_answer 262 = .ok (.aload_n 1, 1) := by decide +kernel
theorem dX5_answer_263 : decode cX5_answer 263 = .ok (.getfield 33, 3) := by decide +kernel
theorem dX5_answer_266 : decode cX5_answer 266 = .ok (.aload_n 1, 1) := by decide +kernel
theorem dX5_answer_267 : decode cX5_answer 267 = .ok (.getfield 60, 3) := by decide +kernel
theorem dX5_answer_270 : decode cX5_answer 270 = .ok (.invokevirtual 97, 3) := by decide +kernel
theorem dX5_answer_273 : decode cX5_answer 273 = .ok (.i2l, 1) := by decide +kernel
theorem dX5_answer_274 : decode cX5_answer 274 = .ok (.lreturn, 1) := by decide +kernel
theorem dX5_answer_275 : decode cX5_answer 275 = .ok (.aload_n 0, 1) := by decide +kernel
theorem dX5_answer_276 : decode cX5_answer 276 = .ok (.getfield 23, 3) := by decide +kernel
theorem dX5_answer_279 : decode cX5_answer 279 = .ok (.aload_n 1, 1) := by decide +kernel
theorem dX5_answer_280 : decode cX5_answer 280 = .ok (.getfield 33, 3) := by decide +kernel
theorem dX5_answer_283 : decode cX5_answer 283 = .ok (.invokevirtual 101, 3) := by decide +kernel
theorem dX5_answer_286 : decode cX5_answer 286 = .ok (.i2l, 1) := by decide +kernel
theorem dX5_answer_287 : decode cX5_answer 287 = .ok (.lreturn, 1) := by decide +kernel
theorem dX5_answer_288 : decode cX5_answer 288 = .ok (.aload_n 0, 1) := by decide +kernel
theorem dX5_answer_289 : decode cX5_answer 289 = .ok (.getfield 23, 3) := by decide +kernel
theorem dX5_answer_292 : decode cX5_answer 292 = .ok (.aload_n 1, 1) := by decide +kernel
theorem dX5_answer_293 : decode cX5_answer 293 = .ok (.getfield 33, 3) := by decide +kernel
theorem dX5_answer_296 : decode cX5_answer 296 = .ok (.invokevirtual 104, 3) := by decide +kernel
theorem dX5_answer_299 : decode cX5_answer 299 = .ok (.i2l, 1) := by decide +kernel
theorem dX5_answer_300 : decode cX5_answer 300 = .ok (.lreturn, 1) := by decide +kernel
theorem dX5_answer_301 : decode cX5_answer 301 = .ok (.aload_n 0, 1) := by decide +kernel
theorem dX5_answer_302 : decode cX5_answer 302 = .ok (.getfield 23, 3) := by decide +kernel
theorem dX5_answer_305 : decode cX5_answer 305 = .ok (.aload_n 1, 1) := by decide +kernel
theorem dX5_answer_306 : decode cX5_answer 306 = .ok (.getfield 33, 3) := by decide +kernel
theorem dX5_answer_309 : decode cX5_answer 309 = .ok (.aload_n 1, 1) := by decide +kernel
theorem dX5_answer_310 : decode cX5_answer 310 = .ok (.getfield 60, 3) := by decide +kernel
theorem dX5_answer_313 : decode cX5_answer 313 = .ok (.invokevirtual 107, 3) := by decide +kernel
theorem dX5_answer_316 : decode cX5_answer 316 = .ok (.i2l, 1) := by decide +kernel
theorem dX5_answer_317 : decode cX5_answer 317 = .ok (.lreturn, 1) := by decide +kernel
theorem dX6_init_0 : decode cX6_init 0 = .ok (.aload_n 0, 1) := by decide +kernel
theorem dX6_init_1 : decode cX6_init 1 = .ok (.invokespecial 3, 3) := by decide +kernel
theorem dX6_init_4 : decode cX6_init 4 = .ok (.aload_n 0, 1) := by decide +kernel
theorem dX6_init_5 : decode cX6_init 5 = .ok (.bipush 64, 2) := by decide +kernel
theorem dX6_init_7 : decode cX6_init 7 = .ok (.newarray .int, 2) := by decide +kernel
theorem dX6_init_9 : decode cX6_init 9 = .ok (.putfield 9, 3) := by decide +kernel
theorem dX6_init_12 : decode cX6_init 12 = .ok (.aload_n 0, 1) := by decide +kernel
theorem dX6_init_13 : decode cX6_init 13 = .ok (.bipush 64, 2) := by decide +kernel
theorem dX6_init_15 : decode cX6_init 15 = .ok (.newarray .int, 2) := by decide +kernel
theorem dX6_init_17 : decode cX6_init 17 = .ok (.putfield 15, 3) := by decide +kernel
theorem dX6_init_20 : decode cX6_init 20 = .ok (.aload_n 0, 1) := by decide +kernel
theorem dX6_init_21 : decode cX6_init 21 = .ok (.bipush 64, 2) := by decide +kernel
theorem dX6_init_23 : decode cX6_init 23 = .ok (.newarray .int, 2) := by decide +kernel
theorem dX6_init_25 : decode cX6_init 25 = .ok (.putfield 18, 3) := by decide +kernel
theorem dX6_init_28 : decode cX6_init 28 = .ok (.aload_n 0, 1) := by decide +kernel
theorem dX6_init_29 : decode cX6_init 29 = .ok (.bipush 64, 2) := by decide +kernel
theorem dX6_init_31 : decode cX6_init 31 = .ok (.newarray .long, 2) := by decide +kernel
theorem dX6_init_33 : decode cX6_init 33 = .ok (.putfield 21, 3) := by decide +kernel
theorem dX6_init_36 : decode cX6_init 36 = .ok (.aload_n 0, 1) := by decide +kernel
theorem dX6_init_37 : decode cX6_init 37 = .ok (.iconst (-1), 1) := by decide +kernel
theorem dX6_init_38 : decode cX6_init 38 = .ok (.putfield 25, 3) := by decide +kernel
theorem dX6_init_41 : decode cX6_init 41 = .ok (.aload_n 0, 1) := by decide +kernel
theorem dX6_init_42 : decode cX6_init 42 = .ok (.iconst 0, 1) := by decide +kernel
theorem dX6_init_43 : decode cX6_init 43 = .ok (.putfield 29, 3) := by decide +kernel
theorem dX6_init_46 : decode cX6_init 46 = .ok (.aload_n 0, 1) := by decide +kernel
theorem dX6_init_47 : decode cX6_init 47 = .ok (.lconst 0, 1) := by decide +kernel
theorem dX6_init_48 : decode cX6_init 48 = .ok (.putfield 32, 3) := by decide +kernel
theorem dX6_init_51 : decode cX6_init 51 = .ok (.return_, 1) := by decide +kernel
theorem dX6_exchangeWeight_0 : decode cX6_exchangeWeight 0 = .ok (.aload_n 0, 1) := by decide +kernel
theorem dX6_exchangeWeight_1 : decode cX6_exchangeWeight 1 = .ok (.getfield 9, 3) := by decide +kernel
theorem dX6_exchangeWeight_4 : decode cX6_exchangeWeight 4 = .ok (.iload_n 1, 1) := by decide +kernel
theorem dX6_exchangeWeight_5 : decode cX6_exchangeWeight 5 = .ok (.iaload, 1) := by decide +kernel
theorem dX6_exchangeWeight_6 : decode cX6_exchangeWeight 6 = .ok (.istore_n 3, 1) := by decide +kernel
theorem dX6_exchangeWeight_7 : decode cX6_exchangeWeight 7 = .ok (.aload_n 0, 1) := by decide +kernel
theorem dX6_exchangeWeight_8 : decode cX6_exchangeWeight 8 = .ok (.getfield 9, 3) := by decide +kernel
theorem dX6_exchangeWeight_11 : decode cX6_exchangeWeight 11 = .ok (.iload_n 1, 1) := by decide +kernel
theorem dX6_exchangeWeight_12 : decode cX6_exchangeWeight 12 = .ok (.iload_n 2, 1) := by decide +kernel
theorem dX6_exchangeWeight_13 : decode cX6_exchangeWeight 13 = .ok (.iastore, 1) := by decide +kernel
theorem dX6_exchangeWeight_14 : decode cX6_exchangeWeight 14 = .ok (.aload_n 0, 1) := by decide +kernel
theorem dX6_exchangeWeight_15 : decode cX6_exchangeWeight 15 = .ok (.iconst (-1), 1) := by decide +kernel
theorem dX6_exchangeWeight_16 : decode cX6_exchangeWeight 16 = .ok (.putfield 25, 3) := by decide +kernel
theorem dX6_exchangeWeight_19 : decode cX6_exchangeWeight 19 = .ok (.iload_n 3, 1) := by decide +kernel
theorem dX6_exchangeWeight_20 : decode cX6_exchangeWeight 20 = .ok (.ireturn, 1) := by decide +kernel
theorem dX6_sumOfWeights_0 : decode cX6_sumOfWeights 0 = .ok (.lconst 0, 1) := by decide +kernel
theorem dX6_sumOfWeights_1 : decode cX6_sumOfWeights 1 = .ok (.lstore_n 1, 1) := by decide +kernel
theorem dX6_sumOfWeights_2 : decode cX6_sumOfWeights 2 = .ok (.iconst 0, 1) := by decide +kernel
theorem dX6_sumOfWeights_3 : decode cX6_sumOfWeights 3 = .ok (.istore_n 3, 1) := by decide +kernel
theorem dX6_sumOfWeights_4 : decode cX6_sumOfWeights 4 = .ok (.iload_n 3, 1) := by decide +kernel
theorem dX6_sumOfWeights_5 : decode cX6_sumOfWeights 5 = .ok (.bipush 64, 2) := by decide +kernel
theorem dX6_sumOfWeights_7 : decode cX6_sumOfWeights 7 = .ok (.if_icmp .ge 19, 3) := by decide +kernel
theorem dX6_sumOfWeights_10 : decode cX6_sumOfWeights 10 = .ok (.lload_n 1, 1) := by decide +kernel
theorem dX6_sumOfWeights_11 : decode cX6_sumOfWeights 11 = .ok (.aload_n 0, 1) := by decide +kernel
theorem dX6_sumOfWeights_12 : decode cX6_sumOfWeights 12 = .ok (.getfield 9, 3) := by decide +kernel
theorem dX6_sumOfWeights_15 : decode cX6_sumOfWeights 15 = .ok (.iload_n 3, 1) := by decide +kernel
theorem dX6_sumOfWeights_16 : decode cX6_sumOfWeights 16 = .ok (.iaload, 1) := by decide +kernel
theorem dX6_sumOfWeights_17 : decode cX6_sumOfWeights 17 = .ok (.i2l, 1) := by decide +kernel
theorem dX6_sumOfWeights_18 : decode cX6_sumOfWeights 18 = .ok (.ladd, 1) := by decide +kernel
theorem dX6_sumOfWeights_19 : decode cX6_sumOfWeights 19 = .ok (.lstore_n 1, 1) := by decide +kernel
theorem dX6_sumOfWeights_20 : decode cX6_sumOfWeights 20 = .ok (.iinc 3 1, 3) := by decide +kernel
theorem dX6_sumOfWeights_23 : decode cX6_sumOfWeights 23 = .ok (.goto (-19), 3) := by decide +kernel
theorem dX6_sumOfWeights_26 : decode cX6_sumOfWeights 26 = .ok (.lload_n 1, 1) := by decide +kernel
theorem dX6_sumOfWeights_27 : decode cX6_sumOfWeights 27 = .ok (.lreturn, 1) := by decide +kernel
theorem dX6_prepare_0 : decode cX6_prepare 0 = .ok (.aload_n 0, 1) := by decide +kernel
theorem dX6_prepare_1 : decode cX6_prepare 1 = .ok (.iload_n 1, 1) := by decide +kernel
theorem dX6_prepare_2 : decode cX6_prepare 2 = .ok (.putfield 25, 3) := by decide +kernel
theorem dX6_prepare_5 : decode cX6_prepare 5 = .ok (.aload_n 0, 1) := by decide +kernel
theorem dX6_prepare_6 : decode cX6_prepare 6 = .ok (.aload_n 0, 1) := by decide +kernel
theorem dX6_prepare_7 : decode cX6_prepare 7 = .ok (.invokevirtual 36, 3) := by decide +kernel
theorem dX6_prepare_10 : decode cX6_prepare 10 = .ok (.putfield 32, 3) := by decide +kernel
theorem dX6_prepare_13 : decode cX6_prepare 13 = .ok (.aload_n 0, 1) := by decide +kernel
theorem dX6_prepare_14 : decode cX6_prepare 14 = .ok (.bipush 64, 2) := by decide +kernel
theorem dX6_prepare_16 : decode cX6_prepare 16 = .ok (.putfield 29, 3) := by decide +kernel
theorem dX6_prepare_19 : decode cX6_prepare 19 = .ok (.aload_n 0, 1) := by decide +kernel
theorem dX6_prepare_20 : decode cX6_prepare 20 = .ok (.getfield 29, 3) := by decide +kernel
theorem dX6_prepare_23 : decode cX6_prepare 23 = .ok (.ifCond .le 30, 3) := by decide +kernel
theorem dX6_prepare_26 : decode cX6_prepare 26 = .ok (.aload_n 0, 1) := by decide +kernel
theorem dX6_prepare_27 : decode cX6_prepare 27 = .ok (.getfield 9, 3) := by decide +kernel
theorem dX6_prepare_30 : decode cX6_prepare 30 = .ok (.aload_n 0, 1) := by decide +kernel
theorem dX6_prepare_31 : decode cX6_prepare 31 = .ok (.getfield 29, 3) := by decide +kernel
theorem dX6_prepare_34 : decode cX6_prepare 34 = .ok (.iconst 1, 1) := by decide +kernel
theorem dX6_prepare_35 : decode cX6_prepare 35 = .ok (.isub, 1) := by decide +kernel
theorem dX6_prepare_36 : decode cX6_prepare 36 = .ok (.iaload, 1) := by decide +kernel
theorem dX6_prepare_37 : decode cX6_prepare 37 = .ok (.ifCond .ne 16, 3) := by decide +kernel
theorem dX6_prepare_40 : decode cX6_prepare 40 = .ok (.aload_n 0, 1) := by decide +kernel
theorem dX6_prepare_41 : decode cX6_prepare 41 = .ok (.dup, 1) := by decide +kernel
theorem dX6_prepare_42 : decode cX6_prepare 42 = .ok (.getfield 29, 3) := by decide +kernel
theorem dX6_prepare_45 : decode cX6_prepare 45 = .ok (.iconst 1, 1) := by decide +kernel
theorem dX6_prepare_46 : decode cX6_prepare 46 = .ok (.isub, 1) := by decide +kernel
theorem dX6_prepare_47 : decode cX6_prepare 47 = .ok (.putfield 29, 3) := by decide +kernel
theorem dX6_prepare_50 : decode cX6_prepare 50 = .ok (.goto (-31), 3) := by decide +kernel
theorem dX6_prepare_53 : decode cX6_prepare 53 = .ok (.aload_n 0, 1) := by decide +kernel
theorem dX6_prepare_54 : decode cX6_prepare 54 = .ok (.getfield 25, 3) := by decide +kernel
theorem dX6_prepare_57 : decode cX6_prepare 57 = .ok (.iconst 1, 1) := by decide +kernel
theorem dX6_prepare_58 : decode cX6_prepare 58 = .ok (.if_icmp .ne 7, 3) := by decide +kernel
theorem dX6_prepare_61 : decode cX6_prepare 61 = .ok (.aload_n 0, 1) := by decide +kernel
theorem dX6_prepare_62 : decode cX6_prepare 62 = .ok (.invokevirtual 40, 3) := by decide +kernel
theorem dX6_prepare_65 : decode cX6_prepare 65 = .ok (.return_, 1) := by decide +kernel
theorem dX6_pair_0 : decode cX6_pair 0 = .ok (.aload_n 0, 1) := by decide +kernel
theorem dX6_pair_1 : decode cX6_pair 1 = .ok (.invokevirtual 43, 3) := by decide +kernel
theorem dX6_pair_4 : decode cX6_pair 4 = .ok (.istore_n 1, 1) := by decide +kernel
theorem dX6_pair_5 : decode cX6_pair 5 = .ok (.aload_n 0, 1) := by decide +kernel
theorem dX6_pair_6 : decode cX6_pair 6 = .ok (.iconst 0, 1) := by decide +kernel
theorem dX6_pair_7 : decode cX6_pair 7 = .ok (.invokevirtual 47, 3) := by decide +kernel
theorem dX6_pair_10 : decode cX6_pair 10 = .ok (.istore_n 2, 1) := by decide +kernel
theorem dX6_pair_11 : decode cX6_pair 11 = .ok (.iconst 0, 1) := by decide +kernel
theorem dX6_pair_12 : decode cX6_pair 12 = .ok (.istore_n 3, 1) := by decide +kernel
theorem dX6_pair_13 : decode cX6_pair 13 = .ok (.iload_n 3, 1) := by decide +kernel
theorem dX6_pair_14 : decode cX6_pair 14 = .ok (.iload_n 1, 1) := by decide +kernel
theorem dX6_pair_15 : decode cX6_pair 15 = .ok (.if_icmp .ge 98, 3) := by decide +kernel
theorem dX6_pair_18 : decode cX6_pair 18 = .ok (.iload_n 3, 1) := by decide +kernel
theorem dX6_pair_19 : decode cX6_pair 19 = .ok (.bipush 64, 2) := by decide +kernel
theorem dX6_pair_21 : decode cX6_pair 21 = .ok (.if_icmp .ge 92, 3) := by decide +kernel
theorem dX6_pair_24 : decode cX6_pair 24 = .ok (.iload_n 2, 1) := by decide +kernel
theorem dX6_pair_25 : decode cX6_pair 25 = .ok (.aload_n 0, 1) := by decide +kernel
theorem dX6_pair_26 : decode cX6_pair 26 = .ok (.getfield 29, 3) := by decide +kernel
theorem dX6_pair_29 : decode cX6_pair 29 = .ok (.if_icmp .ge 84, 3) := by decide +kernel
theorem dX6_pair_32 : decode cX6_pair 32 = .ok (.aload_n 0, 1) := by decide +kernel
theorem dX6_pair_33 : decode cX6_pair 33 = .ok (.getfield 15, 3) := by decide +kernel
theorem dX6_pair_36 : decode cX6_pair 36 = .ok (.iload_n 3, 1) := by decide +kernel
theorem dX6_pair_37 : decode cX6_pair 37 = .ok (.iaload, 1) := by decide +kernel
theorem dX6_pair_38 : decode cX6_pair 38 = .ok (.istore 4, 2) := by decide +kernel
theorem dX6_pair_40 : decode cX6_pair 40 = .ok (.aload_n 0, 1) := by decide +kernel
theorem dX6_pair_41 : decode cX6_pair 41 = .ok (.getfield 18, 3) := by decide +kernel
theorem dX6_pair_44 : decode cX6_pair 44 = .ok (.iload 4, 2) := by decide +kernel
theorem dX6_pair_46 : decode cX6_pair 46 = .ok (.iload_n 2, 1) := by decide +kernel
theorem dX6_pair_47 : decode cX6_pair 47 = .ok (.iastore, 1) := by decide +kernel
theorem dX6_pair_48 : decode cX6_pair 48 = .ok (.aload_n 0, 1) := by decide +kernel
theorem dX6_pair_49 : decode cX6_pair 49 = .ok (.getfield 21, 3) := by decide +kernel
theorem dX6_pair_52 : decode cX6_pair 52 = .ok (.iload_n 2, 1) := by decide +kernel
theorem dX6_pair_53 : decode cX6_pair 53 = .ok (.dup2, 1) := by decide +kernel
theorem dX6_pair_54 : decode cX6_pair 54 = .ok (.laload, 1) := by decide +kernel
theorem dX6_pair_55 : decode cX6_pair 55 = .ok (.aload_n 0, 1) := by decide +kernel
theorem dX6_pair_56 : decode cX6_pair 56 = .ok (.getfield 32, 3) := by decide +kernel
theorem dX6_pair_59 : decode cX6_pair 59 = .ok (.aload_n 0, 1) := by decide +kernel
theorem dX6_pair_60 : decode cX6_pair 60 = .ok (.getfield 21, 3) := by decide +kernel
theorem dX6_pair_63 : decode cX6_pair 63 = .ok (.iload 4, 2) := by decide +kernel
theorem dX6_pair_65 : decode cX6_pair 65 = .ok (.laload, 1) := by decide +kernel
theorem dX6_pair_66 : decode cX6_pair 66 = .ok (.lsub, 1) := by decide +kernel
theorem dX6_pair_67 : decode cX6_pair 67 = .ok (.lsub, 1) := by decide +kernel
theorem dX6_pair_68 : decode cX6_pair 68 = .ok (.lastore, 1) := by decide +kernel
theorem dX6_pair_69 : decode cX6_pair 69 = .ok (.aload_n 0, 1) := by decide +kernel
theorem dX6_pair_70 : decode cX6_pair 70 = .ok (.getfield 21, 3) := by decide +kernel
theorem dX6_pair_73 : decode cX6_pair 73 = .ok (.iload_n 2, 1) := by decide +kernel
theorem dX6_pair_74 : decode cX6_pair 74 = .ok (.laload, 1) := by decide +kernel
theorem dX6_pair_75 : decode cX6_pair 75 = .ok (.aload_n 0, 1) := by decide +kernel
theorem dX6_pair_76 : decode cX6_pair 76 = .ok (.getfield 32, 3) := by decide +kernel
theorem dX6_pair_79 : decode cX6_pair 79 = .ok (.lcmp, 1) := by decide +kernel
theorem dX6_pair_80 : decode cX6_pair 80 = .ok (.ifCond .ge 27, 3) := by decide +kernel
theorem dX6_pair_83 : decode cX6_pair 83 = .ok (.iload_n 1, 1) := by decide +kernel
theorem dX6_pair_84 : decode cX6_pair 84 = .ok (.bipush 64, 2) := by decide +kernel
theorem dX6_pair_86 : decode cX6_pair 86 = .ok (.if_icmp .ge 21, 3) := by decide +kernel
theorem dX6_pair_89 : decode cX6_pair 89 = .ok (.aload_n 0, 1) := by decide +kernel
theorem dX6_pair_90 : decode cX6_pair 90 = .ok (.getfield 15, 3) := by decide +kernel
theorem dX6_pair_93 : decode cX6_pair 93 = .ok (.iload_n 1, 1) := by decide +kernel
theorem dX6_pair_94 : decode cX6_pair 94 = .ok (.iload_n 2, 1) := by decide +kernel
theorem dX6_pair_95 : decode cX6_pair 95 = .ok (.iastore, 1) := by decide +kernel
theorem dX6_pair_96 : decode cX6_pair 96 = .ok (.iinc 1 1, 3) := by decide +kernel
theorem dX6_pair_99 : decode cX6_pair 99 = .ok (.aload_n 0, 1) := by decide +kernel
theorem dX6_pair_100 : decode cX6_pair 100 = .ok (.iload_n 2, 1) := by decide +kernel
theorem dX6_pair_101 : decode cX6_pair 101 = .ok (.iconst 1, 1) := by decide +kernel
theorem dX6_pair_102 : decode cX6_pair 102 = .ok (.iadd, 1) := by decide +kernel
theorem dX6_pair_103 : decode cX6_pair 103 = .ok (.invokevirtual 47, 3) := by decide +kernel
theorem dX6_pair_106 : decode cX6_pair 106 = .ok (.istore_n 2, 1) := by decide +kernel
theorem dX6_pair_107 : decode cX6_pair 107 = .ok (.iinc 3 1, 3) := by decide +kernel
theorem dX6_pair_110 : decode cX6_pair 110 = .ok (.goto (-97), 3) := by decide +kernel
theorem dX6_pair_113 : decode cX6_pair 113 = .ok (.return_, 1) := by decide +kernel
theorem dX6_takeShares_0 : decode cX6_takeShares 0 = .ok (.iconst 0, 1) := by decide +kernel
theorem dX6_takeShares_1 : decode cX6_takeShares 1 = .ok (.istore_n 1, 1) := by decide +kernel
theorem dX6_takeShares_2 : decode cX6_takeShares 2 = .ok (.iconst 0, 1) := by decide +kernel
theorem dX6_takeShares_3 : decode cX6_takeShares 3 = .ok (.istore_n 2, 1) := by decide +kernel
theorem dX6_takeShares_4 : decode cX6_takeShares 4 = .ok (.iload_n 2, 1) := by decide +kernel
theorem dX6_takeShares_5 : decode cX6_takeShares 5 = .ok (.aload_n 0, 1) := by decide +kernel
theorem dX6_takeShares_6 : decode cX6_takeShares 6 = .ok (.getfield 29, 3) := by decide +kernel
theorem dX6_takeShares_9 : decode cX6_takeShares 9 = .ok (.if_icmp .ge 59, 3) := by decide +kernel
theorem dX6_takeShares_12 : decode cX6_takeShares 12 = .ok (.aload_n 0, 1) := by decide +kernel
theorem dX6_takeShares_13 : decode cX6_takeShares 13 = .ok (.getfield 21, 3) := by decide +kernel
theorem dX6_takeShares_16 : decode cX6_takeShares 16 = .ok (.iload_n 2, 1) := by decide +kernel
theorem dX6_takeShares_17 : decode cX6_takeShares 17 = .ok (.aload_n 0, 1) := by decide +kernel
theorem dX6_takeShares_18 : decode cX6_takeShares 18 = .ok (.getfield 29, 3) := by decide +kernel
theorem dX6_takeShares_21 : decode cX6_takeShares 21 = .ok (.i2l, 1) := by decide +kernel
theorem dX6_takeShares_22 : decode cX6_takeShares 22 = .ok (.aload_n 0, 1) := by decide +kernel
theorem dX6_takeShares_23 : decode cX6_takeShares 23 = .ok (.getfield 9, 3) := by decide +kernel
theorem dX6_takeShares_26 : decode cX6_takeShares 26 = .ok (.iload_n 2, 1) := by decide +kernel
theorem dX6_takeShares_27 : decode cX6_takeShares 27 = .ok (.iaload, 1) := by decide +kernel
theorem dX6_takeShares_28 : decode cX6_takeShares 28 = .ok (.i2l, 1) := by decide +kernel
theorem dX6_takeShares_29 : decode cX6_takeShares 29 = .ok (.lmul, 1) := by decide +kernel
theorem dX6_takeShares_30 : decode cX6_takeShares 30 = .ok (.lastore, 1) := by decide +kernel
theorem dX6_takeShares_31 : decode cX6_takeShares 31 = .ok (.aload_n 0, 1) := by decide +kernel
theorem dX6_takeShares_32 : decode cX6_takeShares 32 = .ok (.getfield 18, 3) := by decide +kernel
theorem dX6_takeShares_35 : decode cX6_takeShares 35 = .ok (.iload_n 2, 1) := by decide +kernel
theorem dX6_takeShares_36 : decode cX6_takeShares 36 = .ok (.iload_n 2, 1) := by decide +kernel
theorem dX6_takeShares_37 : decode cX6_takeShares 37 = .ok (.iastore, 1) := by decide +kernel
theorem dX6_takeShares_38 : decode cX6_takeShares 38 = .ok (.aload_n 0, 1) := by decide +kernel
theorem dX6_takeShares_39 : decode cX6_takeShares 39 = .ok (.getfield 21, 3) := by decide +kernel
theorem dX6_takeShares_42 : decode cX6_takeShares 42 = .ok (.iload_n 2, 1) := by decide +kernel
theorem dX6_takeShares_43 : decode cX6_takeShares 43 = .ok (.laload, 1) := by decide +kernel
theorem dX6_takeShares_44 : decode cX6_takeShares 44 = .ok (.aload_n 0, 1) := by decide +kernel
theorem dX6_takeShares_45 : decode cX6_takeShares 45 = .ok (.getfield 32, 3) := by decide +kernel
theorem dX6_takeShares_48 : decode cX6_takeShares 48 = .ok (.lcmp, 1) := by decide +kernel
theorem dX6_takeShares_49 : decode cX6_takeShares 49 = .ok (.ifCond .ge 13, 3) := by decide +kernel
theorem dX6_takeShares_52 : decode cX6_takeShares 52 = .ok (.aload_n 0, 1) := by decide +kernel
theorem dX6_takeShares_53 : decode cX6_takeShares 53 = .ok (.getfield 15, 3) := by decide +kernel
theorem dX6_takeShares_56 : decode cX6_takeShares 56 = .ok (.iload_n 1, 1) := by decide +kernel
theorem dX6_takeShares_57 : decode cX6_takeShares 57 = .ok (.iload_n 2, 1) := by decide +kernel
theorem dX6_takeShares_58 : decode cX6_takeShares 58 = .ok (.iastore, 1) := by decide +kernel
theorem dX6_takeShares_59 : decode cX6_takeShares 59 = .ok (.iinc 1 1, 3) := by decide +kernel
theorem dX6_takeShares_62 : decode cX6_takeShares 62 = .ok (.iinc 2 1, 3) := by decide +kernel
theorem dX6_takeShares_65 : decode cX6_takeShares 65 = .ok (.goto (-61), 3) := by decide +kernel
theorem dX6_takeShares_68 : decode cX6_takeShares 68 = .ok (.iload_n 1, 1) := by decide +kernel
theorem dX6_takeShares_69 : decode cX6_takeShares 69 = .ok (.ireturn, 1) := by decide +kernel
theorem dX6_firstLarge_0 : decode cX6_firstLarge 0 = .ok (.iload_n 1, 1) := by decide +kernel
theorem dX6_firstLarge_1 : decode cX6_firstLarge 1 = .ok (.istore_n 2, 1) := by decide +kernel
theorem dX6_firstLarge_2 : decode cX6_firstLarge 2 = .ok (.iload_n 2, 1) := by decide +kernel
theorem dX6_firstLarge_3 : decode cX6_firstLarge 3 = .ok (.aload_n 0, 1) := by decide +kernel
theorem dX6_firstLarge_4 : decode cX6_firstLarge 4 = .ok (.getfield 29, 3) := by decide +kernel
theorem dX6_firstLarge_7 : decode cX6_firstLarge 7 = .ok (.if_icmp .ge 23, 3) := by decide +kernel
theorem dX6_firstLarge_10 : decode cX6_firstLarge 10 = .ok (.aload_n 0, 1) := by decide +kernel
theorem dX6_firstLarge_11 : decode cX6_firstLarge 11 = .ok (.getfield 21, 3) := by decide +kernel
theorem dX6_firstLarge_14 : decode cX6_firstLarge 14 = .ok (.iload_n 2, 1) := by decide +kernel
theorem dX6_firstLarge_15 : decode cX6_firstLarge 15 = .ok (.laload, 1) := by decide +kernel
theorem dX6_firstLarge_16 : decode cX6_firstLarge 16 = .ok (.aload_n 0, 1) := by decide +kernel
theorem dX6_firstLarge_17 : decode cX6_firstLarge 17 = .ok (.getfield 32, 3) := by decide +kernel
theorem dX6_firstLarge_20 : decode cX6_firstLarge 20 = .ok (.lcmp, 1) := by decide +kernel
theorem dX6_firstLarge_21 : decode cX6_firstLarge 21 = .ok (.ifCond .ge 9, 3) := by decide +kernel
theorem dX6_firstLarge_24 : decode cX6_firstLarge 24 = .ok (.iinc 2 1, 3) := by decide +kernel
theorem dX6_firstLarge_27 : decode cX6_firstLarge 27 = .ok (.goto (-25), 3) := by decide +kernel
theorem dX6_firstLarge_30 : decode cX6_firstLarge 30 = .ok (.iload_n 2, 1) := by decide +kernel
theorem dX6_firstLarge_31 : decode cX6_firstLarge 31 = .ok (.ireturn, 1) := by decide +kernel
theorem dX6_pick_0 : decode cX6_pick 0 = .ok (.aload_n 0, 1) := by decide +kernel
theorem dX6_pick_1 : decode cX6_pick 1 = .ok (.getfield 25, 3) := by decide +kernel
theorem dX6_pick_4 : decode cX6_pick 4 = .ok (.ifCond .ne 11, 3) := by decide +kernel
theorem dX6_pick_7 : decode cX6_pick 7 = .ok (.aload_n 0, 1) := by decide +kernel
theorem dX6_pick_8 : decode cX6_pick 8 = .ok (.aload_n 1, 1) := by decide +kernel
theorem dX6_pick_9 : decode cX6_pick 9 = .ok (.invokevirtual 51, 3) := by decide +kernel
theorem dX6_pick_12 : decode cX6_pick 12 = .ok (.goto 8, 3) := by decide +kernel
theorem dX6_pick_15 : decode cX6_pick 15 = .ok (.aload_n 0, 1) := by decide +kernel
theorem dX6_pick_16 : decode cX6_pick 16 = .ok (.aload_n 1, 1) := by decide +kernel
theorem dX6_pick_17 : decode cX6_pick 17 = .ok (.invokevirtual 55, 3) := by decide +kernel
theorem dX6_pick_20 : decode cX6_pick 20 = .ok (.ireturn, 1) := by decide +kernel
theorem dX6_pickByAlias_0 : decode cX6_pickByAlias 0 = .ok (.aload_n 1, 1) := by decide +kernel
theorem dX6_pickByAlias_1 : decode cX6_pickByAlias 1 = .ok (.aload_n 0, 1) := by decide +kernel
theorem dX6_pickByAlias_2 : decode cX6_pickByAlias 2 = .ok (.getfield 29, 3) := by decide +kernel
theorem dX6_pickByAlias_5 : decode cX6_pickByAlias 5 = .ok (.i2l, 1) := by decide +kernel
theorem dX6_pickByAlias_6 : decode cX6_pickByAlias 6 = .ok (.invokevirtual 58, 3) := by decide +kernel
theorem dX6_pickByAlias_9 : decode cX6_pickByAlias 9 = .ok (.l2i, 1) := by decide +kernel
theorem dX6_pickByAlias_10 : decode cX6_pickByAlias 10 = .ok (.istore_n 2, 1) := by decide +kernel
theorem dX6_pickByAlias_11 : decode cX6_pickByAlias 11 = .ok (.iload_n 2, 1) := by decide +kernel
theorem dX6_pickByAlias_12 : decode cX6_pickByAlias 12 = .ok (.ifCond .lt 11, 3) := by decide +kernel
theorem dX6_pickByAlias_15 : decode cX6_pickByAlias 15 = .ok (.iload_n 2, 1) := by decide +kernel
theorem dX6_pickByAlias_16 : decode cX6_pickByAlias 16 = .ok (.aload_n 0, 1) := by decide +kernel
theorem dX6_pickByAlias_17 : decode cX6_pickByAlias 17 = .ok (.getfield 29, 3) := by decide +kernel
theorem dX6_pickByAlias_20 : decode cX6_pickByAlias 20 = .ok (.if_icmp .lt 5, 3) := by decide +kernel
theorem dX6_pickByAlias_23 : decode cX6_pickByAlias 23 = .ok (.iconst 0, 1) := by decide +kernel
theorem dX6_pickByAlias_24 : decode cX6_pickByAlias 24 = .ok (.ireturn, 1) := by decide +kernel
theorem dX6_pickByAlias_25 : decode cX6_pickByAlias 25 = .ok (.aload_n 1, 1) := by decide +kernel
theorem dX6_pickByAlias_26 : decode cX6_pickByAlias 26 = .ok (.aload_n 0, 1) := by decide +kernel
theorem dX6_pickByAlias_27 : decode cX6_pickByAlias 27 = .ok (.getfield 21, 3) := by decide +kernel
theorem dX6_pickByAlias_30 : decode cX6_pickByAlias 30 = .ok (.iload_n 2, 1) := by decide +kernel
theorem dX6_pickByAlias_31 : decode cX6_pickByAlias 31 = .ok (.laload, 1) := by decide +kernel
theorem dX6_pickByAlias_32 : decode cX6_pickByAlias 32 = .ok (.aload_n 0, 1) := by decide +kernel
theorem dX6_pickByAlias_33 : decode cX6_pickByAlias 33 = .ok (.getfield 32, 3) := by decide +kernel
theorem dX6_pickByAlias_36 : decode cX6_pickByAlias 36 = .ok (.invokevirtual 64, 3) := by decide +kernel
theorem dX6_pickByAlias_39 : decode cX6_pickByAlias 39 = .ok (.iconst 1, 1) := by decide +kernel
theorem dX6_pickByAlias_40 : decode cX6_pickByAlias 40 = .ok (.if_icmp .ne 7, 3) := by decide +kernel
theorem dX6_pickByAlias_43 : decode cX6_pickByAlias 43 = .ok (.iload_n 2, 1) := by decide +kernel
theorem dX6_pickByAlias_44 : decode cX6_pickByAlias 44 = .ok (.goto 9, 3) := by decide +kernel
theorem dX6_pickByAlias_47 : decode cX6_pickByAlias 47 = .ok (.aload_n 0, 1) := by decide +kernel
theorem dX6_pickByAlias_48 : decode cX6_pickByAlias 48 = .ok (.getfield 18, 3) := by decide +kernel
theorem dX6_pickByAlias_51 : decode cX6_pickByAlias 51 = .ok (.iload_n 2, 1) := by decide +kernel
theorem dX6_pickByAlias_52 : decode cX6_pickByAlias 52 = .ok (.iaload, 1) := by decide +kernel
theorem dX6_pickByAlias_53 : decode cX6_pickByAlias 53 = .ok (.ireturn, 1) := by decide +kernel
theorem dX6_pickByTree_0 : decode cX6_pickByTree 0 = .ok (.aload_n 0, 1) := by decide +kernel
theorem dX6_pickByTree_1 : decode cX6_pickByTree 1 = .ok (.getfield 29, 3) := by decide +kernel
theorem dX6_pickByTree_4 : decode cX6_pickByTree 4 = .ok (.ifCond .le 30, 3) := by decide +kernel
theorem dX6_pickByTree_7 : decode cX6_pickByTree 7 = .ok (.aload_n 0, 1) := by decide +kernel
theorem dX6_pickByTree_8 : decode cX6_pickByTree 8 = .ok (.getfield 9, 3) := by decide +kernel
theorem dX6_pickByTree_11 : decode cX6_pickByTree 11 = .ok (.aload_n 0, 1) := by decide +kernel
theorem dX6_pickByTree_12 : decode cX6_pickByTree 12 = .ok (.getfield 29, 3) := by decide +kernel
theorem dX6_pickByTree_15 : decode cX6_pickByTree 15 = .ok (.iconst 1, 1) := by decide +kernel
theorem dX6_pickByTree_16 : decode cX6_pickByTree 16 = .ok (.isub, 1) := by decide +kernel
theorem dX6_pickByTree_17 : decode cX6_pickByTree 17 = .ok (.iaload, 1) := by decide +kernel
theorem dX6_pickByTree_18 : decode cX6_pickByTree 18 = .ok (.i2l, 1) := by decide +kernel
theorem dX6_pickByTree_19 : decode cX6_pickByTree 19 = .ok (.aload_n 0, 1) := by decide +kernel
theorem dX6_pickByTree_20 : decode cX6_pickByTree 20 = .ok (.getfield 32, 3) := by decide +kernel
theorem dX6_pickByTree_23 : decode cX6_pickByTree 23 = .ok (.lcmp, 1) := by decide +kernel
theorem dX6_pickByTree_24 : decode cX6_pickByTree 24 = .ok (.ifCond .ne 10, 3) := by decide +kernel
theorem dX6_pickByTree_27 : decode cX6_pickByTree 27 = .ok (.aload_n 0, 1) := by decide +kernel
theorem dX6_pickByTree_28 : decode cX6_pickByTree 28 = .ok (.getfield 29, 3) := by decide +kernel
theorem dX6_pickByTree_31 : decode cX6_pickByTree 31 = .ok (.iconst 1, 1) := by decide +kernel
theorem dX6_pickByTree_32 : decode cX6_pickByTree 32 = .ok (.isub, 1) := by decide +kernel
theorem dX6_pickByTree_33 : decode cX6_pickByTree 33 = .ok (.ireturn, 1) := by decide +kernel
theorem dX6_pickByTree_34 : decode cX6_pickByTree 34 = .ok (.iconst 0, 1) := by decide +kernel
theorem dX6_pickByTree_35 : decode cX6_pickByTree 35 = .ok (.istore_n 2, 1) := by decide +kernel
theorem dX6_pickByTree_36 : decode cX6_pickByTree 36 = .ok (.iload_n 2, 1) := by decide +kernel
theorem dX6_pickByTree_37 : decode cX6_pickByTree 37 = .ok (.aload_n 0, 1) := by decide +kernel
theorem dX6_pickByTree_38 : decode cX6_pickByTree 38 = .ok (.getfield 29, 3) := by decide +kernel
theorem dX6_pickByTree_41 : decode cX6_pickByTree 41 = .ok (.if_icmp .ge 22, 3) := by decide +kernel
theorem dX6_pickByTree_44 : decode cX6_pickByTree 44 = .ok (.aload_n 0, 1) := by decide +kernel
theorem dX6_pickByTree_45 : decode cX6_pickByTree 45 = .ok (.getfield 21, 3) := by decide +kernel
theorem dX6_pickByTree_48 : decode cX6_pickByTree 48 = .ok (.iload_n 2, 1) := by decide +kernel
theorem dX6_pickByTree_49 : decode cX6_pickByTree 49 = .ok (.aload_n 0, 1) := by decide +kernel
theorem dX6_pickByTree_50 : decode cX6_pickByTree 50 = .ok (.getfield 9, 3) := by decide +kernel
theorem dX6_pickByTree_53 : decode cX6_pickByTree 53 = .ok (.iload_n 2, 1) := by decide +kernel
theorem dX6_pickByTree_54 : decode cX6_pickByTree 54 = .ok (.iaload, 1) := by decide +kernel
theorem dX6_pickByTree_55 : decode cX6_pickByTree 55 = .ok (.i2l, 1) := by decide +kernel
theorem dX6_pickByTree_56 : decode cX6_pickByTree 56 = .ok (.lastore, 1) := by decide +kernel
theorem dX6_pickByTree_57 : decode cX6_pickByTree 57 = .ok (.iinc 2 1, 3) := by decide +kernel
theorem dX6_pickByTree_60 : decode cX6_pickByTree 60 = .ok (.goto (-24), 3) := by decide +kernel
theorem dX6_pickByTree_63 : decode cX6_pickByTree 63 = .ok (.iconst 0, 1) := by decide +kernel
theorem dX6_pickByTree_64 : decode cX6_pickByTree 64 = .ok (.istore_n 2, 1) := by decide +kernel
theorem dX6_pickByTree_65 : decode cX6_pickByTree 65 = .ok (.iconst 0, 1) := by decide +kernel
theorem dX6_pickByTree_66 : decode cX6_pickByTree 66 = .ok (.istore_n 3, 1) := by decide +kernel
theorem dX6_pickByTree_67 : decode cX6_pickByTree 67 = .ok (.iload_n 3, 1) := by decide +kernel
theorem dX6_pickByTree_68 : decode cX6_pickByTree 68 = .ok (.ldc 68, 2) := by decide +kernel
theorem dX6_pickByTree_70 : decode cX6_pickByTree 70 = .ok (.if_icmp .ge 99, 3) := by decide +kernel
theorem dX6_pickByTree_73 : decode cX6_pickByTree 73 = .ok (.aload_n 1, 1) := by decide +kernel
theorem dX6_pickByTree_74 : decode cX6_pickByTree 74 = .ok (.getfield 69, 3) := by decide +kernel
theorem dX6_pickByTree_77 : decode cX6_pickByTree 77 = .ok (.ifCond .ne 92, 3) := by decide +kernel
theorem dX6_pickByTree_80 : decode cX6_pickByTree 80 = .ok (.iload_n 2, 1) := by decide +kernel
theorem dX6_pickByTree_81 : decode cX6_pickByTree 81 = .ok (.iload_n 2, 1) := by decide +kernel
theorem dX6_pickByTree_82 : decode cX6_pickByTree 82 = .ok (.aload_n 1, 1) := by decide +kernel
theorem dX6_pickByTree_83 : decode cX6_pickByTree 83 = .ok (.invokevirtual 73, 3) := by decide +kernel
theorem dX6_pickByTree_86 : decode cX6_pickByTree 86 = .ok (.iadd, 1) := by decide +kernel
theorem dX6_pickByTree_87 : decode cX6_pickByTree 87 = .ok (.iadd, 1) := by decide +kernel
theorem dX6_pickByTree_88 : decode cX6_pickByTree 88 = .ok (.istore_n 2, 1) := by decide +kernel
theorem dX6_pickByTree_89 : decode cX6_pickByTree 89 = .ok (.iconst 0, 1) := by decide +kernel
theorem dX6_pickByTree_90 : decode cX6_pickByTree 90 = .ok (.istore 4, 2) := by decide +kernel
theorem dX6_pickByTree_92 : decode cX6_pickByTree 92 = .ok (.iload 4, 2) := by decide +kernel
theorem dX6_pickByTree_94 : decode cX6_pickByTree 94 = .ok (.aload_n 0, 1) := by decide +kernel
theorem dX6_pickByTree_95 : decode cX6_pickByTree 95 = .ok (.getfield 29, 3) := by decide +kernel
theorem dX6_pickByTree_98 : decode cX6_pickByTree 98 = .ok (.if_icmp .ge 65, 3) := by decide +kernel
theorem dX6_pickByTree_101 : decode cX6_pickByTree 101 = .ok (.aload_n 0, 1) := by decide +kernel
theorem dX6_pickByTree_102 : decode cX6_pickByTree 102 = .ok (.getfield 21, 3) := by decide +kernel
theorem dX6_pickByTree_105 : decode cX6_pickByTree 105 = .ok (.iload 4, 2) := by decide +kernel
theorem dX6_pickByTree_107 : decode cX6_pickByTree 107 = .ok (.dup2, 1) := by decide +kernel
theorem dX6_pickByTree_108 : decode cX6_pickByTree 108 = .ok (.laload, 1) := by decide +kernel
theorem dX6_pickByTree_109 : decode cX6_pickByTree 109 = .ok (.aload_n 0, 1) := by decide +kernel
theorem dX6_pickByTree_110 : decode cX6_pickByTree 110 = .ok (.getfield 21, 3) := by decide +kernel
theorem dX6_pickByTree_113 : decode cX6_pickByTree 113 = .ok (.iload 4, 2) := by decide +kernel
theorem dX6_pickByTree_115 : decode cX6_pickByTree 115 = .ok (.laload, 1) := by decide +kernel
theorem dX6_pickByTree_116 : decode cX6_pickByTree 116 = .ok (.ladd, 1) := by decide +kernel
theorem dX6_pickByTree_117 : decode cX6_pickByTree 117 = .ok (.lastore, 1) := by decide +kernel
theorem dX6_pickByTree_118 : decode cX6_pickByTree 118 = .ok (.aload_n 0, 1) := by decide +kernel
theorem dX6_pickByTree_119 : decode cX6_pickByTree 119 = .ok (.getfield 21, 3) := by decide +kernel
theorem dX6_pickByTree_122 : decode cX6_pickByTree 122 = .ok (.iload 4, 2) := by decide +kernel
theorem dX6_pickByTree_124 : decode cX6_pickByTree 124 = .ok (.laload, 1) := by decide +kernel
theorem dX6_pickByTree_125 : decode cX6_pickByTree 125 = .ok (.aload_n 0, 1) := by decide +kernel
theorem dX6_pickByTree_126 : decode cX6_pickByTree 126 = .ok (.getfield 32, 3) := by decide +kernel
theorem dX6_pickByTree_129 : decode cX6_pickByTree 129 = .ok (.lcmp, 1) := by decide +kernel
theorem dX6_pickByTree_130 : decode cX6_pickByTree 130 = .ok (.ifCond .lt 27, 3) := by decide +kernel
theorem dX6_pickByTree_133 : decode cX6_pickByTree 133 = .ok (.aload_n 0, 1) := by decide +kernel
theorem dX6_pickByTree_134 : decode cX6_pickByTree 134 = .ok (.getfield 21, 3) := by decide +kernel
theorem dX6_pickByTree_137 : decode cX6_pickByTree 137 = .ok (.iload 4, 2) := by decide +kernel
theorem dX6_pickByTree_139 : decode cX6_pickByTree 139 = .ok (.dup2, 1) := by decide +kernel
theorem dX6_pickByTree_140 : decode cX6_pickByTree 140 = .ok (.laload, 1) := by decide +kernel
theorem dX6_pickByTree_141 : decode cX6_pickByTree 141 = .ok (.aload_n 0, 1) := by decide +kernel
theorem dX6_pickByTree_142 : decode cX6_pickByTree 142 = .ok (.getfield 32, 3) := by decide +kernel
theorem dX6_pickByTree_145 : decode cX6_pickByTree 145 = .ok (.lsub, 1) := by decide +kernel
theorem dX6_pickByTree_146 : decode cX6_pickByTree 146 = .ok (.lastore, 1) := by decide +kernel
theorem dX6_pickByTree_147 : decode cX6_pickByTree 147 = .ok (.iload_n 2, 1) := by decide +kernel
theorem dX6_pickByTree_148 : decode cX6_pickByTree 148 = .ok (.ifCond .ne 6, 3) := by decide +kernel
theorem dX6_pickByTree_151 : decode cX6_pickByTree 151 = .ok (.iload 4, 2) := by decide +kernel
theorem dX6_pickByTree_153 : decode cX6_pickByTree 153 = .ok (.ireturn, 1) := by decide +kernel
theorem dX6_pickByTree_154 : decode cX6_pickByTree 154 = .ok (.iinc 2 (-1), 3) := by decide +kernel
theorem dX6_pickByTree_157 : decode cX6_pickByTree 157 = .ok (.iinc 4 1, 3) := by decide +kernel
theorem dX6_pickByTree_160 : decode cX6_pickByTree 160 = .ok (.goto (-68), 3) := by decide +kernel
theorem dX6_pickByTree_163 : decode cX6_pickByTree 163 = .ok (.iinc 3 1, 3) := by decide +kernel
theorem dX6_pickByTree_166 : decode cX6_pickByTree 166 = .ok (.goto (-99), 3) := by decide +kernel
theorem dX6_pickByTree_169 : decode cX6_pickByTree 169 = .ok (.iconst 0, 1) := by decide +kernel
theorem dX6_pickByTree_170 : decode cX6_pickByTree 170 = .ok (.ireturn, 1) := by decide +kernel
