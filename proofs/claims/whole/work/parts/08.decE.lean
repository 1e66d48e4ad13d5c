theorem dX9_shuffle_27 : decode cX9_shuffle 27 = .ok (.isub, 1) := by decide +kernel
theorem dX9_shuffle_28 : decode cX9_shuffle 28 = .ok (.istore_n 2, 1) := by decide +kernel
theorem dX9_shuffle_29 : decode cX9_shuffle 29 = .ok (.iload_n 2, 1) := by decide +kernel
theorem dX9_shuffle_30 : decode cX9_shuffle 30 = .ok (.ifCond .le 54, 3) := by decide +kernel
theorem dX9_shuffle_33 : decode cX9_shuffle 33 = .ok (.aload_n 0, 1) := by decide +kernel
theorem dX9_shuffle_34 : decode cX9_shuffle 34 = .ok (.getfield 77, 3) := by decide +kernel
theorem dX9_shuffle_37 : decode cX9_shuffle 37 = .ok (.ifCond .ne 47, 3) := by decide +kernel
theorem dX9_shuffle_40 : decode cX9_shuffle 40 = .ok (.aload_n 0, 1) := by decide +kernel
theorem dX9_shuffle_41 : decode cX9_shuffle 41 = .ok (.iload_n 2, 1) := by decide +kernel
theorem dX9_shuffle_42 : decode cX9_shuffle 42 = .ok (.i2l, 1) := by decide +kernel
theorem dX9_shuffle_43 : decode cX9_shuffle 43 = .ok (.lconst 1, 1) := by decide +kernel
theorem dX9_shuffle_44 : decode cX9_shuffle 44 = .ok (.ladd, 1) := by decide +kernel
theorem dX9_shuffle_45 : decode cX9_shuffle 45 = .ok (.invokevirtual 105, 3) := by decide +kernel
theorem dX9_shuffle_48 : decode cX9_shuffle 48 = .ok (.l2i, 1) := by decide +kernel
theorem dX9_shuffle_49 : decode cX9_shuffle 49 = .ok (.istore_n 3, 1) := by decide +kernel
theorem dX9_shuffle_50 : decode cX9_shuffle 50 = .ok (.aload_n 0, 1) := by decide +kernel
theorem dX9_shuffle_51 : decode cX9_shuffle 51 = .ok (.getfield 38, 3) := by decide +kernel
theorem dX9_shuffle_54 : decode cX9_shuffle 54 = .ok (.iload_n 2, 1) := by decide +kernel
theorem dX9_shuffle_55 : decode cX9_shuffle 55 = .ok (.iaload, 1) := by decide +kernel
theorem dX9_shuffle_56 : decode cX9_shuffle 56 = .ok (.istore 4, 2) := by decide +kernel
theorem dX9_shuffle_58 : decode cX9_shuffle 58 = .ok (.aload_n 0, 1) := by decide +kernel
theorem dX9_shuffle_59 : decode cX9_shuffle 59 = .ok (.getfield 38, 3) := by decide +kernel
theorem dX9_shuffle_62 : decode cX9_shuffle 62 = .ok (.iload_n 2, 1) := by decide +kernel
theorem dX9_shuffle_63 : decode cX9_shuffle 63 = .ok (.aload_n 0, 1) := by decide +kernel
theorem dX9_shuffle_64 : decode cX9_shuffle 64 = .ok (.getfield 38, 3) := by decide +kernel
theorem dX9_shuffle_67 : decode cX9_shuffle 67 = .ok (.iload_n 3, 1) := by decide +kernel
theorem dX9_shuffle_68 : decode cX9_shuffle 68 = .ok (.iaload, 1) := by decide +kernel
theorem dX9_shuffle_69 : decode cX9_shuffle 69 = .ok (.iastore, 1) := by decide +kernel
theorem dX9_shuffle_70 : decode cX9_shuffle 70 = .ok (.aload_n 0, 1) := by decide +kernel
theorem dX9_shuffle_71 : decode cX9_shuffle 71 = .ok (.getfield 38, 3) := by decide +kernel
theorem dX9_shuffle_74 : decode cX9_shuffle 74 = .ok (.iload_n 3, 1) := by decide +kernel
theorem dX9_shuffle_75 : decode cX9_shuffle 75 = .ok (.iload 4, 2) := by decide +kernel
theorem dX9_shuffle_77 : decode cX9_shuffle 77 = .ok (.iastore, 1) := by decide +kernel
theorem dX9_shuffle_78 : decode cX9_shuffle 78 = .ok (.iinc 2 (-1), 3) := by decide +kernel
theorem dX9_shuffle_81 : decode cX9_shuffle 81 = .ok (.goto (-52), 3) := by decide +kernel
theorem dX9_shuffle_84 : decode cX9_shuffle 84 = .ok (.return_, 1) := by decide +kernel
theorem dX9_subset_0 : decode cX9_subset 0 = .ok (.aload_n 0, 1) := by decide +kernel
theorem dX9_subset_1 : decode cX9_subset 1 = .ok (.iconst 0, 1) := by decide +kernel
theorem dX9_subset_2 : decode cX9_subset 2 = .ok (.putfield 123, 3) := by decide +kernel
theorem dX9_subset_5 : decode cX9_subset 5 = .ok (.iconst 0, 1) := by decide +kernel
theorem dX9_subset_6 : decode cX9_subset 6 = .ok (.istore_n 3, 1) := by decide +kernel
theorem dX9_subset_7 : decode cX9_subset 7 = .ok (.iload_n 3, 1) := by decide +kernel
theorem dX9_subset_8 : decode cX9_subset 8 = .ok (.iload_n 1, 1) := by decide +kernel
theorem dX9_subset_9 : decode cX9_subset 9 = .ok (.if_icmp .ge 55, 3) := by decide +kernel
theorem dX9_subset_12 : decode cX9_subset 12 = .ok (.aload_n 0, 1) := by decide +kernel
theorem dX9_subset_13 : decode cX9_subset 13 = .ok (.getfield 77, 3) := by decide +kernel
theorem dX9_subset_16 : decode cX9_subset 16 = .ok (.ifCond .ne 48, 3) := by decide +kernel
theorem dX9_subset_19 : decode cX9_subset 19 = .ok (.aload_n 0, 1) := by decide +kernel
theorem dX9_subset_20 : decode cX9_subset 20 = .ok (.iload_n 2, 1) := by decide +kernel
theorem dX9_subset_21 : decode cX9_subset 21 = .ok (.aload_n 0, 1) := by decide +kernel
theorem dX9_subset_22 : decode cX9_subset 22 = .ok (.getfield 123, 3) := by decide +kernel
theorem dX9_subset_25 : decode cX9_subset 25 = .ok (.isub, 1) := by decide +kernel
theorem dX9_subset_26 : decode cX9_subset 26 = .ok (.i2l, 1) := by decide +kernel
theorem dX9_subset_27 : decode cX9_subset 27 = .ok (.iload_n 1, 1) := by decide +kernel
theorem dX9_subset_28 : decode cX9_subset 28 = .ok (.iload_n 3, 1) := by decide +kernel
theorem dX9_subset_29 : decode cX9_subset 29 = .ok (.isub, 1) := by decide +kernel
theorem dX9_subset_30 : decode cX9_subset 30 = .ok (.i2l, 1) := by decide +kernel
theorem dX9_subset_31 : decode cX9_subset 31 = .ok (.invokevirtual 109, 3) := by decide +kernel
theorem dX9_subset_34 : decode cX9_subset 34 = .ok (.iconst 1, 1) := by decide +kernel
theorem dX9_subset_35 : decode cX9_subset 35 = .ok (.if_icmp .ne 23, 3) := by decide +kernel
theorem dX9_subset_38 : decode cX9_subset 38 = .ok (.aload_n 0, 1) := by decide +kernel
theorem dX9_subset_39 : decode cX9_subset 39 = .ok (.getfield 38, 3) := by decide +kernel
theorem dX9_subset_42 : decode cX9_subset 42 = .ok (.aload_n 0, 1) := by decide +kernel
theorem dX9_subset_43 : decode cX9_subset 43 = .ok (.getfield 123, 3) := by decide +kernel
theorem dX9_subset_46 : decode cX9_subset 46 = .ok (.iload_n 3, 1) := by decide +kernel
theorem dX9_subset_47 : decode cX9_subset 47 = .ok (.iastore, 1) := by decide +kernel
theorem dX9_subset_48 : decode cX9_subset 48 = .ok (.aload_n 0, 1) := by decide +kernel
theorem dX9_subset_49 : decode cX9_subset 49 = .ok (.dup, 1) := by decide +kernel
theorem dX9_subset_50 : decode cX9_subset 50 = .ok (.getfield 123, 3) := by decide +kernel
theorem dX9_subset_53 : decode cX9_subset 53 = .ok (.iconst 1, 1) := by decide +kernel
theorem dX9_subset_54 : decode cX9_subset 54 = .ok (.iadd, 1) := by decide +kernel
theorem dX9_subset_55 : decode cX9_subset 55 = .ok (.putfield 123, 3) := by decide +kernel
theorem dX9_subset_58 : decode cX9_subset 58 = .ok (.iinc 3 1, 3) := by decide +kernel
theorem dX9_subset_61 : decode cX9_subset 61 = .ok (.goto (-54), 3) := by decide +kernel
theorem dX9_subset_64 : decode cX9_subset 64 = .ok (.return_, 1) := by decide +kernel
theorem dX9_path_0 : decode cX9_path 0 = .ok (.aload_n 0, 1) := by decide +kernel
theorem dX9_path_1 : decode cX9_path 1 = .ok (.iconst 2, 1) := by decide +kernel
theorem dX9_path_2 : decode cX9_path 2 = .ok (.iload_n 1, 1) := by decide +kernel
theorem dX9_path_3 : decode cX9_path 3 = .ok (.imul, 1) := by decide +kernel
theorem dX9_path_4 : decode cX9_path 4 = .ok (.putfield 123, 3) := by decide +kernel
theorem dX9_path_7 : decode cX9_path 7 = .ok (.lconst 0, 1) := by decide +kernel
theorem dX9_path_8 : decode cX9_path 8 = .ok (.lstore_n 2, 1) := by decide +kernel
theorem dX9_path_9 : decode cX9_path 9 = .ok (.iconst 0, 1) := by decide +kernel
theorem dX9_path_10 : decode cX9_path 10 = .ok (.istore 4, 2) := by decide +kernel
theorem dX9_path_12 : decode cX9_path 12 = .ok (.iload 4, 2) := by decide +kernel
theorem dX9_path_14 : decode cX9_path 14 = .ok (.iconst 2, 1) := by decide +kernel
theorem dX9_path_15 : decode cX9_path 15 = .ok (.iload_n 1, 1) := by decide +kernel
theorem dX9_path_16 : decode cX9_path 16 = .ok (.imul, 1) := by decide +kernel
theorem dX9_path_17 : decode cX9_path 17 = .ok (.if_icmp .ge 77, 3) := by decide +kernel
theorem dX9_path_20 : decode cX9_path 20 = .ok (.aload_n 0, 1) := by decide +kernel
theorem dX9_path_21 : decode cX9_path 21 = .ok (.getfield 77, 3) := by decide +kernel
theorem dX9_path_24 : decode cX9_path 24 = .ok (.ifCond .ne 70, 3) := by decide +kernel
theorem dX9_path_27 : decode cX9_path 27 = .ok (.iconst 2, 1) := by decide +kernel
theorem dX9_path_28 : decode cX9_path 28 = .ok (.iload_n 1, 1) := by decide +kernel
theorem dX9_path_29 : decode cX9_path 29 = .ok (.imul, 1) := by decide +kernel
theorem dX9_path_30 : decode cX9_path 30 = .ok (.iload 4, 2) := by decide +kernel
theorem dX9_path_32 : decode cX9_path 32 = .ok (.isub, 1) := by decide +kernel
theorem dX9_path_33 : decode cX9_path 33 = .ok (.i2l, 1) := by decide +kernel
theorem dX9_path_34 : decode cX9_path 34 = .ok (.lstore 5, 2) := by decide +kernel
theorem dX9_path_36 : decode cX9_path 36 = .ok (.aload_n 0, 1) := by decide +kernel
theorem dX9_path_37 : decode cX9_path 37 = .ok (.getfield 38, 3) := by decide +kernel
theorem dX9_path_40 : decode cX9_path 40 = .ok (.iload 4, 2) := by decide +kernel
theorem dX9_path_42 : decode cX9_path 42 = .ok (.aload_n 0, 1) := by decide +kernel
theorem dX9_path_43 : decode cX9_path 43 = .ok (.lload_n 2, 1) := by decide +kernel
theorem dX9_path_44 : decode cX9_path 44 = .ok (.ldc2_w 96, 3) := by decide +kernel
theorem dX9_path_47 : decode cX9_path 47 = .ok (.ladd, 1) := by decide +kernel
theorem dX9_path_48 : decode cX9_path 48 = .ok (.lload 5, 2) := by decide +kernel
theorem dX9_path_50 : decode cX9_path 50 = .ok (.lload_n 2, 1) := by decide +kernel
theorem dX9_path_51 : decode cX9_path 51 = .ok (.lsub, 1) := by decide +kernel
theorem dX9_path_52 : decode cX9_path 52 = .ok (.lmul, 1) := by decide +kernel
theorem dX9_path_53 : decode cX9_path 53 = .ok (.ldc2_w 96, 3) := by decide +kernel
theorem dX9_path_56 : decode cX9_path 56 = .ok (.lload_n 2, 1) := by decide +kernel
theorem dX9_path_57 : decode cX9_path 57 = .ok (.lconst 1, 1) := by decide +kernel
theorem dX9_path_58 : decode cX9_path 58 = .ok (.ladd, 1) := by decide +kernel
theorem dX9_path_59 : decode cX9_path 59 = .ok (.lmul, 1) := by decide +kernel
theorem dX9_path_60 : decode cX9_path 60 = .ok (.lload 5, 2) := by decide +kernel
theorem dX9_path_62 : decode cX9_path 62 = .ok (.lmul, 1) := by decide +kernel
theorem dX9_path_63 : decode cX9_path 63 = .ok (.invokevirtual 109, 3) := by decide +kernel
theorem dX9_path_66 : decode cX9_path 66 = .ok (.iastore, 1) := by decide +kernel
theorem dX9_path_67 : decode cX9_path 67 = .ok (.lload_n 2, 1) := by decide +kernel
theorem dX9_path_68 : decode cX9_path 68 = .ok (.aload_n 0, 1) := by decide +kernel
theorem dX9_path_69 : decode cX9_path 69 = .ok (.getfield 38, 3) := by decide +kernel
theorem dX9_path_72 : decode cX9_path 72 = .ok (.iload 4, 2) := by decide +kernel
theorem dX9_path_74 : decode cX9_path 74 = .ok (.iaload, 1) := by decide +kernel
theorem dX9_path_75 : decode cX9_path 75 = .ok (.iconst 1, 1) := by decide +kernel
theorem dX9_path_76 : decode cX9_path 76 = .ok (.if_icmp .ne 7, 3) := by decide +kernel
theorem dX9_path_79 : decode cX9_path 79 = .ok (.lconst 1, 1) := by decide +kernel
theorem dX9_path_80 : decode cX9_path 80 = .ok (.goto 6, 3) := by decide +kernel
theorem dX9_path_83 : decode cX9_path 83 = .ok (.ldc2_w 126, 3) := by decide +kernel
theorem dX9_path_86 : decode cX9_path 86 = .ok (.ladd, 1) := by decide +kernel
theorem dX9_path_87 : decode cX9_path 87 = .ok (.lstore_n 2, 1) := by decide +kernel
theorem dX9_path_88 : decode cX9_path 88 = .ok (.iinc 4 1, 3) := by decide +kernel
theorem dX9_path_91 : decode cX9_path 91 = .ok (.goto (-79), 3) := by decide +kernel
theorem dX9_path_94 : decode cX9_path 94 = .ok (.return_, 1) := by decide +kernel
theorem dX9_below_0 : decode cX9_below 0 = .ok (.iconst 1, 1) := by decide +kernel
theorem dX9_below_1 : decode cX9_below 1 = .ok (.istore_n 2, 1) := by decide +kernel
theorem dX9_below_2 : decode cX9_below 2 = .ok (.iload_n 1, 1) := by decide +kernel
theorem dX9_below_3 : decode cX9_below 3 = .ok (.istore_n 3, 1) := by decide +kernel
theorem dX9_below_4 : decode cX9_below 4 = .ok (.iload_n 2, 1) := by decide +kernel
theorem dX9_below_5 : decode cX9_below 5 = .ok (.ifCond .le 27, 3) := by decide +kernel
theorem dX9_below_8 : decode cX9_below 8 = .ok (.iinc 3 1, 3) := by decide +kernel
theorem dX9_below_11 : decode cX9_below 11 = .ok (.iload_n 2, 1) := by decide +kernel
theorem dX9_below_12 : decode cX9_below 12 = .ok (.aload_n 0, 1) := by decide +kernel
theorem dX9_below_13 : decode cX9_below 13 = .ok (.getfield 32, 3) := by decide +kernel
theorem dX9_below_16 : decode cX9_below 16 = .ok (.iload_n 3, 1) := by decide +kernel
theorem dX9_below_17 : decode cX9_below 17 = .ok (.iaload, 1) := by decide +kernel
theorem dX9_below_18 : decode cX9_below 18 = .ok (.iconst 1, 1) := by decide +kernel
theorem dX9_below_19 : decode cX9_below 19 = .ok (.if_icmp .ne 7, 3) := by decide +kernel
theorem dX9_below_22 : decode cX9_below 22 = .ok (.iconst 1, 1) := by decide +kernel
theorem dX9_below_23 : decode cX9_below 23 = .ok (.goto 4, 3) := by decide +kernel
theorem dX9_below_26 : decode cX9_below 26 = .ok (.iconst (-1), 1) := by decide +kernel
theorem dX9_below_27 : decode cX9_below 27 = .ok (.iadd, 1) := by decide +kernel
theorem dX9_below_28 : decode cX9_below 28 = .ok (.istore_n 2, 1) := by decide +kernel
theorem dX9_below_29 : decode cX9_below 29 = .ok (.goto (-25), 3) := by decide +kernel
theorem dX9_below_32 : decode cX9_below 32 = .ok (.iload_n 3, 1) := by decide +kernel
theorem dX9_below_33 : decode cX9_below 33 = .ok (.iload_n 1, 1) := by decide +kernel
theorem dX9_below_34 : decode cX9_below 34 = .ok (.isub, 1) := by decide +kernel
theorem dX9_below_35 : decode cX9_below 35 = .ok (.iconst 1, 1) := by decide +kernel
theorem dX9_below_36 : decode cX9_below 36 = .ok (.isub, 1) := by decide +kernel
theorem dX9_below_37 : decode cX9_below 37 = .ok (.iconst 2, 1) := by decide +kernel
theorem dX9_below_38 : decode cX9_below 38 = .ok (.idiv, 1) := by decide +kernel
theorem dX9_below_39 : decode cX9_below 39 = .ok (.ireturn, 1) := by decide +kernel
theorem dX9_tree_0 : decode cX9_tree 0 = .ok (.aload_n 0, 1) := by decide +kernel
theorem dX9_tree_1 : decode cX9_tree 1 = .ok (.iload_n 1, 1) := by decide +kernel
theorem dX9_tree_2 : decode cX9_tree 2 = .ok (.invokevirtual 128, 3) := by decide +kernel
theorem dX9_tree_5 : decode cX9_tree 5 = .ok (.aload_n 0, 1) := by decide +kernel
theorem dX9_tree_6 : decode cX9_tree 6 = .ok (.getfield 77, 3) := by decide +kernel
theorem dX9_tree_9 : decode cX9_tree 9 = .ok (.ifCond .eq 4, 3) := by decide +kernel
theorem dX9_tree_12 : decode cX9_tree 12 = .ok (.return_, 1) := by decide +kernel
theorem dX9_tree_13 : decode cX9_tree 13 = .ok (.iconst 0, 1) := by decide +kernel
theorem dX9_tree_14 : decode cX9_tree 14 = .ok (.istore_n 2, 1) := by decide +kernel
theorem dX9_tree_15 : decode cX9_tree 15 = .ok (.iload_n 2, 1) := by decide +kernel
theorem dX9_tree_16 : decode cX9_tree 16 = .ok (.iconst 2, 1) := by decide +kernel
theorem dX9_tree_17 : decode cX9_tree 17 = .ok (.iload_n 1, 1) := by decide +kernel
theorem dX9_tree_18 : decode cX9_tree 18 = .ok (.imul, 1) := by decide +kernel
theorem dX9_tree_19 : decode cX9_tree 19 = .ok (.if_icmp .ge 21, 3) := by decide +kernel
theorem dX9_tree_22 : decode cX9_tree 22 = .ok (.aload_n 0, 1) := by decide +kernel
theorem dX9_tree_23 : decode cX9_tree 23 = .ok (.getfield 32, 3) := by decide +kernel
theorem dX9_tree_26 : decode cX9_tree 26 = .ok (.iload_n 2, 1) := by decide +kernel
theorem dX9_tree_27 : decode cX9_tree 27 = .ok (.aload_n 0, 1) := by decide +kernel
theorem dX9_tree_28 : decode cX9_tree 28 = .ok (.getfield 38, 3) := by decide +kernel
theorem dX9_tree_31 : decode cX9_tree 31 = .ok (.iload_n 2, 1) := by decide +kernel
theorem dX9_tree_32 : decode cX9_tree 32 = .ok (.iaload, 1) := by decide +kernel
theorem dX9_tree_33 : decode cX9_tree 33 = .ok (.iastore, 1) := by decide +kernel
theorem dX9_tree_34 : decode cX9_tree 34 = .ok (.iinc 2 1, 3) := by decide +kernel
theorem dX9_tree_37 : decode cX9_tree 37 = .ok (.goto (-22), 3) := by decide +kernel
theorem dX9_tree_40 : decode cX9_tree 40 = .ok (.aload_n 0, 1) := by decide +kernel
theorem dX9_tree_41 : decode cX9_tree 41 = .ok (.iconst 0, 1) := by decide +kernel
theorem dX9_tree_42 : decode cX9_tree 42 = .ok (.putfield 123, 3) := by decide +kernel
theorem dX9_tree_45 : decode cX9_tree 45 = .ok (.iconst 0, 1) := by decide +kernel
theorem dX9_tree_46 : decode cX9_tree 46 = .ok (.istore_n 2, 1) := by decide +kernel
theorem dX9_tree_47 : decode cX9_tree 47 = .ok (.iload_n 2, 1) := by decide +kernel
theorem dX9_tree_48 : decode cX9_tree 48 = .ok (.iconst 2, 1) := by decide +kernel
theorem dX9_tree_49 : decode cX9_tree 49 = .ok (.iload_n 1, 1) := by decide +kernel
theorem dX9_tree_50 : decode cX9_tree 50 = .ok (.imul, 1) := by decide +kernel
theorem dX9_tree_51 : decode cX9_tree 51 = .ok (.if_icmp .ge 43, 3) := by decide +kernel
theorem dX9_tree_54 : decode cX9_tree 54 = .ok (.aload_n 0, 1) := by decide +kernel
theorem dX9_tree_55 : decode cX9_tree 55 = .ok (.getfield 32, 3) := by decide +kernel
theorem dX9_tree_58 : decode cX9_tree 58 = .ok (.iload_n 2, 1) := by decide +kernel
theorem dX9_tree_59 : decode cX9_tree 59 = .ok (.iaload, 1) := by decide +kernel
theorem dX9_tree_60 : decode cX9_tree 60 = .ok (.iconst 1, 1) := by decide +kernel
theorem dX9_tree_61 : decode cX9_tree 61 = .ok (.if_icmp .ne 27, 3) := by decide +kernel
theorem dX9_tree_64 : decode cX9_tree 64 = .ok (.aload_n 0, 1) := by decide +kernel
theorem dX9_tree_65 : decode cX9_tree 65 = .ok (.getfield 38, 3) := by decide +kernel
theorem dX9_tree_68 : decode cX9_tree 68 = .ok (.aload_n 0, 1) := by decide +kernel
theorem dX9_tree_69 : decode cX9_tree 69 = .ok (.getfield 123, 3) := by decide +kernel
theorem dX9_tree_72 : decode cX9_tree 72 = .ok (.aload_n 0, 1) := by decide +kernel
theorem dX9_tree_73 : decode cX9_tree 73 = .ok (.iload_n 2, 1) := by decide +kernel
theorem dX9_tree_74 : decode cX9_tree 74 = .ok (.invokevirtual 131, 3) := by decide +kernel
theorem dX9_tree_77 : decode cX9_tree 77 = .ok (.iastore, 1) := by decide +kernel
theorem dX9_tree_78 : decode cX9_tree 78 = .ok (.aload_n 0, 1) := by decide +kernel
theorem dX9_tree_79 : decode cX9_tree 79 = .ok (.dup, 1) := by decide +kernel
theorem dX9_tree_80 : decode cX9_tree 80 = .ok (.getfield 123, 3) := by decide +kernel
theorem dX9_tree_83 : decode cX9_tree 83 = .ok (.iconst 1, 1) := by decide +kernel
theorem dX9_tree_84 : decode cX9_tree 84 = .ok (.iadd, 1) := by decide +kernel
theorem dX9_tree_85 : decode cX9_tree 85 = .ok (.putfield 123, 3) := by decide +kernel
theorem dX9_tree_88 : decode cX9_tree 88 = .ok (.iinc 2 1, 3) := by decide +kernel
theorem dX9_tree_91 : decode cX9_tree 91 = .ok (.goto (-44), 3) := by decide +kernel
theorem dX9_tree_94 : decode cX9_tree 94 = .ok (.return_, 1) := by decide +kernel
theorem dX9_stratum_0 : decode cX9_stratum 0 = .ok (.aload_n 0, 1) := by decide +kernel
theorem dX9_stratum_1 : decode cX9_stratum 1 = .ok (.iload_n 1, 1) := by decide +kernel
theorem dX9_stratum_2 : decode cX9_stratum 2 = .ok (.invokevirtual 134, 3) := by decide +kernel
theorem dX9_stratum_5 : decode cX9_stratum 5 = .ok (.iconst 0, 1) := by decide +kernel
theorem dX9_stratum_6 : decode cX9_stratum 6 = .ok (.istore_n 3, 1) := by decide +kernel
theorem dX9_stratum_7 : decode cX9_stratum 7 = .ok (.iload_n 3, 1) := by decide +kernel
theorem dX9_stratum_8 : decode cX9_stratum 8 = .ok (.iload_n 1, 1) := by decide +kernel
theorem dX9_stratum_9 : decode cX9_stratum 9 = .ok (.if_icmp .ge 23, 3) := by decide +kernel
theorem dX9_stratum_12 : decode cX9_stratum 12 = .ok (.aload_n 0, 1) := by decide +kernel
theorem dX9_stratum_13 : decode cX9_stratum 13 = .ok (.getfield 38, 3) := by decide +kernel
theorem dX9_stratum_16 : decode cX9_stratum 16 = .ok (.iload_n 3, 1) := by decide +kernel
theorem dX9_stratum_17 : decode cX9_stratum 17 = .ok (.aload_n 0, 1) := by decide +kernel
theorem dX9_stratum_18 : decode cX9_stratum 18 = .ok (.getfield 38, 3) := by decide +kernel
theorem dX9_stratum_21 : decode cX9_stratum 21 = .ok (.iload_n 3, 1) := by decide +kernel
theorem dX9_stratum_22 : decode cX9_stratum 22 = .ok (.iaload, 1) := by decide +kernel
theorem dX9_stratum_23 : decode cX9_stratum 23 = .ok (.iload_n 2, 1) := by decide +kernel
theorem dX9_stratum_24 : decode cX9_stratum 24 = .ok (.irem, 1) := by decide +kernel
theorem dX9_stratum_25 : decode cX9_stratum 25 = .ok (.iastore, 1) := by decide +kernel
theorem dX9_stratum_26 : decode cX9_stratum 26 = .ok (.iinc 3 1, 3) := by decide +kernel
theorem dX9_stratum_29 : decode cX9_stratum 29 = .ok (.goto (-22), 3) := by decide +kernel
theorem dX9_stratum_32 : decode cX9_stratum 32 = .ok (.return_, 1) := by decide +kernel
theorem dX9_makeItems_0 : decode cX9_makeItems 0 = .ok (.iload_n 1, 1) := by decide +kernel
theorem dX9_makeItems_1 : decode cX9_makeItems 1 = .ok (.bipush 9, 2) := by decide +kernel
theorem dX9_makeItems_3 : decode cX9_makeItems 3 = .ok (.if_icmp .ne 8, 3) := by decide +kernel
theorem dX9_makeItems_6 : decode cX9_makeItems 6 = .ok (.aload_n 0, 1) := by decide +kernel
theorem dX9_makeItems_7 : decode cX9_makeItems 7 = .ok (.iload_n 2, 1) := by decide +kernel
theorem dX9_makeItems_8 : decode cX9_makeItems 8 = .ok (.invokevirtual 134, 3) := by decide +kernel
theorem dX9_makeItems_11 : decode cX9_makeItems 11 = .ok (.iload_n 1, 1) := by decide +kernel
theorem dX9_makeItems_12 : decode cX9_makeItems 12 = .ok (.bipush 10, 2) := by decide +kernel
theorem dX9_makeItems_14 : decode cX9_makeItems 14 = .ok (.if_icmp .ne 9, 3) := by decide +kernel
theorem dX9_makeItems_17 : decode cX9_makeItems 17 = .ok (.aload_n 0, 1) := by decide +kernel
theorem dX9_makeItems_18 : decode cX9_makeItems 18 = .ok (.iload_n 2, 1) := by decide +kernel
theorem dX9_makeItems_19 : decode cX9_makeItems 19 = .ok (.iload_n 3, 1) := by decide +kernel
theorem dX9_makeItems_20 : decode cX9_makeItems 20 = .ok (.invokevirtual 137, 3) := by decide +kernel
theorem dX9_makeItems_23 : decode cX9_makeItems 23 = .ok (.iload_n 1, 1) := by decide +kernel
theorem dX9_makeItems_24 : decode cX9_makeItems 24 = .ok (.bipush 11, 2) := by decide +kernel
theorem dX9_makeItems_26 : decode cX9_makeItems 26 = .ok (.if_icmp .ne 8, 3) := by decide +kernel
theorem dX9_makeItems_29 : decode cX9_makeItems 29 = .ok (.aload_n 0, 1) := by decide +kernel
theorem dX9_makeItems_30 : decode cX9_makeItems 30 = .ok (.iload_n 2, 1) := by decide +kernel
theorem dX9_makeItems_31 : decode cX9_makeItems 31 = .ok (.invokevirtual 128, 3) := by decide +kernel
theorem dX9_makeItems_34 : decode cX9_makeItems 34 = .ok (.iload_n 1, 1) := by decide +kernel
theorem dX9_makeItems_35 : decode cX9_makeItems 35 = .ok (.bipush 12, 2) := by decide +kernel
theorem dX9_makeItems_37 : decode cX9_makeItems 37 = .ok (.if_icmp .ne 8, 3) := by decide +kernel
theorem dX9_makeItems_40 : decode cX9_makeItems 40 = .ok (.aload_n 0, 1) := by decide +kernel
theorem dX9_makeItems_41 : decode cX9_makeItems 41 = .ok (.iload_n 2, 1) := by decide +kernel
theorem dX9_makeItems_42 : decode cX9_makeItems 42 = .ok (.invokevirtual 141, 3) := by decide +kernel
theorem dX9_makeItems_45 : decode cX9_makeItems 45 = .ok (.iload_n 1, 1) := by decide +kernel
theorem dX9_makeItems_46 : decode cX9_makeItems 46 = .ok (.bipush 13, 2) := by decide +kernel
theorem dX9_makeItems_48 : decode cX9_makeItems 48 = .ok (.if_icmp .ne 9, 3) := by decide +kernel
theorem dX9_makeItems_51 : decode cX9_makeItems 51 = .ok (.aload_n 0, 1) := by decide +kernel
theorem dX9_makeItems_52 : decode cX9_makeItems 52 = .ok (.iload_n 2, 1) := by decide +kernel
theorem dX9_makeItems_53 : decode cX9_makeItems 53 = .ok (.iload_n 3, 1) := by decide +kernel
theorem dX9_makeItems_54 : decode cX9_makeItems 54 = .ok (.invokevirtual 144, 3) := by decide +kernel
theorem dX9_makeItems_57 : decode cX9_makeItems 57 = .ok (.aload_n 0, 1) := by decide +kernel
theorem dX9_makeItems_58 : decode cX9_makeItems 58 = .ok (.getfield 123, 3) := by decide +kernel
theorem dX9_makeItems_61 : decode cX9_makeItems 61 = .ok (.i2l, 1) := by decide +kernel
theorem dX9_makeItems_62 : decode cX9_makeItems 62 = .ok (.lreturn, 1) := by decide +kernel
theorem dX9_isChance_0 : decode cX9_isChance 0 = .ok (.iload_n 1, 1) := by decide +kernel
theorem dX9_isChance_1 : decode cX9_isChance 1 = .ok (.iconst 1, 1) := by decide +kernel
theorem dX9_isChance_2 : decode cX9_isChance 2 = .ok (.if_icmp .lt 18, 3) := by decide +kernel
theorem dX9_isChance_5 : decode cX9_isChance 5 = .ok (.iload_n 0, 1) := by decide +kernel
theorem dX9_isChance_6 : decode cX9_isChance 6 = .ok (.i2l, 1) := by decide +kernel
theorem dX9_isChance_7 : decode cX9_isChance 7 = .ok (.lconst 0, 1) := by decide +kernel
theorem dX9_isChance_8 : decode cX9_isChance 8 = .ok (.iload_n 1, 1) := by decide +kernel
theorem dX9_isChance_9 : decode cX9_isChance 9 = .ok (.i2l, 1) := by decide +kernel
theorem dX9_isChance_10 : decode cX9_isChance 10 = .ok (.invokestatic 58, 3) := by decide +kernel
theorem dX9_isChance_13 : decode cX9_isChance 13 = .ok (.ifCond .eq 7, 3) := by decide +kernel
theorem dX9_isChance_16 : decode cX9_isChance 16 = .ok (.iconst 1, 1) := by decide +kernel
theorem dX9_isChance_17 : decode cX9_isChance 17 = .ok (.goto 4, 3) := by decide +kernel
theorem dX9_isChance_20 : decode cX9_isChance 20 = .ok (.iconst 0, 1) := by decide +kernel
theorem dX9_isChance_21 : decode cX9_isChance 21 = .ok (.ireturn, 1) := by decide +kernel
theorem dX9_canBe_0 : decode cX9_canBe 0 = .ok (.iload_n 0, 1) := by decide +kernel
theorem dX9_canBe_1 : decode cX9_canBe 1 = .ok (.tableswitch 382 0 13 #[71, 81, 111, 117, 143, 169, 195, 238, 268, 294, 304, 333, 343, 353], 71) := by decide +kernel
theorem dX9_canBe_72 : decode cX9_canBe 72 = .ok (.iload_n 1, 1) := by decide +kernel
theorem dX9_canBe_73 : decode cX9_canBe 73 = .ok (.i2l, 1) := by decide +kernel
theorem dX9_canBe_74 : decode cX9_canBe 74 = .ok (.lconst 0, 1) := by decide +kernel
theorem dX9_canBe_75 : decode cX9_canBe 75 = .ok (.ldc2_w 65, 3) := by decide +kernel
theorem dX9_canBe_78 : decode cX9_canBe 78 = .ok (.invokestatic 58, 3) := by decide +kernel
theorem dX9_canBe_81 : decode cX9_canBe 81 = .ok (.ireturn, 1) := by decide +kernel
theorem dX9_canBe_82 : decode cX9_canBe 82 = .ok (.iload_n 1, 1) := by decide +kernel
theorem dX9_canBe_83 : decode cX9_canBe 83 = .ok (.ifCond .lt 27, 3) := by decide +kernel
theorem dX9_canBe_86 : decode cX9_canBe 86 = .ok (.iload_n 2, 1) := by decide +kernel
theorem dX9_canBe_87 : decode cX9_canBe 87 = .ok (.i2l, 1) := by decide +kernel
theorem dX9_canBe_88 : decode cX9_canBe 88 = .ok (.lconst 0, 1) := by decide +kernel
theorem dX9_canBe_89 : decode cX9_canBe 89 = .ok (.ldc2_w 147, 3) := by decide +kernel
theorem dX9_canBe_92 : decode cX9_canBe 92 = .ok (.invokestatic 58, 3) := by decide +kernel
theorem dX9_canBe_95 : decode cX9_canBe 95 = .ok (.ifCond .eq 15, 3) := by decide +kernel
theorem dX9_canBe_98 : decode cX9_canBe 98 = .ok (.iload_n 1, 1) := by decide +kernel
theorem dX9_canBe_99 : decode cX9_canBe 99 = .ok (.ifCond .gt 7, 3) := by decide +kernel
theorem dX9_canBe_102 : decode cX9_canBe 102 = .ok (.iload_n 2, 1) := by decide +kernel
theorem dX9_canBe_103 : decode cX9_canBe 103 = .ok (.ifCond .le 7, 3) := by decide +kernel
theorem dX9_canBe_106 : decode cX9_canBe 106 = .ok (.iconst 1, 1) := by decide +kernel
theorem dX9_canBe_107 : decode cX9_canBe 107 = .ok (.goto 4, 3) := by decide +kernel
theorem dX9_canBe_110 : decode cX9_canBe 110 = .ok (.iconst 0, 1) := by decide +kernel
theorem dX9_canBe_111 : decode cX9_canBe 111 = .ok (.ireturn, 1) := by decide +kernel
theorem dX9_canBe_112 : decode cX9_canBe 112 = .ok (.iload_n 1, 1) := by decide +kernel
theorem dX9_canBe_113 : decode cX9_canBe 113 = .ok (.iload_n 2, 1) := by decide +kernel
theorem dX9_canBe_114 : decode cX9_canBe 114 = .ok (.invokestatic 149, 3) := by decide +kernel
theorem dX9_canBe_117 : decode cX9_canBe 117 = .ok (.ireturn, 1) := by decide +kernel
theorem dX9_canBe_118 : decode cX9_canBe 118 = .ok (.iload_n 1, 1) := by decide +kernel
theorem dX9_canBe_119 : decode cX9_canBe 119 = .ok (.i2l, 1) := by decide +kernel
theorem dX9_canBe_120 : decode cX9_canBe 120 = .ok (.lconst 0, 1) := by decide +kernel
theorem dX9_canBe_121 : decode cX9_canBe 121 = .ok (.ldc2_w 153, 3) := by decide +kernel
theorem dX9_canBe_124 : decode cX9_canBe 124 = .ok (.invokestatic 58, 3) := by decide +kernel
theorem dX9_canBe_127 : decode cX9_canBe 127 = .ok (.ifCond .eq 15, 3) := by decide +kernel
theorem dX9_canBe_130 : decode cX9_canBe 130 = .ok (.iload_n 2, 1) := by decide +kernel
theorem dX9_canBe_131 : decode cX9_canBe 131 = .ok (.iload_n 3, 1) := by decide +kernel
theorem dX9_canBe_132 : decode cX9_canBe 132 = .ok (.invokestatic 149, 3) := by decide +kernel
theorem dX9_canBe_135 : decode cX9_canBe 135 = .ok (.ifCond .eq 7, 3) := by decide +kernel
theorem dX9_canBe_138 : decode cX9_canBe 138 = .ok (.iconst 1, 1) := by decide +kernel
theorem dX9_canBe_139 : decode cX9_canBe 139 = .ok (.goto 4, 3) := by decide +kernel
theorem dX9_canBe_142 : decode cX9_canBe 142 = .ok (.iconst 0, 1) := by decide +kernel
theorem dX9_canBe_143 : decode cX9_canBe 143 = .ok (.ireturn, 1) := by decide +kernel
theorem dX9_canBe_144 : decode cX9_canBe 144 = .ok (.iload_n 1, 1) := by decide +kernel
theorem dX9_canBe_145 : decode cX9_canBe 145 = .ok (.iload_n 2, 1) := by decide +kernel
theorem dX9_canBe_146 : decode cX9_canBe 146 = .ok (.invokestatic 149, 3) := by decide +kernel
theorem dX9_canBe_149 : decode cX9_canBe 149 = .ok (.ifCond .eq 19, 3) := by decide +kernel
theorem dX9_canBe_152 : decode cX9_canBe 152 = .ok (.iload_n 3, 1) := by decide +kernel
theorem dX9_canBe_153 : decode cX9_canBe 153 = .ok (.i2l, 1) := by decide +kernel
theorem dX9_canBe_154 : decode cX9_canBe 154 = .ok (.lconst 0, 1) := by decide +kernel
theorem dX9_canBe_155 : decode cX9_canBe 155 = .ok (.ldc2_w 155, 3) := by decide +kernel
theorem dX9_canBe_158 : decode cX9_canBe 158 = .ok (.invokestatic 58, 3) := by decide +kernel
theorem dX9_canBe_161 : decode cX9_canBe 161 = .ok (.ifCond .eq 7, 3) := by decide +kernel
theorem dX9_canBe_164 : decode cX9_canBe 164 = .ok (.iconst 1, 1) := by decide +kernel
theorem dX9_canBe_165 : decode cX9_canBe 165 = .ok (.goto 4, 3) := by decide +kernel
theorem dX9_canBe_168 : decode cX9_canBe 168 = .ok (.iconst 0, 1) := by decide +kernel
theorem dX9_canBe_169 : decode cX9_canBe 169 = .ok (.ireturn, 1) := by decide +kernel
theorem dX9_canBe_170 : decode cX9_canBe 170 = .ok (.iload_n 2, 1) := by decide +kernel
theorem dX9_canBe_171 : decode cX9_canBe 171 = .ok (.iconst 1, 1) := by decide +kernel
theorem dX9_canBe_172 : decode cX9_canBe 172 = .ok (.if_icmp .lt 22, 3) := by decide +kernel
theorem dX9_canBe_175 : decode cX9_canBe 175 = .ok (.iload_n 1, 1) := by decide +kernel
theorem dX9_canBe_176 : decode cX9_canBe 176 = .ok (.i2l, 1) := by decide +kernel
theorem dX9_canBe_177 : decode cX9_canBe 177 = .ok (.lconst 0, 1) := by decide +kernel
theorem dX9_canBe_178 : decode cX9_canBe 178 = .ok (.ldc2_w 157, 3) := by decide +kernel
theorem dX9_canBe_181 : decode cX9_canBe 181 = .ok (.iload_n 2, 1) := by decide +kernel
theorem dX9_canBe_182 : decode cX9_canBe 182 = .ok (.i2l, 1) := by decide +kernel
theorem dX9_canBe_183 : decode cX9_canBe 183 = .ok (.lmul, 1) := by decide +kernel
theorem dX9_canBe_184 : decode cX9_canBe 184 = .ok (.invokestatic 58, 3) := by decide +kernel
theorem dX9_canBe_187 : decode cX9_canBe 187 = .ok (.ifCond .eq 7, 3) := by decide +kernel
theorem dX9_canBe_190 : decode cX9_canBe 190 = .ok (.iconst 1, 1) := by decide +kernel
theorem dX9_canBe_191 : decode cX9_canBe 191 = .ok (.goto 4, 3) := by decide +kernel
theorem dX9_canBe_194 : decode cX9_canBe 194 = .ok (.iconst 0, 1) := by decide +kernel
theorem dX9_canBe_195 : decode cX9_canBe 195 = .ok (.ireturn, 1) := by decide +kernel
theorem dX9_canBe_196 : decode cX9_canBe 196 = .ok (.iload_n 1, 1) := by decide +kernel
theorem dX9_canBe_197 : decode cX9_canBe 197 = .ok (.i2l, 1) := by decide +kernel
theorem dX9_canBe_198 : decode cX9_canBe 198 = .ok (.lconst 0, 1) := by decide +kernel
theorem dX9_canBe_199 : decode cX9_canBe 199 = .ok (.ldc2_w 155, 3) := by decide +kernel
theorem dX9_canBe_202 : decode cX9_canBe 202 = .ok (.invokestatic 58, 3) := by decide +kernel
theorem dX9_canBe_205 : decode cX9_canBe 205 = .ok (.ifCond .eq 32, 3) := by decide +kernel
theorem dX9_canBe_208 : decode cX9_canBe 208 = .ok (.iload_n 2, 1) := by decide +kernel
theorem dX9_canBe_209 : decode cX9_canBe 209 = .ok (.i2l, 1) := by decide +kernel
theorem dX9_canBe_210 : decode cX9_canBe 210 = .ok (.lconst 0, 1) := by decide +kernel
theorem dX9_canBe_211 : decode cX9_canBe 211 = .ok (.ldc2_w 155, 3) := by decide +kernel
theorem dX9_canBe_214 : decode cX9_canBe 214 = .ok (.invokestatic 58, 3) := by decide +kernel
theorem dX9_canBe_217 : decode cX9_canBe 217 = .ok (.ifCond .eq 20, 3) := by decide +kernel
theorem dX9_canBe_220 : decode cX9_canBe 220 = .ok (.iload_n 3, 1) := by decide +kernel
theorem dX9_canBe_221 : decode cX9_canBe 221 = .ok (.i2l, 1) := by decide +kernel
theorem dX9_canBe_222 : decode cX9_canBe 222 = .ok (.lconst 0, 1) := by decide +kernel
theorem dX9_canBe_223 : decode cX9_canBe 223 = .ok (.iload_n 1, 1) := by decide +kernel
theorem dX9_canBe_224 : decode cX9_canBe 224 = .ok (.iload_n 2, 1) := by decide +kernel
theorem dX9_canBe_225 : decode cX9_canBe 225 = .ok (.iadd, 1) := by decide +kernel
theorem dX9_canBe_226 : decode cX9_canBe 226 = .ok (.i2l, 1) := by decide +kernel
theorem dX9_canBe_227 : decode cX9_canBe 227 = .ok (.invokestatic 58, 3) := by decide +kernel
theorem dX9_canBe_230 : decode cX9_canBe 230 = .ok (.ifCond .eq 7, 3) := by decide +kernel
theorem dX9_canBe_233 : decode cX9_canBe 233 = .ok (.iconst 1, 1) := by decide +kernel
theorem dX9_canBe_234 : decode cX9_canBe 234 = .ok (.goto 4, 3) := by decide +kernel
theorem dX9_canBe_237 : decode cX9_canBe 237 = .ok (.iconst 0, 1) := by decide +kernel
theorem dX9_canBe_238 : decode cX9_canBe 238 = .ok (.ireturn, 1) := by decide +kernel
theorem dX9_canBe_239 : decode cX9_canBe 239 = .ok (.iload_n 1, 1) := by decide +kernel
theorem dX9_canBe_240 : decode cX9_canBe 240 = .ok (.i2l, 1) := by decide +kernel
theorem dX9_canBe_241 : decode cX9_canBe 241 = .ok (.lconst 1, 1) := by decide +kernel
theorem dX9_canBe_242 : decode cX9_canBe 242 = .ok (.ldc2_w 153, 3) := by decide +kernel
theorem dX9_canBe_245 : decode cX9_canBe 245 = .ok (.invokestatic 58, 3) := by decide +kernel
theorem dX9_canBe_248 : decode cX9_canBe 248 = .ok (.ifCond .eq 19, 3) := by decide +kernel
theorem dX9_canBe_251 : decode cX9_canBe 251 = .ok (.iload_n 2, 1) := by decide +kernel
theorem dX9_canBe_252 : decode cX9_canBe 252 = .ok (.i2l, 1) := by decide +kernel
theorem dX9_canBe_253 : decode cX9_canBe 253 = .ok (.lconst 1, 1) := by decide +kernel
theorem dX9_canBe_254 : decode cX9_canBe 254 = .ok (.ldc2_w 159, 3) := by decide +kernel
theorem dX9_canBe_257 : decode cX9_canBe 257 = .ok (.invokestatic 58, 3) := by decide +kernel
theorem dX9_canBe_260 : decode cX9_canBe 260 = .ok (.ifCond .eq 7, 3) := by decide +kernel
theorem dX9_canBe_263 : decode cX9_canBe 263 = .ok (.iconst 1, 1) := by decide +kernel
theorem dX9_canBe_264 : decode cX9_canBe 264 = .ok (.goto 4, 3) := by decide +kernel
theorem dX9_canBe_267 : decode cX9_canBe 267 = .ok (.iconst 0, 1) := by decide +kernel
theorem dX9_canBe_268 : decode cX9_canBe 268 = .ok (.ireturn, 1) := by decide +kernel
theorem dX9_canBe_269 : decode cX9_canBe 269 = .ok (.iload_n 2, 1) := by decide +kernel
theorem dX9_canBe_270 : decode cX9_canBe 270 = .ok (.iconst 1, 1) := by decide +kernel
theorem dX9_canBe_271 : decode cX9_canBe 271 = .ok (.if_icmp .lt 22, 3) := by decide +kernel
theorem dX9_canBe_274 : decode cX9_canBe 274 = .ok (.iload_n 1, 1) := by decide +kernel
theorem dX9_canBe_275 : decode cX9_canBe 275 = .ok (.i2l, 1) := by decide +kernel
theorem dX9_canBe_276 : decode cX9_canBe 276 = .ok (.lconst 0, 1) := by decide +kernel
theorem dX9_canBe_277 : decode cX9_canBe 277 = .ok (.ldc2_w 153, 3) := by decide +kernel
theorem dX9_canBe_280 : decode cX9_canBe 280 = .ok (.iload_n 2, 1) := by decide +kernel
theorem dX9_canBe_281 : decode cX9_canBe 281 = .ok (.i2l, 1) := by decide +kernel
theorem dX9_canBe_282 : decode cX9_canBe 282 = .ok (.lmul, 1) := by decide +kernel
theorem dX9_canBe_283 : decode cX9_canBe 283 = .ok (.invokestatic 58, 3) := by decide +kernel
theorem dX9_canBe_286 : decode cX9_canBe 286 = .ok (.ifCond .eq 7, 3) := by decide +kernel
theorem dX9_canBe_289 : decode cX9_canBe 289 = .ok (.iconst 1, 1) := by decide +kernel
theorem dX9_canBe_290 : decode cX9_canBe 290 = .ok (.goto 4, 3) := by decide +kernel
theorem dX9_canBe_293 : decode cX9_canBe 293 = .ok (.iconst 0, 1) := by decide +kernel
theorem dX9_canBe_294 : decode cX9_canBe 294 = .ok (.ireturn, 1) := by decide +kernel
theorem dX9_canBe_295 : decode cX9_canBe 295 = .ok (.iload_n 1, 1) := by decide +kernel
theorem dX9_canBe_296 : decode cX9_canBe 296 = .ok (.i2l, 1) := by decide +kernel
theorem dX9_canBe_297 : decode cX9_canBe 297 = .ok (.lconst 0, 1) := by decide +kernel
theorem dX9_canBe_298 : decode cX9_canBe 298 = .ok (.ldc2_w 161, 3) := by decide +kernel
theorem dX9_canBe_301 : decode cX9_canBe 301 = .ok (.invokestatic 58, 3) := by decide +kernel
theorem dX9_canBe_304 : decode cX9_canBe 304 = .ok (.ireturn, 1) := by decide +kernel
theorem dX9_canBe_305 : decode cX9_canBe 305 = .ok (.iload_n 1, 1) := by decide +kernel
theorem dX9_canBe_306 : decode cX9_canBe 306 = .ok (.i2l, 1) := by decide +kernel
theorem dX9_canBe_307 : decode cX9_canBe 307 = .ok (.lconst 0, 1) := by decide +kernel
theorem dX9_canBe_308 : decode cX9_canBe 308 = .ok (.ldc2_w 161, 3) := by decide +kernel
theorem dX9_canBe_311 : decode cX9_canBe 311 = .ok (.invokestatic 58, 3) := by decide +kernel
theorem dX9_canBe_314 : decode cX9_canBe 314 = .ok (.ifCond .eq 18, 3) := by decide +kernel
theorem dX9_canBe_317 : decode cX9_canBe 317 = .ok (.iload_n 2, 1) := by decide +kernel
theorem dX9_canBe_318 : decode cX9_canBe 318 = .ok (.i2l, 1) := by decide +kernel
theorem dX9_canBe_319 : decode cX9_canBe 319 = .ok (.lconst 0, 1) := by decide +kernel
theorem dX9_canBe_320 : decode cX9_canBe 320 = .ok (.iload_n 1, 1) := by decide +kernel
theorem dX9_canBe_321 : decode cX9_canBe 321 = .ok (.i2l, 1) := by decide +kernel
theorem dX9_canBe_322 : decode cX9_canBe 322 = .ok (.invokestatic 58, 3) := by decide +kernel
theorem dX9_canBe_325 : decode cX9_canBe 325 = .ok (.ifCond .eq 7, 3) := by decide +kernel
theorem dX9_canBe_328 : decode cX9_canBe 328 = .ok (.iconst 1, 1) := by decide +kernel
theorem dX9_canBe_329 : decode cX9_canBe 329 = .ok (.goto 4, 3) := by decide +kernel
theorem dX9_canBe_332 : decode cX9_canBe 332 = .ok (.iconst 0, 1) := by decide +kernel
theorem dX9_canBe_333 : decode cX9_canBe 333 = .ok (.ireturn, 1) := by decide +kernel
theorem dX9_canBe_334 : decode cX9_canBe 334 = .ok (.iload_n 1, 1) := by decide +kernel
theorem dX9_canBe_335 : decode cX9_canBe 335 = .ok (.i2l, 1) := by decide +kernel
theorem dX9_canBe_336 : decode cX9_canBe 336 = .ok (.lconst 0, 1) := by decide +kernel
theorem dX9_canBe_337 : decode cX9_canBe 337 = .ok (.ldc2_w 163, 3) := by decide +kernel
theorem dX9_canBe_340 : decode cX9_canBe 340 = .ok (.invokestatic 58, 3) := by decide +kernel
theorem dX9_canBe_343 : decode cX9_canBe 343 = .ok (.ireturn, 1) := by decide +kernel
theorem dX9_canBe_344 : decode cX9_canBe 344 = .ok (.iload_n 1, 1) := by decide +kernel
theorem dX9_canBe_345 : decode cX9_canBe 345 = .ok (.i2l, 1) := by decide +kernel
theorem dX9_canBe_346 : decode cX9_canBe 346 = .ok (.lconst 0, 1) := by decide +kernel
theorem dX9_canBe_347 : decode cX9_canBe 347 = .ok (.ldc2_w 163, 3) := by decide +kernel
theorem dX9_canBe_350 : decode cX9_canBe 350 = .ok (.invokestatic 58, 3) := by decide +kernel
theorem dX9_canBe_353 : decode cX9_canBe 353 = .ok (.ireturn, 1) := by decide +kernel
theorem dX9_canBe_354 : decode cX9_canBe 354 = .ok (.iload_n 1, 1) := by decide +kernel
theorem dX9_canBe_355 : decode cX9_canBe 355 = .ok (.i2l, 1) := by decide +kernel
theorem dX9_canBe_356 : decode cX9_canBe 356 = .ok (.lconst 0, 1) := by decide +kernel
theorem dX9_canBe_357 : decode cX9_canBe 357 = .ok (.ldc2_w 161, 3) := by decide +kernel
theorem dX9_canBe_360 : decode cX9_canBe 360 = .ok (.invokestatic 58, 3) := by decide +kernel
theorem dX9_canBe_363 : decode cX9_canBe 363 = .ok (.ifCond .eq 18, 3) := by decide +kernel
theorem dX9_canBe_366 : decode cX9_canBe 366 = .ok (.iload_n 2, 1) := by decide +kernel
theorem dX9_canBe_367 : decode cX9_canBe 367 = .ok (.iconst 1, 1) := by decide +kernel
theorem dX9_canBe_368 : decode cX9_canBe 368 = .ok (.if_icmp .lt 13, 3) := by decide +kernel
theorem dX9_canBe_371 : decode cX9_canBe 371 = .ok (.iload_n 1, 1) := by decide +kernel
theorem dX9_canBe_372 : decode cX9_canBe 372 = .ok (.iload_n 2, 1) := by decide +kernel
theorem dX9_canBe_373 : decode cX9_canBe 373 = .ok (.irem, 1) := by decide +kernel
theorem dX9_canBe_374 : decode cX9_canBe 374 = .ok (.ifCond .ne 7, 3) := by decide +kernel
theorem dX9_canBe_377 : decode cX9_canBe 377 = .ok (.iconst 1, 1) := by decide +kernel
theorem dX9_canBe_378 : decode cX9_canBe 378 = .ok (.goto 4, 3) := by decide +kernel
theorem dX9_canBe_381 : decode cX9_canBe 381 = .ok (.iconst 0, 1) := by decide +kernel
theorem dX9_canBe_382 : decode cX9_canBe 382 = .ok (.ireturn, 1) := by decide +kernel
theorem dX9_canBe_383 : decode cX9_canBe 383 = .ok (.iconst 0, 1) := by decide +kernel
theorem dX9_canBe_384 : decode cX9_canBe 384 = .ok (.ireturn, 1) := by decide +kernel
theorem dX9_isReady_0 : decode cX9_isReady 0 = .ok (.iload_n 1, 1) := by decide +kernel
theorem dX9_isReady_1 : decode cX9_isReady 1 = .ok (.ifCond .ne 12, 3) := by decide +kernel
theorem dX9_isReady_4 : decode cX9_isReady 4 = .ok (.aload_n 0, 1) := by decide +kernel
theorem dX9_isReady_5 : decode cX9_isReady 5 = .ok (.getfield 17, 3) := by decide +kernel
theorem dX9_isReady_8 : decode cX9_isReady 8 = .ok (.iload_n 2, 1) := by decide +kernel
theorem dX9_isReady_9 : decode cX9_isReady 9 = .ok (.iaload, 1) := by decide +kernel
theorem dX9_isReady_10 : decode cX9_isReady 10 = .ok (.ifCond .le 7, 3) := by decide +kernel
theorem dX9_isReady_13 : decode cX9_isReady 13 = .ok (.iconst 1, 1) := by decide +kernel
theorem dX9_isReady_14 : decode cX9_isReady 14 = .ok (.goto 4, 3) := by decide +kernel
theorem dX9_isReady_17 : decode cX9_isReady 17 = .ok (.iconst 0, 1) := by decide +kernel
theorem dX9_isReady_18 : decode cX9_isReady 18 = .ok (.ireturn, 1) := by decide +kernel
theorem dX9_go_0 : decode cX9_go 0 = .ok (.aload_n 0, 1) := by decide +kernel
theorem dX9_go_1 : decode cX9_go 1 = .ok (.iload 5, 2) := by decide +kernel
theorem dX9_go_3 : decode cX9_go 3 = .ok (.putfield 81, 3) := by decide +kernel
theorem dX9_go_6 : decode cX9_go 6 = .ok (.aload_n 0, 1) := by decide +kernel
theorem dX9_go_7 : decode cX9_go 7 = .ok (.iconst 0, 1) := by decide +kernel
theorem dX9_go_8 : decode cX9_go 8 = .ok (.putfield 93, 3) := by decide +kernel
theorem dX9_go_11 : decode cX9_go 11 = .ok (.aload_n 0, 1) := by decide +kernel
theorem dX9_go_12 : decode cX9_go 12 = .ok (.iconst 0, 1) := by decide +kernel
theorem dX9_go_13 : decode cX9_go 13 = .ok (.putfield 77, 3) := by decide +kernel
theorem dX9_go_16 : decode cX9_go 16 = .ok (.iload_n 1, 1) := by decide +kernel
theorem dX9_go_17 : decode cX9_go 17 = .ok (.ifCond .ne 9, 3) := by decide +kernel
theorem dX9_go_20 : decode cX9_go 20 = .ok (.aload_n 0, 1) := by decide +kernel
theorem dX9_go_21 : decode cX9_go 21 = .ok (.iload_n 2, 1) := by decide +kernel
theorem dX9_go_22 : decode cX9_go 22 = .ok (.invokevirtual 165, 3) := by decide +kernel
theorem dX9_go_25 : decode cX9_go 25 = .ok (.lreturn, 1) := by decide +kernel
theorem dX9_go_26 : decode cX9_go 26 = .ok (.iload_n 1, 1) := by decide +kernel
theorem dX9_go_27 : decode cX9_go 27 = .ok (.iconst 1, 1) := by decide +kernel
theorem dX9_go_28 : decode cX9_go 28 = .ok (.if_icmp .ne 17, 3) := by decide +kernel
theorem dX9_go_31 : decode cX9_go 31 = .ok (.aload_n 0, 1) := by decide +kernel
theorem dX9_go_32 : decode cX9_go 32 = .ok (.iload_n 2, 1) := by decide +kernel
theorem dX9_go_33 : decode cX9_go 33 = .ok (.i2l, 1) := by decide +kernel
theorem dX9_go_34 : decode cX9_go 34 = .ok (.ldc2_w 168, 3) := by decide +kernel
theorem dX9_go_37 : decode cX9_go 37 = .ok (.iload_n 3, 1) := by decide +kernel
theorem dX9_go_38 : decode cX9_go 38 = .ok (.i2l, 1) := by decide +kernel
theorem dX9_go_39 : decode cX9_go 39 = .ok (.lmul, 1) := by decide +kernel
theorem dX9_go_40 : decode cX9_go 40 = .ok (.ladd, 1) := by decide +kernel
theorem dX9_go_41 : decode cX9_go 41 = .ok (.invokevirtual 105, 3) := by decide +kernel
theorem dX9_go_44 : decode cX9_go 44 = .ok (.lreturn, 1) := by decide +kernel
theorem dX9_go_45 : decode cX9_go 45 = .ok (.iload_n 1, 1) := by decide +kernel
theorem dX9_go_46 : decode cX9_go 46 = .ok (.iconst 2, 1) := by decide +kernel
theorem dX9_go_47 : decode cX9_go 47 = .ok (.if_icmp .ne 13, 3) := by decide +kernel
theorem dX9_go_50 : decode cX9_go 50 = .ok (.aload_n 0, 1) := by decide +kernel
theorem dX9_go_51 : decode cX9_go 51 = .ok (.iload_n 2, 1) := by decide +kernel
theorem dX9_go_52 : decode cX9_go 52 = .ok (.i2l, 1) := by decide +kernel
theorem dX9_go_53 : decode cX9_go 53 = .ok (.iload_n 3, 1) := by decide +kernel
theorem dX9_go_54 : decode cX9_go 54 = .ok (.i2l, 1) := by decide +kernel
theorem dX9_go_55 : decode cX9_go 55 = .ok (.invokevirtual 109, 3) := by decide +kernel
theorem dX9_go_58 : decode cX9_go 58 = .ok (.i2l, 1) := by decide +kernel
theorem dX9_go_59 : decode cX9_go 59 = .ok (.lreturn, 1) := by decide +kernel
theorem dX9_go_60 : decode cX9_go 60 = .ok (.iload_n 1, 1) := by decide +kernel
theorem dX9_go_61 : decode cX9_go 61 = .ok (.iconst 3, 1) := by decide +kernel
theorem dX9_go_62 : decode cX9_go 62 = .ok (.if_icmp .ne 12, 3) := by decide +kernel
theorem dX9_go_65 : decode cX9_go 65 = .ok (.aload_n 0, 1) := by decide +kernel
theorem dX9_go_66 : decode cX9_go 66 = .ok (.iload_n 2, 1) := by decide +kernel
theorem dX9_go_67 : decode cX9_go 67 = .ok (.iload_n 3, 1) := by decide +kernel
theorem dX9_go_68 : decode cX9_go 68 = .ok (.iload 4, 2) := by decide +kernel
theorem dX9_go_70 : decode cX9_go 70 = .ok (.invokevirtual 170, 3) := by decide +kernel
theorem dX9_go_73 : decode cX9_go 73 = .ok (.lreturn, 1) := by decide +kernel
theorem dX9_go_74 : decode cX9_go 74 = .ok (.iload_n 1, 1) := by decide +kernel
theorem dX9_go_75 : decode cX9_go 75 = .ok (.iconst 4, 1) := by decide +kernel
theorem dX9_go_76 : decode cX9_go 76 = .ok (.if_icmp .ne 12, 3) := by decide +kernel
theorem dX9_go_79 : decode cX9_go 79 = .ok (.aload_n 0, 1) := by decide +kernel
theorem dX9_go_80 : decode cX9_go 80 = .ok (.iload_n 2, 1) := by decide +kernel
theorem dX9_go_81 : decode cX9_go 81 = .ok (.iload_n 3, 1) := by decide +kernel
theorem dX9_go_82 : decode cX9_go 82 = .ok (.iload 4, 2) := by decide +kernel
theorem dX9_go_84 : decode cX9_go 84 = .ok (.invokevirtual 174, 3) := by decide +kernel
theorem dX9_go_87 : decode cX9_go 87 = .ok (.lreturn, 1) := by decide +kernel
theorem dX9_go_88 : decode cX9_go 88 = .ok (.iload_n 1, 1) := by decide +kernel
theorem dX9_go_89 : decode cX9_go 89 = .ok (.iconst 5, 1) := by decide +kernel
theorem dX9_go_90 : decode cX9_go 90 = .ok (.if_icmp .ne 12, 3) := by decide +kernel
theorem dX9_go_93 : decode cX9_go 93 = .ok (.aload_n 0, 1) := by decide +kernel
theorem dX9_go_94 : decode cX9_go 94 = .ok (.iload_n 2, 1) := by decide +kernel
theorem dX9_go_95 : decode cX9_go 95 = .ok (.i2l, 1) := by decide +kernel
theorem dX9_go_96 : decode cX9_go 96 = .ok (.iload_n 3, 1) := by decide +kernel
theorem dX9_go_97 : decode cX9_go 97 = .ok (.i2l, 1) := by decide +kernel
theorem dX9_go_98 : decode cX9_go 98 = .ok (.invokevirtual 177, 3) := by decide +kernel
theorem dX9_go_101 : decode cX9_go 101 = .ok (.lreturn, 1) := by decide +kernel
theorem dX9_go_102 : decode cX9_go 102 = .ok (.iload_n 1, 1) := by decide +kernel
theorem dX9_go_103 : decode cX9_go 103 = .ok (.bipush 6, 2) := by decide +kernel
theorem dX9_go_105 : decode cX9_go 105 = .ok (.if_icmp .ne 12, 3) := by decide +kernel
theorem dX9_go_108 : decode cX9_go 108 = .ok (.aload_n 0, 1) := by decide +kernel
theorem dX9_go_109 : decode cX9_go 109 = .ok (.iload_n 2, 1) := by decide +kernel
theorem dX9_go_110 : decode cX9_go 110 = .ok (.iload_n 3, 1) := by decide +kernel
theorem dX9_go_111 : decode cX9_go 111 = .ok (.iload 4, 2) := by decide +kernel
theorem dX9_go_113 : decode cX9_go 113 = .ok (.invokevirtual 180, 3) := by decide +kernel
theorem dX9_go_116 : decode cX9_go 116 = .ok (.lreturn, 1) := by decide +kernel
theorem dX9_go_117 : decode cX9_go 117 = .ok (.iload_n 1, 1) := by decide +kernel
theorem dX9_go_118 : decode cX9_go 118 = .ok (.bipush 7, 2) := by decide +kernel
theorem dX9_go_120 : decode cX9_go 120 = .ok (.if_icmp .ne 12, 3) := by decide +kernel
theorem dX9_go_123 : decode cX9_go 123 = .ok (.aload_n 0, 1) := by decide +kernel
theorem dX9_go_124 : decode cX9_go 124 = .ok (.iload_n 2, 1) := by decide +kernel
theorem dX9_go_125 : decode cX9_go 125 = .ok (.i2l, 1) := by decide +kernel
theorem dX9_go_126 : decode cX9_go 126 = .ok (.iload_n 3, 1) := by decide +kernel
theorem dX9_go_127 : decode cX9_go 127 = .ok (.i2l, 1) := by decide +kernel
theorem dX9_go_128 : decode cX9_go 128 = .ok (.invokevirtual 183, 3) := by decide +kernel
theorem dX9_go_131 : decode cX9_go 131 = .ok (.lreturn, 1) := by decide +kernel
theorem dX9_go_132 : decode cX9_go 132 = .ok (.iload_n 1, 1) := by decide +kernel
theorem dX9_go_133 : decode cX9_go 133 = .ok (.bipush 8, 2) := by decide +kernel
theorem dX9_go_135 : decode cX9_go 135 = .ok (.if_icmp .ne 13, 3) := by decide +kernel
theorem dX9_go_138 : decode cX9_go 138 = .ok (.aload_n 0, 1) := by decide +kernel
theorem dX9_go_139 : decode cX9_go 139 = .ok (.iload_n 2, 1) := by decide +kernel
theorem dX9_go_140 : decode cX9_go 140 = .ok (.i2l, 1) := by decide +kernel
theorem dX9_go_141 : decode cX9_go 141 = .ok (.iload_n 3, 1) := by decide +kernel
theorem dX9_go_142 : decode cX9_go 142 = .ok (.i2l, 1) := by decide +kernel
theorem dX9_go_143 : decode cX9_go 143 = .ok (.invokevirtual 120, 3) := by decide +kernel
theorem dX9_go_146 : decode cX9_go 146 = .ok (.i2l, 1) := by decide +kernel
theorem dX9_go_147 : decode cX9_go 147 = .ok (.lreturn, 1) := by decide +kernel
theorem dX9_go_148 : decode cX9_go 148 = .ok (.aload_n 0, 1) := by decide +kernel
theorem dX9_go_149 : decode cX9_go 149 = .ok (.iload_n 1, 1) := by decide +kernel
theorem dX9_go_150 : decode cX9_go 150 = .ok (.iload_n 2, 1) := by decide +kernel
theorem dX9_go_151 : decode cX9_go 151 = .ok (.iload_n 3, 1) := by decide +kernel
theorem dX9_go_152 : decode cX9_go 152 = .ok (.invokevirtual 186, 3) := by decide +kernel
theorem dX9_go_155 : decode cX9_go 155 = .ok (.lreturn, 1) := by decide +kernel
theorem dX9_sumOfItems_0 : decode cX9_sumOfItems 0 = .ok (.lconst 0, 1) := by decide +kernel
theorem dX9_sumOfItems_1 : decode cX9_sumOfItems 1 = .ok (.lstore_n 2, 1) := by decide +kernel
theorem dX9_sumOfItems_2 : decode cX9_sumOfItems 2 = .ok (.iconst 0, 1) := by decide +kernel
theorem dX9_sumOfItems_3 : decode cX9_sumOfItems 3 = .ok (.istore 4, 2) := by decide +kernel
theorem dX9_sumOfItems_5 : decode cX9_sumOfItems 5 = .ok (.iload 4, 2) := by decide +kernel
theorem dX9_sumOfItems_7 : decode cX9_sumOfItems 7 = .ok (.aload_n 0, 1) := by decide +kernel
theorem dX9_sumOfItems_8 : decode cX9_sumOfItems 8 = .ok (.getfield 123, 3) := by decide +kernel
theorem dX9_sumOfItems_11 : decode cX9_sumOfItems 11 = .ok (.if_icmp .ge 36, 3) := by decide +kernel
theorem dX9_sumOfItems_14 : decode cX9_sumOfItems 14 = .ok (.iload_n 1, 1) := by decide +kernel
theorem dX9_sumOfItems_15 : decode cX9_sumOfItems 15 = .ok (.bipush 8, 2) := by decide +kernel
theorem dX9_sumOfItems_17 : decode cX9_sumOfItems 17 = .ok (.if_icmp .le 30, 3) := by decide +kernel
theorem dX9_sumOfItems_20 : decode cX9_sumOfItems 20 = .ok (.lload_n 2, 1) := by decide +kernel
theorem dX9_sumOfItems_21 : decode cX9_sumOfItems 21 = .ok (.iload 4, 2) := by decide +kernel
theorem dX9_sumOfItems_23 : decode cX9_sumOfItems 23 = .ok (.i2l, 1) := by decide +kernel
theorem dX9_sumOfItems_24 : decode cX9_sumOfItems 24 = .ok (.lconst 1, 1) := by decide +kernel
theorem dX9_sumOfItems_25 : decode cX9_sumOfItems 25 = .ok (.ladd, 1) := by decide +kernel
theorem dX9_sumOfItems_26 : decode cX9_sumOfItems 26 = .ok (.aload_n 0, 1) := by decide +kernel
theorem dX9_sumOfItems_27 : decode cX9_sumOfItems 27 = .ok (.getfield 38, 3) := by decide +kernel
theorem dX9_sumOfItems_30 : decode cX9_sumOfItems 30 = .ok (.iload 4, 2) := by decide +kernel
theorem dX9_sumOfItems_32 : decode cX9_sumOfItems 32 = .ok (.iaload, 1) := by decide +kernel
theorem dX9_sumOfItems_33 : decode cX9_sumOfItems 33 = .ok (.i2l, 1) := by decide +kernel
theorem dX9_sumOfItems_34 : decode cX9_sumOfItems 34 = .ok (.lmul, 1) := by decide +kernel
theorem dX9_sumOfItems_35 : decode cX9_sumOfItems 35 = .ok (.ladd, 1) := by decide +kernel
theorem dX9_sumOfItems_36 : decode cX9_sumOfItems 36 = .ok (.ldc2_w 189, 3) := by decide +kernel
theorem dX9_sumOfItems_39 : decode cX9_sumOfItems 39 = .ok (.lrem, 1) := by decide +kernel
theorem dX9_sumOfItems_40 : decode cX9_sumOfItems 40 = .ok (.lstore_n 2, 1) := by decide +kernel
theorem dX9_sumOfItems_41 : decode cX9_sumOfItems 41 = .ok (.iinc 4 1, 3) := by decide +kernel
theorem dX9_sumOfItems_44 : decode cX9_sumOfItems 44 = .ok (.goto (-39), 3) := by decide +kernel
theorem dX9_sumOfItems_47 : decode cX9_sumOfItems 47 = .ok (.lload_n 2, 1) := by decide +kernel
theorem dX9_sumOfItems_48 : decode cX9_sumOfItems 48 = .ok (.l2i, 1) := by decide +kernel
theorem dX9_sumOfItems_49 : decode cX9_sumOfItems 49 = .ok (.ireturn, 1) := by decide +kernel
theorem dX9_note_0 : decode cX9_note 0 = .ok (.aload_n 0, 1) := by decide +kernel
theorem dX9_note_1 : decode cX9_note 1 = .ok (.getfield 191, 3) := by decide +kernel
theorem dX9_note_4 : decode cX9_note 4 = .ok (.bipush 100, 2) := by decide +kernel
theorem dX9_note_6 : decode cX9_note 6 = .ok (.if_icmp .ne 79, 3) := by decide +kernel
theorem dX9_note_9 : decode cX9_note 9 = .ok (.iconst 0, 1) := by decide +kernel
theorem dX9_note_10 : decode cX9_note 10 = .ok (.istore 7, 2) := by decide +kernel
theorem dX9_note_12 : decode cX9_note 12 = .ok (.iload 7, 2) := by decide +kernel
theorem dX9_note_14 : decode cX9_note 14 = .ok (.sipush 693, 3) := by decide +kernel
theorem dX9_note_17 : decode cX9_note 17 = .ok (.if_icmp .ge 26, 3) := by decide +kernel
theorem dX9_note_20 : decode cX9_note 20 = .ok (.aload_n 0, 1) := by decide +kernel
theorem dX9_note_21 : decode cX9_note 21 = .ok (.getfield 41, 3) := by decide +kernel
theorem dX9_note_24 : decode cX9_note 24 = .ok (.iload 7, 2) := by decide +kernel
theorem dX9_note_26 : decode cX9_note 26 = .ok (.aload_n 0, 1) := by decide +kernel
theorem dX9_note_27 : decode cX9_note 27 = .ok (.getfield 41, 3) := by decide +kernel
theorem dX9_note_30 : decode cX9_note 30 = .ok (.iload 7, 2) := by decide +kernel
theorem dX9_note_32 : decode cX9_note 32 = .ok (.bipush 7, 2) := by decide +kernel
theorem dX9_note_34 : decode cX9_note 34 = .ok (.iadd, 1) := by decide +kernel
theorem dX9_note_35 : decode cX9_note 35 = .ok (.iaload, 1) := by decide +kernel
theorem dX9_note_36 : decode cX9_note 36 = .ok (.iastore, 1) := by decide +kernel
theorem dX9_note_37 : decode cX9_note 37 = .ok (.iinc 7 1, 3) := by decide +kernel
theorem dX9_note_40 : decode cX9_note 40 = .ok (.goto (-28), 3) := by decide +kernel
theorem dX9_note_43 : decode cX9_note 43 = .ok (.iconst 0, 1) := by decide +kernel
theorem dX9_note_44 : decode cX9_note 44 = .ok (.istore 7, 2) := by decide +kernel
theorem dX9_note_46 : decode cX9_note 46 = .ok (.iload 7, 2) := by decide +kernel
theorem dX9_note_48 : decode cX9_note 48 = .ok (.bipush 99, 2) := by decide +kernel
theorem dX9_note_50 : decode cX9_note 50 = .ok (.if_icmp .ge 25, 3) := by decide +kernel
theorem dX9_note_53 : decode cX9_note 53 = .ok (.aload_n 0, 1) := by decide +kernel
theorem dX9_note_54 : decode cX9_note 54 = .ok (.getfield 44, 3) := by decide +kernel
theorem dX9_note_57 : decode cX9_note 57 = .ok (.iload 7, 2) := by decide +kernel
theorem dX9_note_59 : decode cX9_note 59 = .ok (.aload_n 0, 1) := by decide +kernel
theorem dX9_note_60 : decode cX9_note 60 = .ok (.getfield 44, 3) := by decide +kernel
theorem dX9_note_63 : decode cX9_note 63 = .ok (.iload 7, 2) := by decide +kernel
theorem dX9_note_65 : decode cX9_note 65 = .ok (.iconst 1, 1) := by decide +kernel
theorem dX9_note_66 : decode cX9_note 66 = .ok (.iadd, 1) := by decide +kernel
theorem dX9_note_67 : decode cX9_note 67 = .ok (.laload, 1) := by decide +kernel
theorem dX9_note_68 : decode cX9_note 68 = .ok (.lastore, 1) := by decide +kernel
theorem dX9_note_69 : decode cX9_note 69 = .ok (.iinc 7 1, 3) := by decide +kernel
theorem dX9_note_72 : decode cX9_note 72 = .ok (.goto (-26), 3) := by decide +kernel
theorem dX9_note_75 : decode cX9_note 75 = .ok (.aload_n 0, 1) := by decide +kernel
theorem dX9_note_76 : decode cX9_note 76 = .ok (.dup, 1) := by decide +kernel
theorem dX9_note_77 : decode cX9_note 77 = .ok (.getfield 191, 3) := by decide +kernel
theorem dX9_note_80 : decode cX9_note 80 = .ok (.iconst 1, 1) := by decide +kernel
theorem dX9_note_81 : decode cX9_note 81 = .ok (.isub, 1) := by decide +kernel
theorem dX9_note_82 : decode cX9_note 82 = .ok (.putfield 191, 3) := by decide +kernel
theorem dX9_note_85 : decode cX9_note 85 = .ok (.aload_n 0, 1) := by decide +kernel
theorem dX9_note_86 : decode cX9_note 86 = .ok (.getfield 41, 3) := by decide +kernel
theorem dX9_note_89 : decode cX9_note 89 = .ok (.bipush 7, 2) := by decide +kernel
theorem dX9_note_91 : decode cX9_note 91 = .ok (.aload_n 0, 1) := by decide +kernel
theorem dX9_note_92 : decode cX9_note 92 = .ok (.getfield 191, 3) := by decide +kernel
theorem dX9_note_95 : decode cX9_note 95 = .ok (.imul, 1) := by decide +kernel
theorem dX9_note_96 : decode cX9_note 96 = .ok (.iload_n 1, 1) := by decide +kernel
theorem dX9_note_97 : decode cX9_note 97 = .ok (.iastore, 1) := by decide +kernel
theorem dX9_note_98 : decode cX9_note 98 = .ok (.aload_n 0, 1) := by decide +kernel
theorem dX9_note_99 : decode cX9_note 99 = .ok (.getfield 41, 3) := by decide +kernel
theorem dX9_note_102 : decode cX9_note 102 = .ok (.bipush 7, 2) := by decide +kernel
theorem dX9_note_104 : decode cX9_note 104 = .ok (.aload_n 0, 1) := by decide +kernel
theorem dX9_note_105 : decode cX9_note 105 = .ok (.getfield 191, 3) := by decide +kernel
theorem dX9_note_108 : decode cX9_note 108 = .ok (.imul, 1) := by decide +kernel
theorem dX9_note_109 : decode cX9_note 109 = .ok (.iconst 1, 1) := by decide +kernel
theorem dX9_note_110 : decode cX9_note 110 = .ok (.iadd, 1) := by decide +kernel
theorem dX9_note_111 : decode cX9_note 111 = .ok (.iload_n 2, 1) := by decide +kernel
theorem dX9_note_112 : decode cX9_note 112 = .ok (.iastore, 1) := by decide +kernel
theorem dX9_note_113 : decode cX9_note 113 = .ok (.aload_n 0, 1) := by decide +kernel
theorem dX9_note_114 : decode cX9_note 114 = .ok (.getfield 41, 3) := by decide +kernel
theorem dX9_note_117 : decode cX9_note 117 = .ok (.bipush 7, 2) := by decide +kernel
theorem dX9_note_119 : decode cX9_note 119 = .ok (.aload_n 0, 1) := by decide +kernel
theorem dX9_note_120 : decode cX9_note 120 = .ok (.getfield 191, 3) := by decide +kernel
theorem dX9_note_123 : decode cX9_note 123 = .ok (.imul, 1) := by decide +kernel
theorem dX9_note_124 : decode cX9_note 124 = .ok (.iconst 2, 1) := by decide +kernel
theorem dX9_note_125 : decode cX9_note 125 = .ok (.iadd, 1) := by decide +kernel
theorem dX9_note_126 : decode cX9_note 126 = .ok (.iload_n 3, 1) := by decide +kernel
theorem dX9_note_127 : decode cX9_note 127 = .ok (.iastore, 1) := by decide +kernel
theorem dX9_note_128 : decode cX9_note 128 = .ok (.aload_n 0, 1) := by decide +kernel
theorem dX9_note_129 : decode cX9_note 129 = .ok (.getfield 41, 3) := by decide +kernel
theorem dX9_note_132 : decode cX9_note 132 = .ok (.bipush 7, 2) := by decide +kernel
theorem dX9_note_134 : decode cX9_note 134 = .ok (.aload_n 0, 1) := by decide +kernel
theorem dX9_note_135 : decode cX9_note 135 = .ok (.getfield 191, 3) := by decide +kernel
theorem dX9_note_138 : decode cX9_note 138 = .ok (.imul, 1) := by decide +kernel
theorem dX9_note_139 : decode cX9_note 139 = .ok (.iconst 3, 1) := by decide +kernel
theorem dX9_note_140 : decode cX9_note 140 = .ok (.iadd, 1) := by decide +kernel
theorem dX9_note_141 : decode cX9_note 141 = .ok (.iload 4, 2) := by decide +kernel
theorem dX9_note_143 : decode cX9_note 143 = .ok (.iastore, 1) := by decide +kernel
theorem dX9_note_144 : decode cX9_note 144 = .ok (.aload_n 0, 1) := by decide +kernel
theorem dX9_note_145 : decode cX9_note 145 = .ok (.getfield 41, 3) := by decide +kernel
theorem dX9_note_148 : decode cX9_note 148 = .ok (.bipush 7, 2) := by decide +kernel
theorem dX9_note_150 : decode cX9_note 150 = .ok (.aload_n 0, 1) := by decide +kernel
theorem dX9_note_151 : decode cX9_note 151 = .ok (.getfield 191, 3) := by decide +kernel
theorem dX9_note_154 : decode cX9_note 154 = .ok (.imul, 1) := by decide +kernel
theorem dX9_note_155 : decode cX9_note 155 = .ok (.iconst 4, 1) := by decide +kernel
theorem dX9_note_156 : decode cX9_note 156 = .ok (.iadd, 1) := by decide +kernel
theorem dX9_note_157 : decode cX9_note 157 = .ok (.aload_n 0, 1) := by decide +kernel
theorem dX9_note_158 : decode cX9_note 158 = .ok (.getfield 62, 3) := by decide +kernel
theorem dX9_note_161 : decode cX9_note 161 = .ok (.iastore, 1) := by decide +kernel
theorem dX9_note_162 : decode cX9_note 162 = .ok (.aload_n 0, 1) := by decide +kernel
theorem dX9_note_163 : decode cX9_note 163 = .ok (.getfield 41, 3) := by decide +kernel
theorem dX9_note_166 : decode cX9_note 166 = .ok (.bipush 7, 2) := by decide +kernel
theorem dX9_note_168 : decode cX9_note 168 = .ok (.aload_n 0, 1) := by decide +kernel
theorem dX9_note_169 : decode cX9_note 169 = .ok (.getfield 191, 3) := by decide +kernel
theorem dX9_note_172 : decode cX9_note 172 = .ok (.imul, 1) := by decide +kernel
theorem dX9_note_173 : decode cX9_note 173 = .ok (.iconst 5, 1) := by decide +kernel
theorem dX9_note_174 : decode cX9_note 174 = .ok (.iadd, 1) := by decide +kernel
theorem dX9_note_175 : decode cX9_note 175 = .ok (.aload_n 0, 1) := by decide +kernel
theorem dX9_note_176 : decode cX9_note 176 = .ok (.getfield 93, 3) := by decide +kernel
theorem dX9_note_179 : decode cX9_note 179 = .ok (.iastore, 1) := by decide +kernel
theorem dX9_note_180 : decode cX9_note 180 = .ok (.aload_n 0, 1) := by decide +kernel
theorem dX9_note_181 : decode cX9_note 181 = .ok (.getfield 41, 3) := by decide +kernel
theorem dX9_note_184 : decode cX9_note 184 = .ok (.bipush 7, 2) := by decide +kernel
theorem dX9_note_186 : decode cX9_note 186 = .ok (.aload_n 0, 1) := by decide +kernel
theorem dX9_note_187 : decode cX9_note 187 = .ok (.getfield 191, 3) := by decide +kernel
theorem dX9_note_190 : decode cX9_note 190 = .ok (.imul, 1) := by decide +kernel
theorem dX9_note_191 : decode cX9_note 191 = .ok (.bipush 6, 2) := by decide +kernel
theorem dX9_note_193 : decode cX9_note 193 = .ok (.iadd, 1) := by decide +kernel
theorem dX9_note_194 : decode cX9_note 194 = .ok (.aload_n 0, 1) := by decide +kernel
theorem dX9_note_195 : decode cX9_note 195 = .ok (.iload_n 1, 1) := by decide +kernel
theorem dX9_note_196 : decode cX9_note 196 = .ok (.invokevirtual 194, 3) := by decide +kernel
theorem dX9_note_199 : decode cX9_note 199 = .ok (.iastore, 1) := by decide +kernel
theorem dX9_note_200 : decode cX9_note 200 = .ok (.aload_n 0, 1) := by decide +kernel
theorem dX9_note_201 : decode cX9_note 201 = .ok (.getfield 44, 3) := by decide +kernel
theorem dX9_note_204 : decode cX9_note 204 = .ok (.aload_n 0, 1) := by decide +kernel
theorem dX9_note_205 : decode cX9_note 205 = .ok (.getfield 191, 3) := by decide +kernel
theorem dX9_note_208 : decode cX9_note 208 = .ok (.lload 5, 2) := by decide +kernel
theorem dX9_note_210 : decode cX9_note 210 = .ok (.lastore, 1) := by decide +kernel
theorem dX9_note_211 : decode cX9_note 211 = .ok (.aload_n 0, 1) := by decide +kernel
theorem dX9_note_212 : decode cX9_note 212 = .ok (.dup, 1) := by decide +kernel
theorem dX9_note_213 : decode cX9_note 213 = .ok (.getfield 191, 3) := by decide +kernel
theorem dX9_note_216 : decode cX9_note 216 = .ok (.iconst 1, 1) := by decide +kernel
theorem dX9_note_217 : decode cX9_note 217 = .ok (.iadd, 1) := by decide +kernel
theorem dX9_note_218 : decode cX9_note 218 = .ok (.putfield 191, 3) := by decide +kernel
theorem dX9_note_221 : decode cX9_note 221 = .ok (.return_, 1) := by decide +kernel
theorem dX9_draw_0 : decode cX9_draw 0 = .ok (.aload_n 0, 1) := by decide +kernel
theorem dX9_draw_1 : decode cX9_draw 1 = .ok (.iconst 0, 1) := by decide +kernel
theorem dX9_draw_2 : decode cX9_draw 2 = .ok (.putfield 47, 3) := by decide +kernel
theorem dX9_draw_5 : decode cX9_draw 5 = .ok (.iload_n 1, 1) := by decide +kernel
theorem dX9_draw_6 : decode cX9_draw 6 = .ok (.iload_n 2, 1) := by decide +kernel
theorem dX9_draw_7 : decode cX9_draw 7 = .ok (.iload_n 3, 1) := by decide +kernel
theorem dX9_draw_8 : decode cX9_draw 8 = .ok (.iload 4, 2) := by decide +kernel
theorem dX9_draw_10 : decode cX9_draw 10 = .ok (.invokestatic 197, 3) := by decide +kernel
theorem dX9_draw_13 : decode cX9_draw 13 = .ok (.ifCond .ne 10, 3) := by decide +kernel
theorem dX9_draw_16 : decode cX9_draw 16 = .ok (.aload_n 0, 1) := by decide +kernel
theorem dX9_draw_17 : decode cX9_draw 17 = .ok (.iconst 1, 1) := by decide +kernel
theorem dX9_draw_18 : decode cX9_draw 18 = .ok (.invokevirtual 54, 3) := by decide +kernel
theorem dX9_draw_21 : decode cX9_draw 21 = .ok (.i2l, 1) := by decide +kernel
theorem dX9_draw_22 : decode cX9_draw 22 = .ok (.lreturn, 1) := by decide +kernel
theorem dX9_draw_23 : decode cX9_draw 23 = .ok (.aload_n 0, 1) := by decide +kernel
theorem dX9_draw_24 : decode cX9_draw 24 = .ok (.iload_n 1, 1) := by decide +kernel
theorem dX9_draw_25 : decode cX9_draw 25 = .ok (.iload_n 2, 1) := by decide +kernel
theorem dX9_draw_26 : decode cX9_draw 26 = .ok (.invokevirtual 201, 3) := by decide +kernel
theorem dX9_draw_29 : decode cX9_draw 29 = .ok (.ifCond .ne 10, 3) := by decide +kernel
theorem dX9_draw_32 : decode cX9_draw 32 = .ok (.aload_n 0, 1) := by decide +kernel
theorem dX9_draw_33 : decode cX9_draw 33 = .ok (.iconst 2, 1) := by decide +kernel
theorem dX9_draw_34 : decode cX9_draw 34 = .ok (.invokevirtual 54, 3) := by decide +kernel
theorem dX9_draw_37 : decode cX9_draw 37 = .ok (.i2l, 1) := by decide +kernel
theorem dX9_draw_38 : decode cX9_draw 38 = .ok (.lreturn, 1) := by decide +kernel
theorem dX9_draw_39 : decode cX9_draw 39 = .ok (.aload_n 0, 1) := by decide +kernel
theorem dX9_draw_40 : decode cX9_draw 40 = .ok (.iconst 0, 1) := by decide +kernel
theorem dX9_draw_41 : decode cX9_draw 41 = .ok (.putfield 84, 3) := by decide +kernel
theorem dX9_draw_44 : decode cX9_draw 44 = .ok (.aload_n 0, 1) := by decide +kernel
theorem dX9_draw_45 : decode cX9_draw 45 = .ok (.iload_n 1, 1) := by decide +kernel
theorem dX9_draw_46 : decode cX9_draw 46 = .ok (.iload_n 2, 1) := by decide +kernel
theorem dX9_draw_47 : decode cX9_draw 47 = .ok (.iload_n 3, 1) := by decide +kernel
theorem dX9_draw_48 : decode cX9_draw 48 = .ok (.iload 4, 2) := by decide +kernel
theorem dX9_draw_50 : decode cX9_draw 50 = .ok (.aload_n 0, 1) := by decide +kernel
theorem dX9_draw_51 : decode cX9_draw 51 = .ok (.getfield 62, 3) := by decide +kernel
theorem dX9_draw_54 : decode cX9_draw 54 = .ok (.invokevirtual 204, 3) := by decide +kernel
theorem dX9_draw_57 : decode cX9_draw 57 = .ok (.lstore 5, 2) := by decide +kernel
theorem dX9_draw_59 : decode cX9_draw 59 = .ok (.aload_n 0, 1) := by decide +kernel
theorem dX9_draw_60 : decode cX9_draw 60 = .ok (.getfield 77, 3) := by decide +kernel
theorem dX9_draw_63 : decode cX9_draw 63 = .ok (.ifCond .eq 10, 3) := by decide +kernel
theorem dX9_draw_66 : decode cX9_draw 66 = .ok (.aload_n 0, 1) := by decide +kernel
theorem dX9_draw_67 : decode cX9_draw 67 = .ok (.iconst 3, 1) := by decide +kernel
theorem dX9_draw_68 : decode cX9_draw 68 = .ok (.invokevirtual 54, 3) := by decide +kernel
theorem dX9_draw_71 : decode cX9_draw 71 = .ok (.i2l, 1) := by decide +kernel
theorem dX9_draw_72 : decode cX9_draw 72 = .ok (.lreturn, 1) := by decide +kernel
theorem dX9_draw_73 : decode cX9_draw 73 = .ok (.aload_n 0, 1) := by decide +kernel
theorem dX9_draw_74 : decode cX9_draw 74 = .ok (.iload_n 1, 1) := by decide +kernel
theorem dX9_draw_75 : decode cX9_draw 75 = .ok (.iload_n 2, 1) := by decide +kernel
theorem dX9_draw_76 : decode cX9_draw 76 = .ok (.iload_n 3, 1) := by decide +kernel
theorem dX9_draw_77 : decode cX9_draw 77 = .ok (.iload 4, 2) := by decide +kernel
theorem dX9_draw_79 : decode cX9_draw 79 = .ok (.lload 5, 2) := by decide +kernel
theorem dX9_draw_81 : decode cX9_draw 81 = .ok (.invokevirtual 208, 3) := by decide +kernel
theorem dX9_draw_84 : decode cX9_draw 84 = .ok (.iload_n 1, 1) := by decide +kernel
theorem dX9_draw_85 : decode cX9_draw 85 = .ok (.bipush 8, 2) := by decide +kernel
theorem dX9_draw_87 : decode cX9_draw 87 = .ok (.if_icmp .le 43, 3) := by decide +kernel
theorem dX9_draw_90 : decode cX9_draw 90 = .ok (.aload_n 0, 1) := by decide +kernel
theorem dX9_draw_91 : decode cX9_draw 91 = .ok (.aload_n 0, 1) := by decide +kernel
theorem dX9_draw_92 : decode cX9_draw 92 = .ok (.getfield 123, 3) := by decide +kernel
theorem dX9_draw_95 : decode cX9_draw 95 = .ok (.putfield 212, 3) := by decide +kernel
theorem dX9_draw_98 : decode cX9_draw 98 = .ok (.iconst 0, 1) := by decide +kernel
theorem dX9_draw_99 : decode cX9_draw 99 = .ok (.istore 7, 2) := by decide +kernel
theorem dX9_draw_101 : decode cX9_draw 101 = .ok (.iload 7, 2) := by decide +kernel
theorem dX9_draw_103 : decode cX9_draw 103 = .ok (.aload_n 0, 1) := by decide +kernel
theorem dX9_draw_104 : decode cX9_draw 104 = .ok (.getfield 123, 3) := by decide +kernel
theorem dX9_draw_107 : decode cX9_draw 107 = .ok (.if_icmp .ge 23, 3) := by decide +kernel
theorem dX9_draw_110 : decode cX9_draw 110 = .ok (.aload_n 0, 1) := by decide +kernel
theorem dX9_draw_111 : decode cX9_draw 111 = .ok (.getfield 35, 3) := by decide +kernel
theorem dX9_draw_114 : decode cX9_draw 114 = .ok (.iload 7, 2) := by decide +kernel
theorem dX9_draw_116 : decode cX9_draw 116 = .ok (.aload_n 0, 1) := by decide +kernel
theorem dX9_draw_117 : decode cX9_draw 117 = .ok (.getfield 38, 3) := by decide +kernel
theorem dX9_draw_120 : decode cX9_draw 120 = .ok (.iload 7, 2) := by decide +kernel
theorem dX9_draw_122 : decode cX9_draw 122 = .ok (.iaload, 1) := by decide +kernel
theorem dX9_draw_123 : decode cX9_draw 123 = .ok (.iastore, 1) := by decide +kernel
theorem dX9_draw_124 : decode cX9_draw 124 = .ok (.iinc 7 1, 3) := by decide +kernel
theorem dX9_draw_127 : decode cX9_draw 127 = .ok (.goto (-26), 3) := by decide +kernel
theorem dX9_draw_130 : decode cX9_draw 130 = .ok (.aload_n 0, 1) := by decide +kernel
theorem dX9_draw_131 : decode cX9_draw 131 = .ok (.aload_n 0, 1) := by decide +kernel
theorem dX9_draw_132 : decode cX9_draw 132 = .ok (.getfield 81, 3) := by decide +kernel
theorem dX9_draw_135 : decode cX9_draw 135 = .ok (.putfield 62, 3) := by decide +kernel
theorem dX9_draw_138 : decode cX9_draw 138 = .ok (.aload_n 0, 1) := by decide +kernel
theorem dX9_draw_139 : decode cX9_draw 139 = .ok (.aload_n 0, 1) := by decide +kernel
theorem dX9_draw_140 : decode cX9_draw 140 = .ok (.getfield 93, 3) := by decide +kernel
theorem dX9_draw_143 : decode cX9_draw 143 = .ok (.putfield 215, 3) := by decide +kernel
theorem dX9_draw_146 : decode cX9_draw 146 = .ok (.aload_n 0, 1) := by decide +kernel
theorem dX9_draw_147 : decode cX9_draw 147 = .ok (.dup, 1) := by decide +kernel
theorem dX9_draw_148 : decode cX9_draw 148 = .ok (.getfield 218, 3) := by decide +kernel
theorem dX9_draw_151 : decode cX9_draw 151 = .ok (.iconst 1, 1) := by decide +kernel
theorem dX9_draw_152 : decode cX9_draw 152 = .ok (.iadd, 1) := by decide +kernel
theorem dX9_draw_153 : decode cX9_draw 153 = .ok (.putfield 218, 3) := by decide +kernel
theorem dX9_draw_156 : decode cX9_draw 156 = .ok (.lload 5, 2) := by decide +kernel
theorem dX9_draw_158 : decode cX9_draw 158 = .ok (.lreturn, 1) := by decide +kernel
theorem dX9_item_0 : decode cX9_item 0 = .ok (.aload_n 0, 1) := by decide +kernel
theorem dX9_item_1 : decode cX9_item 1 = .ok (.iconst 0, 1) := by decide +kernel
theorem dX9_item_2 : decode cX9_item 2 = .ok (.putfield 47, 3) := by decide +kernel
theorem dX9_item_5 : decode cX9_item 5 = .ok (.iload_n 1, 1) := by decide +kernel
theorem dX9_item_6 : decode cX9_item 6 = .ok (.i2l, 1) := by decide +kernel
theorem dX9_item_7 : decode cX9_item 7 = .ok (.lconst 0, 1) := by decide +kernel
theorem dX9_item_8 : decode cX9_item 8 = .ok (.aload_n 0, 1) := by decide +kernel
theorem dX9_item_9 : decode cX9_item 9 = .ok (.getfield 212, 3) := by decide +kernel
theorem dX9_item_12 : decode cX9_item 12 = .ok (.iconst 1, 1) := by decide +kernel
theorem dX9_item_13 : decode cX9_item 13 = .ok (.isub, 1) := by decide +kernel
theorem dX9_item_14 : decode cX9_item 14 = .ok (.i2l, 1) := by decide +kernel
theorem dX9_item_15 : decode cX9_item 15 = .ok (.invokestatic 58, 3) := by decide +kernel
theorem dX9_item_18 : decode cX9_item 18 = .ok (.ifCond .eq 12, 3) := by decide +kernel
theorem dX9_item_21 : decode cX9_item 21 = .ok (.aload_n 0, 1) := by decide +kernel
theorem dX9_item_22 : decode cX9_item 22 = .ok (.getfield 35, 3) := by decide +kernel
theorem dX9_item_25 : decode cX9_item 25 = .ok (.iload_n 1, 1) := by decide +kernel
theorem dX9_item_26 : decode cX9_item 26 = .ok (.iaload, 1) := by decide +kernel
theorem dX9_item_27 : decode cX9_item 27 = .ok (.goto 8, 3) := by decide +kernel
theorem dX9_item_30 : decode cX9_item 30 = .ok (.aload_n 0, 1) := by decide +kernel
theorem dX9_item_31 : decode cX9_item 31 = .ok (.iconst 1, 1) := by decide +kernel
theorem dX9_item_32 : decode cX9_item 32 = .ok (.invokevirtual 54, 3) := by decide +kernel
theorem dX9_item_35 : decode cX9_item 35 = .ok (.ireturn, 1) := by decide +kernel
theorem dX9_canTry_0 : decode cX9_canTry 0 = .ok (.iload_n 1, 1) := by decide +kernel
theorem dX9_canTry_1 : decode cX9_canTry 1 = .ok (.bipush 8, 2) := by decide +kernel
theorem dX9_canTry_3 : decode cX9_canTry 3 = .ok (.if_icmp .gt 27, 3) := by decide +kernel
theorem dX9_canTry_6 : decode cX9_canTry 6 = .ok (.iload_n 1, 1) := by decide +kernel
theorem dX9_canTry_7 : decode cX9_canTry 7 = .ok (.iload_n 2, 1) := by decide +kernel
theorem dX9_canTry_8 : decode cX9_canTry 8 = .ok (.iload_n 3, 1) := by decide +kernel
theorem dX9_canTry_9 : decode cX9_canTry 9 = .ok (.iload 4, 2) := by decide +kernel
theorem dX9_canTry_11 : decode cX9_canTry 11 = .ok (.invokestatic 197, 3) := by decide +kernel
theorem dX9_canTry_14 : decode cX9_canTry 14 = .ok (.ifCond .eq 16, 3) := by decide +kernel
theorem dX9_canTry_17 : decode cX9_canTry 17 = .ok (.iload 5, 2) := by decide +kernel
theorem dX9_canTry_19 : decode cX9_canTry 19 = .ok (.i2l, 1) := by decide +kernel
theorem dX9_canTry_20 : decode cX9_canTry 20 = .ok (.lconst 0, 1) := by decide +kernel
theorem dX9_canTry_21 : decode cX9_canTry 21 = .ok (.ldc2_w 221, 3) := by decide +kernel
theorem dX9_canTry_24 : decode cX9_canTry 24 = .ok (.invokestatic 58, 3) := by decide +kernel
theorem dX9_canTry_27 : decode cX9_canTry 27 = .ok (.ifCond .ne 11, 3) := by decide +kernel
theorem dX9_canTry_30 : decode cX9_canTry 30 = .ok (.aload_n 0, 1) := by decide +kernel
theorem dX9_canTry_31 : decode cX9_canTry 31 = .ok (.iconst 1, 1) := by decide +kernel
theorem dX9_canTry_32 : decode cX9_canTry 32 = .ok (.putfield 47, 3) := by decide +kernel
theorem dX9_canTry_35 : decode cX9_canTry 35 = .ok (.goto 17, 3) := by decide +kernel
theorem dX9_canTry_38 : decode cX9_canTry 38 = .ok (.aload_n 0, 1) := by decide +kernel
theorem dX9_canTry_39 : decode cX9_canTry 39 = .ok (.iload_n 1, 1) := by decide +kernel
theorem dX9_canTry_40 : decode cX9_canTry 40 = .ok (.iload_n 2, 1) := by decide +kernel
theorem dX9_canTry_41 : decode cX9_canTry 41 = .ok (.invokevirtual 201, 3) := by decide +kernel
theorem dX9_canTry_44 : decode cX9_canTry 44 = .ok (.ifCond .ne 8, 3) := by decide +kernel
theorem dX9_canTry_47 : decode cX9_canTry 47 = .ok (.aload_n 0, 1) := by decide +kernel
theorem dX9_canTry_48 : decode cX9_canTry 48 = .ok (.iconst 2, 1) := by decide +kernel
theorem dX9_canTry_49 : decode cX9_canTry 49 = .ok (.putfield 47, 3) := by decide +kernel
theorem dX9_canTry_52 : decode cX9_canTry 52 = .ok (.aload_n 0, 1) := by decide +kernel
theorem dX9_canTry_53 : decode cX9_canTry 53 = .ok (.getfield 47, 3) := by decide +kernel
theorem dX9_canTry_56 : decode cX9_canTry 56 = .ok (.ifCond .ne 7, 3) := by decide +kernel
theorem dX9_canTry_59 : decode cX9_canTry 59 = .ok (.iconst 1, 1) := by decide +kernel
theorem dX9_canTry_60 : decode cX9_canTry 60 = .ok (.goto 4, 3) := by decide +kernel
theorem dX9_canTry_63 : decode cX9_canTry 63 = .ok (.iconst 0, 1) := by decide +kernel
theorem dX9_canTry_64 : decode cX9_canTry 64 = .ok (.ireturn, 1) := by decide +kernel
theorem dX9_tryAll_0 : decode cX9_tryAll 0 = .ok (.aload_n 0, 1) := by decide +kernel
theorem dX9_tryAll_1 : decode cX9_tryAll 1 = .ok (.iconst 1, 1) := by decide +kernel
theorem dX9_tryAll_2 : decode cX9_tryAll 2 = .ok (.putfield 84, 3) := by decide +kernel
theorem dX9_tryAll_5 : decode cX9_tryAll 5 = .ok (.aload_n 0, 1) := by decide +kernel
theorem dX9_tryAll_6 : decode cX9_tryAll 6 = .ok (.iload 5, 2) := by decide +kernel
theorem dX9_tryAll_8 : decode cX9_tryAll 8 = .ok (.putfield 87, 3) := by decide +kernel
theorem dX9_tryAll_11 : decode cX9_tryAll 11 = .ok (.iconst 0, 1) := by decide +kernel
theorem dX9_tryAll_12 : decode cX9_tryAll 12 = .ok (.istore 9, 2) := by decide +kernel
theorem dX9_tryAll_14 : decode cX9_tryAll 14 = .ok (.aload_n 0, 1) := by decide +kernel
theorem dX9_tryAll_15 : decode cX9_tryAll 15 = .ok (.iconst 0, 1) := by decide +kernel
theorem dX9_tryAll_16 : decode cX9_tryAll 16 = .ok (.putfield 90, 3) := by decide +kernel
theorem dX9_tryAll_19 : decode cX9_tryAll 19 = .ok (.aload_n 0, 1) := by decide +kernel
theorem dX9_tryAll_20 : decode cX9_tryAll 20 = .ok (.getfield 90, 3) := by decide +kernel
theorem dX9_tryAll_23 : decode cX9_tryAll 23 = .ok (.iconst 1, 1) := by decide +kernel
theorem dX9_tryAll_24 : decode cX9_tryAll 24 = .ok (.iload 5, 2) := by decide +kernel
theorem dX9_tryAll_26 : decode cX9_tryAll 26 = .ok (.ishl, 1) := by decide +kernel
theorem dX9_tryAll_27 : decode cX9_tryAll 27 = .ok (.if_icmp .ge 88, 3) := by decide +kernel
theorem dX9_tryAll_30 : decode cX9_tryAll 30 = .ok (.aload_n 0, 1) := by decide +kernel
theorem dX9_tryAll_31 : decode cX9_tryAll 31 = .ok (.iload_n 1, 1) := by decide +kernel
theorem dX9_tryAll_32 : decode cX9_tryAll 32 = .ok (.iload_n 2, 1) := by decide +kernel
theorem dX9_tryAll_33 : decode cX9_tryAll 33 = .ok (.iload_n 3, 1) := by decide +kernel
theorem dX9_tryAll_34 : decode cX9_tryAll 34 = .ok (.iload 4, 2) := by decide +kernel
theorem dX9_tryAll_36 : decode cX9_tryAll 36 = .ok (.iconst 0, 1) := by decide +kernel
theorem dX9_tryAll_37 : decode cX9_tryAll 37 = .ok (.invokevirtual 204, 3) := by decide +kernel
theorem dX9_tryAll_40 : decode cX9_tryAll 40 = .ok (.lstore 10, 2) := by decide +kernel
theorem dX9_tryAll_42 : decode cX9_tryAll 42 = .ok (.aload_n 0, 1) := by decide +kernel
theorem dX9_tryAll_43 : decode cX9_tryAll 43 = .ok (.getfield 77, 3) := by decide +kernel
theorem dX9_tryAll_46 : decode cX9_tryAll 46 = .ok (.ifCond .eq 7, 3) := by decide +kernel
theorem dX9_tryAll_49 : decode cX9_tryAll 49 = .ok (.iconst 1, 1) := by decide +kernel
theorem dX9_tryAll_50 : decode cX9_tryAll 50 = .ok (.goto 12, 3) := by decide +kernel
theorem dX9_tryAll_53 : decode cX9_tryAll 53 = .ok (.iconst 1, 1) := by decide +kernel
theorem dX9_tryAll_54 : decode cX9_tryAll 54 = .ok (.iload 5, 2) := by decide +kernel
theorem dX9_tryAll_56 : decode cX9_tryAll 56 = .ok (.aload_n 0, 1) := by decide +kernel
theorem dX9_tryAll_57 : decode cX9_tryAll 57 = .ok (.getfield 93, 3) := by decide +kernel
theorem dX9_tryAll_60 : decode cX9_tryAll 60 = .ok (.isub, 1) := by decide +kernel
theorem dX9_tryAll_61 : decode cX9_tryAll 61 = .ok (.ishl, 1) := by decide +kernel
theorem dX9_tryAll_62 : decode cX9_tryAll 62 = .ok (.istore 12, 2) := by decide +kernel
theorem dX9_tryAll_64 : decode cX9_tryAll 64 = .ok (.iload 8, 2) := by decide +kernel
theorem dX9_tryAll_66 : decode cX9_tryAll 66 = .ok (.ifCond .eq 13, 3) := by decide +kernel
theorem dX9_tryAll_69 : decode cX9_tryAll 69 = .ok (.aload_n 0, 1) := by decide +kernel
theorem dX9_tryAll_70 : decode cX9_tryAll 70 = .ok (.getfield 77, 3) := by decide +kernel
theorem dX9_tryAll_73 : decode cX9_tryAll 73 = .ok (.ifCond .eq 28, 3) := by decide +kernel
theorem dX9_tryAll_76 : decode cX9_tryAll 76 = .ok (.goto 18, 3) := by decide +kernel
theorem dX9_tryAll_79 : decode cX9_tryAll 79 = .ok (.aload_n 0, 1) := by decide +kernel
theorem dX9_tryAll_80 : decode cX9_tryAll 80 = .ok (.getfield 77, 3) := by decide +kernel
theorem dX9_tryAll_83 : decode cX9_tryAll 83 = .ok (.ifCond .ne 18, 3) := by decide +kernel
theorem dX9_tryAll_86 : decode cX9_tryAll 86 = .ok (.lload 10, 2) := by decide +kernel
theorem dX9_tryAll_88 : decode cX9_tryAll 88 = .ok (.lload 6, 2) := by decide +kernel
theorem dX9_tryAll_90 : decode cX9_tryAll 90 = .ok (.lcmp, 1) := by decide +kernel
theorem dX9_tryAll_91 : decode cX9_tryAll 91 = .ok (.ifCond .ne 10, 3) := by decide +kernel
theorem dX9_tryAll_94 : decode cX9_tryAll 94 = .ok (.iload 9, 2) := by decide +kernel
theorem dX9_tryAll_96 : decode cX9_tryAll 96 = .ok (.iload 12, 2) := by decide +kernel
theorem dX9_tryAll_98 : decode cX9_tryAll 98 = .ok (.iadd, 1) := by decide +kernel
theorem dX9_tryAll_99 : decode cX9_tryAll 99 = .ok (.istore 9, 2) := by decide +kernel
theorem dX9_tryAll_101 : decode cX9_tryAll 101 = .ok (.aload_n 0, 1) := by decide +kernel
theorem dX9_tryAll_102 : decode cX9_tryAll 102 = .ok (.dup, 1) := by decide +kernel
theorem dX9_tryAll_103 : decode cX9_tryAll 103 = .ok (.getfield 90, 3) := by decide +kernel
theorem dX9_tryAll_106 : decode cX9_tryAll 106 = .ok (.iload 12, 2) := by decide +kernel
theorem dX9_tryAll_108 : decode cX9_tryAll 108 = .ok (.iadd, 1) := by decide +kernel
theorem dX9_tryAll_109 : decode cX9_tryAll 109 = .ok (.putfield 90, 3) := by decide +kernel
theorem dX9_tryAll_112 : decode cX9_tryAll 112 = .ok (.goto (-93), 3) := by decide +kernel
theorem dX9_tryAll_115 : decode cX9_tryAll 115 = .ok (.iload 9, 2) := by decide +kernel
theorem dX9_tryAll_117 : decode cX9_tryAll 117 = .ok (.ireturn, 1) := by decide +kernel
theorem dX9_decided_0 : decode cX9_decided 0 = .ok (.aload_n 0, 1) := by decide +kernel
theorem dX9_decided_1 : decode cX9_decided 1 = .ok (.iconst 0, 1) := by decide +kernel
theorem dX9_decided_2 : decode cX9_decided 2 = .ok (.putfield 47, 3) := by decide +kernel
theorem dX9_decided_5 : decode cX9_decided 5 = .ok (.aload_n 0, 1) := by decide +kernel
theorem dX9_decided_6 : decode cX9_decided 6 = .ok (.iload_n 1, 1) := by decide +kernel
theorem dX9_decided_7 : decode cX9_decided 7 = .ok (.iload_n 2, 1) := by decide +kernel
theorem dX9_decided_8 : decode cX9_decided 8 = .ok (.iload_n 3, 1) := by decide +kernel
theorem dX9_decided_9 : decode cX9_decided 9 = .ok (.iload 4, 2) := by decide +kernel
theorem dX9_decided_11 : decode cX9_decided 11 = .ok (.iload 5, 2) := by decide +kernel
theorem dX9_decided_13 : decode cX9_decided 13 = .ok (.invokevirtual 223, 3) := by decide +kernel
theorem dX9_decided_16 : decode cX9_decided 16 = .ok (.ifCond .eq 21, 3) := by decide +kernel
theorem dX9_decided_19 : decode cX9_decided 19 = .ok (.aload_n 0, 1) := by decide +kernel
theorem dX9_decided_20 : decode cX9_decided 20 = .ok (.iload_n 1, 1) := by decide +kernel
theorem dX9_decided_21 : decode cX9_decided 21 = .ok (.iload_n 2, 1) := by decide +kernel
theorem dX9_decided_22 : decode cX9_decided 22 = .ok (.iload_n 3, 1) := by decide +kernel
theorem dX9_decided_23 : decode cX9_decided 23 = .ok (.iload 4, 2) := by decide +kernel
theorem dX9_decided_25 : decode cX9_decided 25 = .ok (.iload 5, 2) := by decide +kernel
theorem dX9_decided_27 : decode cX9_decided 27 = .ok (.iload 6, 2) := by decide +kernel
theorem dX9_decided_29 : decode cX9_decided 29 = .ok (.i2l, 1) := by decide +kernel
theorem dX9_decided_30 : decode cX9_decided 30 = .ok (.iconst 0, 1) := by decide +kernel
theorem dX9_decided_31 : decode cX9_decided 31 = .ok (.invokevirtual 227, 3) := by decide +kernel
theorem dX9_decided_34 : decode cX9_decided 34 = .ok (.goto 4, 3) := by decide +kernel
theorem dX9_decided_37 : decode cX9_decided 37 = .ok (.iconst 0, 1) := by decide +kernel
theorem dX9_decided_38 : decode cX9_decided 38 = .ok (.ireturn, 1) := by decide +kernel
theorem dX9_undecided_0 : decode cX9_undecided 0 = .ok (.aload_n 0, 1) := by decide +kernel
theorem dX9_undecided_1 : decode cX9_undecided 1 = .ok (.iconst 0, 1) := by decide +kernel
theorem dX9_undecided_2 : decode cX9_undecided 2 = .ok (.putfield 47, 3) := by decide +kernel
theorem dX9_undecided_5 : decode cX9_undecided 5 = .ok (.aload_n 0, 1) := by decide +kernel
theorem dX9_undecided_6 : decode cX9_undecided 6 = .ok (.iload_n 1, 1) := by decide +kernel
theorem dX9_undecided_7 : decode cX9_undecided 7 = .ok (.iload_n 2, 1) := by decide +kernel
theorem dX9_undecided_8 : decode cX9_undecided 8 = .ok (.iload_n 3, 1) := by decide +kernel
theorem dX9_undecided_9 : decode cX9_undecided 9 = .ok (.iload 4, 2) := by decide +kernel
theorem dX9_undecided_11 : decode cX9_undecided 11 = .ok (.iload 5, 2) := by decide +kernel
theorem dX9_undecided_13 : decode cX9_undecided 13 = .ok (.invokevirtual 223, 3) := by decide +kernel
theorem dX9_undecided_16 : decode cX9_undecided 16 = .ok (.ifCond .eq 19, 3) := by decide +kernel
theorem dX9_undecided_19 : decode cX9_undecided 19 = .ok (.aload_n 0, 1) := by decide +kernel
theorem dX9_undecided_20 : decode cX9_undecided 20 = .ok (.iload_n 1, 1) := by decide +kernel
theorem dX9_undecided_21 : decode cX9_undecided 21 = .ok (.iload_n 2, 1) := by decide +kernel
theorem dX9_undecided_22 : decode cX9_undecided 22 = .ok (.iload_n 3, 1) := by decide +kernel
theorem dX9_undecided_23 : decode cX9_undecided 23 = .ok (.iload 4, 2) := by decide +kernel
theorem dX9_undecided_25 : decode cX9_undecided 25 = .ok (.iload 5, 2) := by decide +kernel
theorem dX9_undecided_27 : decode cX9_undecided 27 = .ok (.lconst 0, 1) := by decide +kernel
theorem dX9_undecided_28 : decode cX9_undecided 28 = .ok (.iconst 1, 1) := by decide +kernel
theorem dX9_undecided_29 : decode cX9_undecided 29 = .ok (.invokevirtual 227, 3) := by decide +kernel
theorem dX9_undecided_32 : decode cX9_undecided 32 = .ok (.goto 4, 3) := by decide +kernel
theorem dX9_undecided_35 : decode cX9_undecided 35 = .ok (.iconst 0, 1) := by decide +kernel
theorem dX9_undecided_36 : decode cX9_undecided 36 = .ok (.ireturn, 1) := by decide +kernel
theorem dX9_journal_0 : decode cX9_journal 0 = .ok (.aload_n 0, 1) := by decide +kernel
theorem dX9_journal_1 : decode cX9_journal 1 = .ok (.iconst 0, 1) := by decide +kernel
theorem dX9_journal_2 : decode cX9_journal 2 = .ok (.putfield 47, 3) := by decide +kernel
theorem dX9_journal_5 : decode cX9_journal 5 = .ok (.iload_n 1, 1) := by decide +kernel
theorem dX9_journal_6 : decode cX9_journal 6 = .ok (.i2l, 1) := by decide +kernel
theorem dX9_journal_7 : decode cX9_journal 7 = .ok (.lconst 0, 1) := by decide +kernel
theorem dX9_journal_8 : decode cX9_journal 8 = .ok (.aload_n 0, 1) := by decide +kernel
theorem dX9_journal_9 : decode cX9_journal 9 = .ok (.getfield 191, 3) := by decide +kernel
theorem dX9_journal_12 : decode cX9_journal 12 = .ok (.iconst 1, 1) := by decide +kernel
theorem dX9_journal_13 : decode cX9_journal 13 = .ok (.isub, 1) := by decide +kernel
theorem dX9_journal_14 : decode cX9_journal 14 = .ok (.i2l, 1) := by decide +kernel
theorem dX9_journal_15 : decode cX9_journal 15 = .ok (.invokestatic 58, 3) := by decide +kernel
theorem dX9_journal_18 : decode cX9_journal 18 = .ok (.ifCond .eq 15, 3) := by decide +kernel
theorem dX9_journal_21 : decode cX9_journal 21 = .ok (.iload_n 2, 1) := by decide +kernel
theorem dX9_journal_22 : decode cX9_journal 22 = .ok (.i2l, 1) := by decide +kernel
theorem dX9_journal_23 : decode cX9_journal 23 = .ok (.lconst 0, 1) := by decide +kernel
theorem dX9_journal_24 : decode cX9_journal 24 = .ok (.ldc2_w 231, 3) := by decide +kernel
theorem dX9_journal_27 : decode cX9_journal 27 = .ok (.invokestatic 58, 3) := by decide +kernel
theorem dX9_journal_30 : decode cX9_journal 30 = .ok (.ifCond .ne 10, 3) := by decide +kernel
theorem dX9_journal_33 : decode cX9_journal 33 = .ok (.aload_n 0, 1) := by decide +kernel
theorem dX9_journal_34 : decode cX9_journal 34 = .ok (.iconst 1, 1) := by decide +kernel
theorem dX9_journal_35 : decode cX9_journal 35 = .ok (.invokevirtual 54, 3) := by decide +kernel
theorem dX9_journal_38 : decode cX9_journal 38 = .ok (.i2l, 1) := by decide +kernel
theorem dX9_journal_39 : decode cX9_journal 39 = .ok (.lreturn, 1) := by decide +kernel
theorem dX9_journal_40 : decode cX9_journal 40 = .ok (.iload_n 2, 1) := by decide +kernel
theorem dX9_journal_41 : decode cX9_journal 41 = .ok (.bipush 6, 2) := by decide +kernel
theorem dX9_journal_43 : decode cX9_journal 43 = .ok (.if_icmp .ne 12, 3) := by decide +kernel
theorem dX9_journal_46 : decode cX9_journal 46 = .ok (.aload_n 0, 1) := by decide +kernel
theorem dX9_journal_47 : decode cX9_journal 47 = .ok (.getfield 44, 3) := by decide +kernel
theorem dX9_journal_50 : decode cX9_journal 50 = .ok (.iload_n 1, 1) := by decide +kernel
theorem dX9_journal_51 : decode cX9_journal 51 = .ok (.laload, 1) := by decide +kernel
theorem dX9_journal_52 : decode cX9_journal 52 = .ok (.goto 15, 3) := by decide +kernel
theorem dX9_journal_55 : decode cX9_journal 55 = .ok (.aload_n 0, 1) := by decide +kernel
theorem dX9_journal_56 : decode cX9_journal 56 = .ok (.getfield 41, 3) := by decide +kernel
theorem dX9_journal_59 : decode cX9_journal 59 = .ok (.bipush 7, 2) := by decide +kernel
theorem dX9_journal_61 : decode cX9_journal 61 = .ok (.iload_n 1, 1) := by decide +kernel
theorem dX9_journal_62 : decode cX9_journal 62 = .ok (.imul, 1) := by decide +kernel
theorem dX9_journal_63 : decode cX9_journal 63 = .ok (.iload_n 2, 1) := by decide +kernel
theorem dX9_journal_64 : decode cX9_journal 64 = .ok (.iadd, 1) := by decide +kernel
theorem dX9_journal_65 : decode cX9_journal 65 = .ok (.iaload, 1) := by decide +kernel
theorem dX9_journal_66 : decode cX9_journal 66 = .ok (.i2l, 1) := by decide +kernel
theorem dX9_journal_67 : decode cX9_journal 67 = .ok (.lreturn, 1) := by decide +kernel
theorem dX9_replay_0 : decode cX9_replay 0 = .ok (.aload_n 0, 1) := by decide +kernel
theorem dX9_replay_1 : decode cX9_replay 1 = .ok (.iconst 0, 1) := by decide +kernel
theorem dX9_replay_2 : decode cX9_replay 2 = .ok (.putfield 47, 3) := by decide +kernel
theorem dX9_replay_5 : decode cX9_replay 5 = .ok (.iload_n 1, 1) := by decide +kernel
theorem dX9_replay_6 : decode cX9_replay 6 = .ok (.i2l, 1) := by decide +kernel
theorem dX9_replay_7 : decode cX9_replay 7 = .ok (.lconst 0, 1) := by decide +kernel
theorem dX9_replay_8 : decode cX9_replay 8 = .ok (.aload_n 0, 1) := by decide +kernel
theorem dX9_replay_9 : decode cX9_replay 9 = .ok (.getfield 191, 3) := by decide +kernel
theorem dX9_replay_12 : decode cX9_replay 12 = .ok (.iconst 1, 1) := by decide +kernel
theorem dX9_replay_13 : decode cX9_replay 13 = .ok (.isub, 1) := by decide +kernel
theorem dX9_replay_14 : decode cX9_replay 14 = .ok (.i2l, 1) := by decide +kernel
theorem dX9_replay_15 : decode cX9_replay 15 = .ok (.invokestatic 58, 3) := by decide +kernel
theorem dX9_replay_18 : decode cX9_replay 18 = .ok (.ifCond .ne 17, 3) := by decide +kernel
theorem dX9_replay_21 : decode cX9_replay 21 = .ok (.aload_n 0, 1) := by decide +kernel
theorem dX9_replay_22 : decode cX9_replay 22 = .ok (.iconst 1, 1) := by decide +kernel
theorem dX9_replay_23 : decode cX9_replay 23 = .ok (.invokevirtual 54, 3) := by decide +kernel
theorem dX9_replay_26 : decode cX9_replay 26 = .ok (.ifCond .le 7, 3) := by decide +kernel
theorem dX9_replay_29 : decode cX9_replay 29 = .ok (.iconst 1, 1) := by decide +kernel
theorem dX9_replay_30 : decode cX9_replay 30 = .ok (.goto 4, 3) := by decide +kernel
theorem dX9_replay_33 : decode cX9_replay 33 = .ok (.iconst 0, 1) := by decide +kernel
theorem dX9_replay_34 : decode cX9_replay 34 = .ok (.ireturn, 1) := by decide +kernel
theorem dX9_replay_35 : decode cX9_replay 35 = .ok (.aload_n 0, 1) := by decide +kernel
theorem dX9_replay_36 : decode cX9_replay 36 = .ok (.getfield 41, 3) := by decide +kernel
theorem dX9_replay_39 : decode cX9_replay 39 = .ok (.bipush 7, 2) := by decide +kernel
theorem dX9_replay_41 : decode cX9_replay 41 = .ok (.iload_n 1, 1) := by decide +kernel
theorem dX9_replay_42 : decode cX9_replay 42 = .ok (.imul, 1) := by decide +kernel
theorem dX9_replay_43 : decode cX9_replay 43 = .ok (.iaload, 1) := by decide +kernel
theorem dX9_replay_44 : decode cX9_replay 44 = .ok (.istore_n 2, 1) := by decide +kernel
theorem dX9_replay_45 : decode cX9_replay 45 = .ok (.aload_n 0, 1) := by decide +kernel
theorem dX9_replay_46 : decode cX9_replay 46 = .ok (.getfield 41, 3) := by decide +kernel
theorem dX9_replay_49 : decode cX9_replay 49 = .ok (.bipush 7, 2) := by decide +kernel
theorem dX9_replay_51 : decode cX9_replay 51 = .ok (.iload_n 1, 1) := by decide +kernel
theorem dX9_replay_52 : decode cX9_replay 52 = .ok (.imul, 1) := by decide +kernel
theorem dX9_replay_53 : decode cX9_replay 53 = .ok (.iconst 1, 1) := by decide +kernel
theorem dX9_replay_54 : decode cX9_replay 54 = .ok (.iadd, 1) := by decide +kernel
theorem dX9_replay_55 : decode cX9_replay 55 = .ok (.iaload, 1) := by decide +kernel
theorem dX9_replay_56 : decode cX9_replay 56 = .ok (.istore_n 3, 1) := by decide +kernel
theorem dX9_replay_57 : decode cX9_replay 57 = .ok (.aload_n 0, 1) := by decide +kernel
theorem dX9_replay_58 : decode cX9_replay 58 = .ok (.iload_n 2, 1) := by decide +kernel
theorem dX9_replay_59 : decode cX9_replay 59 = .ok (.iload_n 3, 1) := by decide +kernel
theorem dX9_replay_60 : decode cX9_replay 60 = .ok (.invokevirtual 201, 3) := by decide +kernel
theorem dX9_replay_63 : decode cX9_replay 63 = .ok (.ifCond .ne 5, 3) := by decide +kernel
theorem dX9_replay_66 : decode cX9_replay 66 = .ok (.iconst 0, 1) := by decide +kernel
theorem dX9_replay_67 : decode cX9_replay 67 = .ok (.ireturn, 1) := by decide +kernel
theorem dX9_replay_68 : decode cX9_replay 68 = .ok (.aload_n 0, 1) := by decide +kernel
theorem dX9_replay_69 : decode cX9_replay 69 = .ok (.iconst 0, 1) := by decide +kernel
theorem dX9_replay_70 : decode cX9_replay 70 = .ok (.putfield 84, 3) := by decide +kernel
theorem dX9_replay_73 : decode cX9_replay 73 = .ok (.aload_n 0, 1) := by decide +kernel
theorem dX9_replay_74 : decode cX9_replay 74 = .ok (.iload_n 2, 1) := by decide +kernel
theorem dX9_replay_75 : decode cX9_replay 75 = .ok (.iload_n 3, 1) := by decide +kernel
theorem dX9_replay_76 : decode cX9_replay 76 = .ok (.aload_n 0, 1) := by decide +kernel
theorem dX9_replay_77 : decode cX9_replay 77 = .ok (.getfield 41, 3) := by decide +kernel
theorem dX9_replay_80 : decode cX9_replay 80 = .ok (.bipush 7, 2) := by decide +kernel
theorem dX9_replay_82 : decode cX9_replay 82 = .ok (.iload_n 1, 1) := by decide +kernel
theorem dX9_replay_83 : decode cX9_replay 83 = .ok (.imul, 1) := by decide +kernel
theorem dX9_replay_84 : decode cX9_replay 84 = .ok (.iconst 2, 1) := by decide +kernel
theorem dX9_replay_85 : decode cX9_replay 85 = .ok (.iadd, 1) := by decide +kernel
theorem dX9_replay_86 : decode cX9_replay 86 = .ok (.iaload, 1) := by decide +kernel
theorem dX9_replay_87 : decode cX9_replay 87 = .ok (.aload_n 0, 1) := by decide +kernel
theorem dX9_replay_88 : decode cX9_replay 88 = .ok (.getfield 41, 3) := by decide +kernel
theorem dX9_replay_91 : decode cX9_replay 91 = .ok (.bipush 7, 2) := by decide +kernel
theorem dX9_replay_93 : decode cX9_replay 93 = .ok (.iload_n 1, 1) := by decide +kernel
theorem dX9_replay_94 : decode cX9_replay 94 = .ok (.imul, 1) := by decide +kernel
theorem dX9_replay_95 : decode cX9_replay 95 = .ok (.iconst 3, 1) := by decide +kernel
theorem dX9_replay_96 : decode cX9_replay 96 = .ok (.iadd, 1) := by decide +kernel
theorem dX9_replay_97 : decode cX9_replay 97 = .ok (.iaload, 1) := by decide +kernel
theorem dX9_replay_98 : decode cX9_replay 98 = .ok (.aload_n 0, 1) := by decide +kernel
theorem dX9_replay_99 : decode cX9_replay 99 = .ok (.getfield 41, 3) := by decide +kernel
theorem dX9_replay_102 : decode cX9_replay 102 = .ok (.bipush 7, 2) := by decide +kernel
theorem dX9_replay_104 : decode cX9_replay 104 = .ok (.iload_n 1, 1) := by decide +kernel
theorem dX9_replay_105 : decode cX9_replay 105 = .ok (.imul, 1) := by decide +kernel
theorem dX9_replay_106 : decode cX9_replay 106 = .ok (.iconst 4, 1) := by decide +kernel
theorem dX9_replay_107 : decode cX9_replay 107 = .ok (.iadd, 1) := by decide +kernel
theorem dX9_replay_108 : decode cX9_replay 108 = .ok (.iaload, 1) := by decide +kernel
theorem dX9_replay_109 : decode cX9_replay 109 = .ok (.invokevirtual 204, 3) := by decide +kernel
theorem dX9_replay_112 : decode cX9_replay 112 = .ok (.lstore 4, 2) := by decide +kernel
theorem dX9_replay_114 : decode cX9_replay 114 = .ok (.aload_n 0, 1) := by decide +kernel
theorem dX9_replay_115 : decode cX9_replay 115 = .ok (.getfield 77, 3) := by decide +kernel
theorem dX9_replay_118 : decode cX9_replay 118 = .ok (.ifCond .ne 57, 3) := by decide +kernel
theorem dX9_replay_121 : decode cX9_replay 121 = .ok (.aload_n 0, 1) := by decide +kernel
theorem dX9_replay_122 : decode cX9_replay 122 = .ok (.getfield 93, 3) := by decide +kernel
theorem dX9_replay_125 : decode cX9_replay 125 = .ok (.aload_n 0, 1) := by decide +kernel
theorem dX9_replay_126 : decode cX9_replay 126 = .ok (.getfield 41, 3) := by decide +kernel
theorem dX9_replay_129 : decode cX9_replay 129 = .ok (.bipush 7, 2) := by decide +kernel
theorem dX9_replay_131 : decode cX9_replay 131 = .ok (.iload_n 1, 1) := by decide +kernel
theorem dX9_replay_132 : decode cX9_replay 132 = .ok (.imul, 1) := by decide +kernel
theorem dX9_replay_133 : decode cX9_replay 133 = .ok (.iconst 5, 1) := by decide +kernel
theorem dX9_replay_134 : decode cX9_replay 134 = .ok (.iadd, 1) := by decide +kernel
theorem dX9_replay_135 : decode cX9_replay 135 = .ok (.iaload, 1) := by decide +kernel
theorem dX9_replay_136 : decode cX9_replay 136 = .ok (.if_icmp .ne 39, 3) := by decide +kernel
theorem dX9_replay_139 : decode cX9_replay 139 = .ok (.lload 4, 2) := by decide +kernel
theorem dX9_replay_141 : decode cX9_replay 141 = .ok (.aload_n 0, 1) := by decide +kernel
theorem dX9_replay_142 : decode cX9_replay 142 = .ok (.getfield 44, 3) := by decide +kernel
theorem dX9_replay_145 : decode cX9_replay 145 = .ok (.iload_n 1, 1) := by decide +kernel
theorem dX9_replay_146 : decode cX9_replay 146 = .ok (.laload, 1) := by decide +kernel
theorem dX9_replay_147 : decode cX9_replay 147 = .ok (.lcmp, 1) := by decide +kernel
theorem dX9_replay_148 : decode cX9_replay 148 = .ok (.ifCond .ne 27, 3) := by decide +kernel
theorem dX9_replay_151 : decode cX9_replay 151 = .ok (.aload_n 0, 1) := by decide +kernel
theorem dX9_replay_152 : decode cX9_replay 152 = .ok (.iload_n 2, 1) := by decide +kernel
theorem dX9_replay_153 : decode cX9_replay 153 = .ok (.invokevirtual 194, 3) := by decide +kernel
theorem dX9_replay_156 : decode cX9_replay 156 = .ok (.aload_n 0, 1) := by decide +kernel
theorem dX9_replay_157 : decode cX9_replay 157 = .ok (.getfield 41, 3) := by decide +kernel
theorem dX9_replay_160 : decode cX9_replay 160 = .ok (.bipush 7, 2) := by decide +kernel
theorem dX9_replay_162 : decode cX9_replay 162 = .ok (.iload_n 1, 1) := by decide +kernel
theorem dX9_replay_163 : decode cX9_replay 163 = .ok (.imul, 1) := by decide +kernel
theorem dX9_replay_164 : decode cX9_replay 164 = .ok (.bipush 6, 2) := by decide +kernel
theorem dX9_replay_166 : decode cX9_replay 166 = .ok (.iadd, 1) := by decide +kernel
theorem dX9_replay_167 : decode cX9_replay 167 = .ok (.iaload, 1) := by decide +kernel
theorem dX9_replay_168 : decode cX9_replay 168 = .ok (.if_icmp .ne 7, 3) := by decide +kernel
theorem dX9_replay_171 : decode cX9_replay 171 = .ok (.iconst 1, 1) := by decide +kernel
theorem dX9_replay_172 : decode cX9_replay 172 = .ok (.goto 4, 3) := by decide +kernel
theorem dX9_replay_175 : decode cX9_replay 175 = .ok (.iconst 0, 1) := by decide +kernel
theorem dX9_replay_176 : decode cX9_replay 176 = .ok (.ireturn, 1) := by decide +kernel
theorem dX9_count_0 : decode cX9_count 0 = .ok (.aload_n 0, 1) := by decide +kernel
theorem dX9_count_1 : decode cX9_count 1 = .ok (.iconst 0, 1) := by decide +kernel
theorem dX9_count_2 : decode cX9_count 2 = .ok (.putfield 47, 3) := by decide +kernel
theorem dX9_count_5 : decode cX9_count 5 = .ok (.iload_n 1, 1) := by decide +kernel
theorem dX9_count_6 : decode cX9_count 6 = .ok (.i2l, 1) := by decide +kernel
theorem dX9_count_7 : decode cX9_count 7 = .ok (.lconst 0, 1) := by decide +kernel
theorem dX9_count_8 : decode cX9_count 8 = .ok (.ldc2_w 233, 3) := by decide +kernel
theorem dX9_count_11 : decode cX9_count 11 = .ok (.invokestatic 58, 3) := by decide +kernel
theorem dX9_count_14 : decode cX9_count 14 = .ok (.ifCond .ne 5, 3) := by decide +kernel
theorem dX9_count_17 : decode cX9_count 17 = .ok (.iconst (-1), 1) := by decide +kernel
theorem dX9_count_18 : decode cX9_count 18 = .ok (.ireturn, 1) := by decide +kernel
theorem dX9_count_19 : decode cX9_count 19 = .ok (.iload_n 1, 1) := by decide +kernel
theorem dX9_count_20 : decode cX9_count 20 = .ok (.iconst 2, 1) := by decide +kernel
theorem dX9_count_21 : decode cX9_count 21 = .ok (.if_icmp .ge 19, 3) := by decide +kernel
theorem dX9_count_24 : decode cX9_count 24 = .ok (.iload_n 1, 1) := by decide +kernel
theorem dX9_count_25 : decode cX9_count 25 = .ok (.ifCond .ne 10, 3) := by decide +kernel
theorem dX9_count_28 : decode cX9_count 28 = .ok (.aload_n 0, 1) := by decide +kernel
theorem dX9_count_29 : decode cX9_count 29 = .ok (.getfield 51, 3) := by decide +kernel
theorem dX9_count_32 : decode cX9_count 32 = .ok (.goto 7, 3) := by decide +kernel
theorem dX9_count_35 : decode cX9_count 35 = .ok (.aload_n 0, 1) := by decide +kernel
theorem dX9_count_36 : decode cX9_count 36 = .ok (.getfield 62, 3) := by decide +kernel
theorem dX9_count_39 : decode cX9_count 39 = .ok (.ireturn, 1) := by decide +kernel
theorem dX9_count_40 : decode cX9_count 40 = .ok (.iload_n 1, 1) := by decide +kernel
theorem dX9_count_41 : decode cX9_count 41 = .ok (.iconst 2, 1) := by decide +kernel
theorem dX9_count_42 : decode cX9_count 42 = .ok (.if_icmp .ne 10, 3) := by decide +kernel
theorem dX9_count_45 : decode cX9_count 45 = .ok (.aload_n 0, 1) := by decide +kernel
theorem dX9_count_46 : decode cX9_count 46 = .ok (.getfield 215, 3) := by decide +kernel
theorem dX9_count_49 : decode cX9_count 49 = .ok (.goto 19, 3) := by decide +kernel
theorem dX9_count_52 : decode cX9_count 52 = .ok (.iload_n 1, 1) := by decide +kernel
theorem dX9_count_53 : decode cX9_count 53 = .ok (.iconst 3, 1) := by decide +kernel
theorem dX9_count_54 : decode cX9_count 54 = .ok (.if_icmp .ne 10, 3) := by decide +kernel
theorem dX9_count_57 : decode cX9_count 57 = .ok (.aload_n 0, 1) := by decide +kernel
theorem dX9_count_58 : decode cX9_count 58 = .ok (.getfield 191, 3) := by decide +kernel
theorem dX9_count_61 : decode cX9_count 61 = .ok (.goto 7, 3) := by decide +kernel
theorem dX9_count_64 : decode cX9_count 64 = .ok (.aload_n 0, 1) := by decide +kernel
theorem dX9_count_65 : decode cX9_count 65 = .ok (.getfield 218, 3) := by decide +kernel
theorem dX9_count_68 : decode cX9_count 68 = .ok (.ireturn, 1) := by decide +kernel
