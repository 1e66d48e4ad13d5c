theorem dX8_init_0 : decode cX8_init 0 = .ok (.aload_n 0, 1) := by decide +kernel
theorem dX8_init_1 : decode cX8_init 1 = .ok (.invokespecial 1, 3) := by decide +kernel
theorem dX8_init_4 : decode cX8_init 4 = .ok (.bipush 8, 2) := by decide +kernel
theorem dX8_init_6 : decode cX8_init 6 = .ok (.anewarray 9, 3) := by decide +kernel
theorem dX8_init_9 : decode cX8_init 9 = .ok (.astore_n 1, 1) := by decide +kernel
theorem dX8_init_10 : decode cX8_init 10 = .ok (.iconst 0, 1) := by decide +kernel
theorem dX8_init_11 : decode cX8_init 11 = .ok (.istore_n 2, 1) := by decide +kernel
theorem dX8_init_12 : decode cX8_init 12 = .ok (.iload_n 2, 1) := by decide +kernel
theorem dX8_init_13 : decode cX8_init 13 = .ok (.bipush 8, 2) := by decide +kernel
theorem dX8_init_15 : decode cX8_init 15 = .ok (.if_icmp .ge 19, 3) := by decide +kernel
theorem dX8_init_18 : decode cX8_init 18 = .ok (.aload_n 1, 1) := by decide +kernel
theorem dX8_init_19 : decode cX8_init 19 = .ok (.iload_n 2, 1) := by decide +kernel
theorem dX8_init_20 : decode cX8_init 20 = .ok (.new 9, 3) := by decide +kernel
theorem dX8_init_23 : decode cX8_init 23 = .ok (.dup, 1) := by decide +kernel
theorem dX8_init_24 : decode cX8_init 24 = .ok (.invokespecial 11, 3) := by decide +kernel
theorem dX8_init_27 : decode cX8_init 27 = .ok (.aastore, 1) := by decide +kernel
theorem dX8_init_28 : decode cX8_init 28 = .ok (.iinc 2 1, 3) := by decide +kernel
theorem dX8_init_31 : decode cX8_init 31 = .ok (.goto (-19), 3) := by decide +kernel
theorem dX8_init_34 : decode cX8_init 34 = .ok (.new 12, 3) := by decide +kernel
theorem dX8_init_37 : decode cX8_init 37 = .ok (.dup, 1) := by decide +kernel
theorem dX8_init_38 : decode cX8_init 38 = .ok (.invokespecial 14, 3) := by decide +kernel
theorem dX8_init_41 : decode cX8_init 41 = .ok (.astore_n 2, 1) := by decide +kernel
theorem dX8_init_42 : decode cX8_init 42 = .ok (.aload_n 0, 1) := by decide +kernel
theorem dX8_init_43 : decode cX8_init 43 = .ok (.new 15, 3) := by decide +kernel
theorem dX8_init_46 : decode cX8_init 46 = .ok (.dup, 1) := by decide +kernel
theorem dX8_init_47 : decode cX8_init 47 = .ok (.invokespecial 17, 3) := by decide +kernel
theorem dX8_init_50 : decode cX8_init 50 = .ok (.putfield 18, 3) := by decide +kernel
theorem dX8_init_53 : decode cX8_init 53 = .ok (.aload_n 0, 1) := by decide +kernel
theorem dX8_init_54 : decode cX8_init 54 = .ok (.aload_n 1, 1) := by decide +kernel
theorem dX8_init_55 : decode cX8_init 55 = .ok (.putfield 22, 3) := by decide +kernel
theorem dX8_init_58 : decode cX8_init 58 = .ok (.aload_n 0, 1) := by decide +kernel
theorem dX8_init_59 : decode cX8_init 59 = .ok (.new 26, 3) := by decide +kernel
theorem dX8_init_62 : decode cX8_init 62 = .ok (.dup, 1) := by decide +kernel
theorem dX8_init_63 : decode cX8_init 63 = .ok (.aload_n 1, 1) := by decide +kernel
theorem dX8_init_64 : decode cX8_init 64 = .ok (.aload_n 2, 1) := by decide +kernel
theorem dX8_init_65 : decode cX8_init 65 = .ok (.new 28, 3) := by decide +kernel
theorem dX8_init_68 : decode cX8_init 68 = .ok (.dup, 1) := by decide +kernel
theorem dX8_init_69 : decode cX8_init 69 = .ok (.aload_n 2, 1) := by decide +kernel
theorem dX8_init_70 : decode cX8_init 70 = .ok (.invokespecial 30, 3) := by decide +kernel
theorem dX8_init_73 : decode cX8_init 73 = .ok (.new 33, 3) := by decide +kernel
theorem dX8_init_76 : decode cX8_init 76 = .ok (.dup, 1) := by decide +kernel
theorem dX8_init_77 : decode cX8_init 77 = .ok (.aload_n 2, 1) := by decide +kernel
theorem dX8_init_78 : decode cX8_init 78 = .ok (.invokespecial 35, 3) := by decide +kernel
theorem dX8_init_81 : decode cX8_init 81 = .ok (.invokespecial 36, 3) := by decide +kernel
theorem dX8_init_84 : decode cX8_init 84 = .ok (.putfield 39, 3) := by decide +kernel
theorem dX8_init_87 : decode cX8_init 87 = .ok (.aload_n 0, 1) := by decide +kernel
theorem dX8_init_88 : decode cX8_init 88 = .ok (.new 43, 3) := by decide +kernel
theorem dX8_init_91 : decode cX8_init 91 = .ok (.dup, 1) := by decide +kernel
theorem dX8_init_92 : decode cX8_init 92 = .ok (.invokespecial 45, 3) := by decide +kernel
theorem dX8_init_95 : decode cX8_init 95 = .ok (.putfield 46, 3) := by decide +kernel
theorem dX8_init_98 : decode cX8_init 98 = .ok (.aload_n 0, 1) := by decide +kernel
theorem dX8_init_99 : decode cX8_init 99 = .ok (.new 50, 3) := by decide +kernel
theorem dX8_init_102 : decode cX8_init 102 = .ok (.dup, 1) := by decide +kernel
theorem dX8_init_103 : decode cX8_init 103 = .ok (.invokespecial 52, 3) := by decide +kernel
theorem dX8_init_106 : decode cX8_init 106 = .ok (.putfield 53, 3) := by decide +kernel
theorem dX8_init_109 : decode cX8_init 109 = .ok (.aload_n 0, 1) := by decide +kernel
theorem dX8_init_110 : decode cX8_init 110 = .ok (.iconst 1, 1) := by decide +kernel
theorem dX8_init_111 : decode cX8_init 111 = .ok (.newarray .int, 2) := by decide +kernel
theorem dX8_init_113 : decode cX8_init 113 = .ok (.putfield 57, 3) := by decide +kernel
theorem dX8_init_116 : decode cX8_init 116 = .ok (.aload_n 0, 1) := by decide +kernel
theorem dX8_init_117 : decode cX8_init 117 = .ok (.sipush 256, 3) := by decide +kernel
theorem dX8_init_120 : decode cX8_init 120 = .ok (.newarray .int, 2) := by decide +kernel
theorem dX8_init_122 : decode cX8_init 122 = .ok (.putfield 61, 3) := by decide +kernel
theorem dX8_init_125 : decode cX8_init 125 = .ok (.aload_n 0, 1) := by decide +kernel
theorem dX8_init_126 : decode cX8_init 126 = .ok (.iconst 0, 1) := by decide +kernel
theorem dX8_init_127 : decode cX8_init 127 = .ok (.putfield 64, 3) := by decide +kernel
theorem dX8_init_130 : decode cX8_init 130 = .ok (.aload_n 0, 1) := by decide +kernel
theorem dX8_init_131 : decode cX8_init 131 = .ok (.iconst 0, 1) := by decide +kernel
theorem dX8_init_132 : decode cX8_init 132 = .ok (.putfield 68, 3) := by decide +kernel
theorem dX8_init_135 : decode cX8_init 135 = .ok (.return_, 1) := by decide +kernel
theorem dX8_feed_0 : decode cX8_feed 0 = .ok (.aload_n 0, 1) := by decide +kernel
theorem dX8_feed_1 : decode cX8_feed 1 = .ok (.getfield 18, 3) := by decide +kernel
theorem dX8_feed_4 : decode cX8_feed 4 = .ok (.getfield 71, 3) := by decide +kernel
theorem dX8_feed_7 : decode cX8_feed 7 = .ok (.sipush 128, 3) := by decide +kernel
theorem dX8_feed_10 : decode cX8_feed 10 = .ok (.iadd, 1) := by decide +kernel
theorem dX8_feed_11 : decode cX8_feed 11 = .ok (.sipush 16384, 3) := by decide +kernel
theorem dX8_feed_14 : decode cX8_feed 14 = .ok (.if_icmp .le 11, 3) := by decide +kernel
theorem dX8_feed_17 : decode cX8_feed 17 = .ok (.new 74, 3) := by decide +kernel
theorem dX8_feed_20 : decode cX8_feed 20 = .ok (.dup, 1) := by decide +kernel
theorem dX8_feed_21 : decode cX8_feed 21 = .ok (.invokespecial 76, 3) := by decide +kernel
theorem dX8_feed_24 : decode cX8_feed 24 = .ok (.athrow, 1) := by decide +kernel
theorem dX8_feed_25 : decode cX8_feed 25 = .ok (.aload_n 0, 1) := by decide +kernel
theorem dX8_feed_26 : decode cX8_feed 26 = .ok (.getfield 18, 3) := by decide +kernel
theorem dX8_feed_29 : decode cX8_feed 29 = .ok (.iload_n 1, 1) := by decide +kernel
theorem dX8_feed_30 : decode cX8_feed 30 = .ok (.invokevirtual 77, 3) := by decide +kernel
theorem dX8_feed_33 : decode cX8_feed 33 = .ok (.aload_n 0, 1) := by decide +kernel
theorem dX8_feed_34 : decode cX8_feed 34 = .ok (.getfield 18, 3) := by decide +kernel
theorem dX8_feed_37 : decode cX8_feed 37 = .ok (.iload_n 2, 1) := by decide +kernel
theorem dX8_feed_38 : decode cX8_feed 38 = .ok (.invokevirtual 77, 3) := by decide +kernel
theorem dX8_feed_41 : decode cX8_feed 41 = .ok (.aload_n 0, 1) := by decide +kernel
theorem dX8_feed_42 : decode cX8_feed 42 = .ok (.getfield 18, 3) := by decide +kernel
theorem dX8_feed_45 : decode cX8_feed 45 = .ok (.iload_n 3, 1) := by decide +kernel
theorem dX8_feed_46 : decode cX8_feed 46 = .ok (.invokevirtual 77, 3) := by decide +kernel
theorem dX8_feed_49 : decode cX8_feed 49 = .ok (.aload_n 0, 1) := by decide +kernel
theorem dX8_feed_50 : decode cX8_feed 50 = .ok (.getfield 18, 3) := by decide +kernel
theorem dX8_feed_53 : decode cX8_feed 53 = .ok (.iload 4, 2) := by decide +kernel
theorem dX8_feed_55 : decode cX8_feed 55 = .ok (.invokevirtual 77, 3) := by decide +kernel
theorem dX8_feed_58 : decode cX8_feed 58 = .ok (.aload_n 0, 1) := by decide +kernel
theorem dX8_feed_59 : decode cX8_feed 59 = .ok (.getfield 18, 3) := by decide +kernel
theorem dX8_feed_62 : decode cX8_feed 62 = .ok (.getfield 71, 3) := by decide +kernel
theorem dX8_feed_65 : decode cX8_feed 65 = .ok (.ireturn, 1) := by decide +kernel
theorem dX8_bit_0 : decode cX8_bit 0 = .ok (.iload_n 1, 1) := by decide +kernel
theorem dX8_bit_1 : decode cX8_bit 1 = .ok (.ifCond .lt 14, 3) := by decide +kernel
theorem dX8_bit_4 : decode cX8_bit 4 = .ok (.iload_n 1, 1) := by decide +kernel
theorem dX8_bit_5 : decode cX8_bit 5 = .ok (.aload_n 0, 1) := by decide +kernel
theorem dX8_bit_6 : decode cX8_bit 6 = .ok (.getfield 18, 3) := by decide +kernel
theorem dX8_bit_9 : decode cX8_bit 9 = .ok (.getfield 71, 3) := by decide +kernel
theorem dX8_bit_12 : decode cX8_bit 12 = .ok (.if_icmp .lt 11, 3) := by decide +kernel
theorem dX8_bit_15 : decode cX8_bit 15 = .ok (.new 81, 3) := by decide +kernel
theorem dX8_bit_18 : decode cX8_bit 18 = .ok (.dup, 1) := by decide +kernel
theorem dX8_bit_19 : decode cX8_bit 19 = .ok (.invokespecial 83, 3) := by decide +kernel
theorem dX8_bit_22 : decode cX8_bit 22 = .ok (.athrow, 1) := by decide +kernel
theorem dX8_bit_23 : decode cX8_bit 23 = .ok (.iload_n 2, 1) := by decide +kernel
theorem dX8_bit_24 : decode cX8_bit 24 = .ok (.ifCond .eq 16, 3) := by decide +kernel
theorem dX8_bit_27 : decode cX8_bit 27 = .ok (.iload_n 2, 1) := by decide +kernel
theorem dX8_bit_28 : decode cX8_bit 28 = .ok (.iconst 1, 1) := by decide +kernel
theorem dX8_bit_29 : decode cX8_bit 29 = .ok (.if_icmp .eq 11, 3) := by decide +kernel
theorem dX8_bit_32 : decode cX8_bit 32 = .ok (.new 84, 3) := by decide +kernel
theorem dX8_bit_35 : decode cX8_bit 35 = .ok (.dup, 1) := by decide +kernel
theorem dX8_bit_36 : decode cX8_bit 36 = .ok (.invokespecial 86, 3) := by decide +kernel
theorem dX8_bit_39 : decode cX8_bit 39 = .ok (.athrow, 1) := by decide +kernel
theorem dX8_bit_40 : decode cX8_bit 40 = .ok (.aload_n 0, 1) := by decide +kernel
theorem dX8_bit_41 : decode cX8_bit 41 = .ok (.getfield 18, 3) := by decide +kernel
theorem dX8_bit_44 : decode cX8_bit 44 = .ok (.iload_n 1, 1) := by decide +kernel
theorem dX8_bit_45 : decode cX8_bit 45 = .ok (.iload_n 2, 1) := by decide +kernel
theorem dX8_bit_46 : decode cX8_bit 46 = .ok (.invokevirtual 87, 3) := by decide +kernel
theorem dX8_bit_49 : decode cX8_bit 49 = .ok (.ireturn, 1) := by decide +kernel
theorem dX8_rewind_0 : decode cX8_rewind 0 = .ok (.iload_n 1, 1) := by decide +kernel
theorem dX8_rewind_1 : decode cX8_rewind 1 = .ok (.ifCond .lt 14, 3) := by decide +kernel
theorem dX8_rewind_4 : decode cX8_rewind 4 = .ok (.iload_n 1, 1) := by decide +kernel
theorem dX8_rewind_5 : decode cX8_rewind 5 = .ok (.aload_n 0, 1) := by decide +kernel
theorem dX8_rewind_6 : decode cX8_rewind 6 = .ok (.getfield 18, 3) := by decide +kernel
theorem dX8_rewind_9 : decode cX8_rewind 9 = .ok (.getfield 71, 3) := by decide +kernel
theorem dX8_rewind_12 : decode cX8_rewind 12 = .ok (.if_icmp .le 11, 3) := by decide +kernel
theorem dX8_rewind_15 : decode cX8_rewind 15 = .ok (.new 81, 3) := by decide +kernel
theorem dX8_rewind_18 : decode cX8_rewind 18 = .ok (.dup, 1) := by decide +kernel
theorem dX8_rewind_19 : decode cX8_rewind 19 = .ok (.invokespecial 83, 3) := by decide +kernel
theorem dX8_rewind_22 : decode cX8_rewind 22 = .ok (.athrow, 1) := by decide +kernel
theorem dX8_rewind_23 : decode cX8_rewind 23 = .ok (.aload_n 0, 1) := by decide +kernel
theorem dX8_rewind_24 : decode cX8_rewind 24 = .ok (.getfield 18, 3) := by decide +kernel
theorem dX8_rewind_27 : decode cX8_rewind 27 = .ok (.getfield 91, 3) := by decide +kernel
theorem dX8_rewind_30 : decode cX8_rewind 30 = .ok (.istore_n 2, 1) := by decide +kernel
theorem dX8_rewind_31 : decode cX8_rewind 31 = .ok (.aload_n 0, 1) := by decide +kernel
theorem dX8_rewind_32 : decode cX8_rewind 32 = .ok (.getfield 18, 3) := by decide +kernel
theorem dX8_rewind_35 : decode cX8_rewind 35 = .ok (.iload_n 1, 1) := by decide +kernel
theorem dX8_rewind_36 : decode cX8_rewind 36 = .ok (.putfield 91, 3) := by decide +kernel
theorem dX8_rewind_39 : decode cX8_rewind 39 = .ok (.iload_n 2, 1) := by decide +kernel
theorem dX8_rewind_40 : decode cX8_rewind 40 = .ok (.ireturn, 1) := by decide +kernel
theorem dX8_weight_0 : decode cX8_weight 0 = .ok (.iload_n 1, 1) := by decide +kernel
theorem dX8_weight_1 : decode cX8_weight 1 = .ok (.invokestatic 94, 3) := by decide +kernel
theorem dX8_weight_4 : decode cX8_weight 4 = .ok (.ifCond .ne 13, 3) := by decide +kernel
theorem dX8_weight_7 : decode cX8_weight 7 = .ok (.iload_n 2, 1) := by decide +kernel
theorem dX8_weight_8 : decode cX8_weight 8 = .ok (.ifCond .lt 9, 3) := by decide +kernel
theorem dX8_weight_11 : decode cX8_weight 11 = .ok (.iload_n 2, 1) := by decide +kernel
theorem dX8_weight_12 : decode cX8_weight 12 = .ok (.bipush 64, 2) := by decide +kernel
theorem dX8_weight_14 : decode cX8_weight 14 = .ok (.if_icmp .lt 11, 3) := by decide +kernel
theorem dX8_weight_17 : decode cX8_weight 17 = .ok (.new 81, 3) := by decide +kernel
theorem dX8_weight_20 : decode cX8_weight 20 = .ok (.dup, 1) := by decide +kernel
theorem dX8_weight_21 : decode cX8_weight 21 = .ok (.invokespecial 83, 3) := by decide +kernel
theorem dX8_weight_24 : decode cX8_weight 24 = .ok (.athrow, 1) := by decide +kernel
theorem dX8_weight_25 : decode cX8_weight 25 = .ok (.iload_n 3, 1) := by decide +kernel
theorem dX8_weight_26 : decode cX8_weight 26 = .ok (.ifCond .ge 11, 3) := by decide +kernel
theorem dX8_weight_29 : decode cX8_weight 29 = .ok (.new 84, 3) := by decide +kernel
theorem dX8_weight_32 : decode cX8_weight 32 = .ok (.dup, 1) := by decide +kernel
theorem dX8_weight_33 : decode cX8_weight 33 = .ok (.invokespecial 86, 3) := by decide +kernel
theorem dX8_weight_36 : decode cX8_weight 36 = .ok (.athrow, 1) := by decide +kernel
theorem dX8_weight_37 : decode cX8_weight 37 = .ok (.aload_n 0, 1) := by decide +kernel
theorem dX8_weight_38 : decode cX8_weight 38 = .ok (.getfield 22, 3) := by decide +kernel
theorem dX8_weight_41 : decode cX8_weight 41 = .ok (.iload_n 1, 1) := by decide +kernel
theorem dX8_weight_42 : decode cX8_weight 42 = .ok (.aaload, 1) := by decide +kernel
theorem dX8_weight_43 : decode cX8_weight 43 = .ok (.iload_n 2, 1) := by decide +kernel
theorem dX8_weight_44 : decode cX8_weight 44 = .ok (.iload_n 3, 1) := by decide +kernel
theorem dX8_weight_45 : decode cX8_weight 45 = .ok (.invokevirtual 98, 3) := by decide +kernel
theorem dX8_weight_48 : decode cX8_weight 48 = .ok (.ireturn, 1) := by decide +kernel
theorem dX8_build_0 : decode cX8_build 0 = .ok (.iload_n 1, 1) := by decide +kernel
theorem dX8_build_1 : decode cX8_build 1 = .ok (.invokestatic 94, 3) := by decide +kernel
theorem dX8_build_4 : decode cX8_build 4 = .ok (.ifCond .eq 11, 3) := by decide +kernel
theorem dX8_build_7 : decode cX8_build 7 = .ok (.new 81, 3) := by decide +kernel
theorem dX8_build_10 : decode cX8_build 10 = .ok (.dup, 1) := by decide +kernel
theorem dX8_build_11 : decode cX8_build 11 = .ok (.invokespecial 83, 3) := by decide +kernel
theorem dX8_build_14 : decode cX8_build 14 = .ok (.athrow, 1) := by decide +kernel
theorem dX8_build_15 : decode cX8_build 15 = .ok (.iload_n 2, 1) := by decide +kernel
theorem dX8_build_16 : decode cX8_build 16 = .ok (.ifCond .eq 16, 3) := by decide +kernel
theorem dX8_build_19 : decode cX8_build 19 = .ok (.iload_n 2, 1) := by decide +kernel
theorem dX8_build_20 : decode cX8_build 20 = .ok (.iconst 1, 1) := by decide +kernel
theorem dX8_build_21 : decode cX8_build 21 = .ok (.if_icmp .eq 11, 3) := by decide +kernel
theorem dX8_build_24 : decode cX8_build 24 = .ok (.new 84, 3) := by decide +kernel
theorem dX8_build_27 : decode cX8_build 27 = .ok (.dup, 1) := by decide +kernel
theorem dX8_build_28 : decode cX8_build 28 = .ok (.invokespecial 86, 3) := by decide +kernel
theorem dX8_build_31 : decode cX8_build 31 = .ok (.athrow, 1) := by decide +kernel
theorem dX8_build_32 : decode cX8_build 32 = .ok (.aload_n 0, 1) := by decide +kernel
theorem dX8_build_33 : decode cX8_build 33 = .ok (.getfield 22, 3) := by decide +kernel
theorem dX8_build_36 : decode cX8_build 36 = .ok (.iload_n 1, 1) := by decide +kernel
theorem dX8_build_37 : decode cX8_build 37 = .ok (.aaload, 1) := by decide +kernel
theorem dX8_build_38 : decode cX8_build 38 = .ok (.invokevirtual 101, 3) := by decide +kernel
theorem dX8_build_41 : decode cX8_build 41 = .ok (.lconst 0, 1) := by decide +kernel
theorem dX8_build_42 : decode cX8_build 42 = .ok (.lcmp, 1) := by decide +kernel
theorem dX8_build_43 : decode cX8_build 43 = .ok (.ifCond .ne 11, 3) := by decide +kernel
theorem dX8_build_46 : decode cX8_build 46 = .ok (.new 74, 3) := by decide +kernel
theorem dX8_build_49 : decode cX8_build 49 = .ok (.dup, 1) := by decide +kernel
theorem dX8_build_50 : decode cX8_build 50 = .ok (.invokespecial 76, 3) := by decide +kernel
theorem dX8_build_53 : decode cX8_build 53 = .ok (.athrow, 1) := by decide +kernel
theorem dX8_build_54 : decode cX8_build 54 = .ok (.aload_n 0, 1) := by decide +kernel
theorem dX8_build_55 : decode cX8_build 55 = .ok (.getfield 22, 3) := by decide +kernel
theorem dX8_build_58 : decode cX8_build 58 = .ok (.iload_n 1, 1) := by decide +kernel
theorem dX8_build_59 : decode cX8_build 59 = .ok (.aaload, 1) := by decide +kernel
theorem dX8_build_60 : decode cX8_build 60 = .ok (.iload_n 2, 1) := by decide +kernel
theorem dX8_build_61 : decode cX8_build 61 = .ok (.invokevirtual 105, 3) := by decide +kernel
theorem dX8_build_64 : decode cX8_build 64 = .ok (.aload_n 0, 1) := by decide +kernel
theorem dX8_build_65 : decode cX8_build 65 = .ok (.getfield 22, 3) := by decide +kernel
theorem dX8_build_68 : decode cX8_build 68 = .ok (.iload_n 1, 1) := by decide +kernel
theorem dX8_build_69 : decode cX8_build 69 = .ok (.aaload, 1) := by decide +kernel
theorem dX8_build_70 : decode cX8_build 70 = .ok (.getfield 108, 3) := by decide +kernel
theorem dX8_build_73 : decode cX8_build 73 = .ok (.lreturn, 1) := by decide +kernel
theorem dX8_alias_0 : decode cX8_alias 0 = .ok (.iload_n 1, 1) := by decide +kernel
theorem dX8_alias_1 : decode cX8_alias 1 = .ok (.invokestatic 94, 3) := by decide +kernel
theorem dX8_alias_4 : decode cX8_alias 4 = .ok (.ifCond .eq 11, 3) := by decide +kernel
theorem dX8_alias_7 : decode cX8_alias 7 = .ok (.new 81, 3) := by decide +kernel
theorem dX8_alias_10 : decode cX8_alias 10 = .ok (.dup, 1) := by decide +kernel
theorem dX8_alias_11 : decode cX8_alias 11 = .ok (.invokespecial 83, 3) := by decide +kernel
theorem dX8_alias_14 : decode cX8_alias 14 = .ok (.athrow, 1) := by decide +kernel
theorem dX8_alias_15 : decode cX8_alias 15 = .ok (.aload_n 0, 1) := by decide +kernel
theorem dX8_alias_16 : decode cX8_alias 16 = .ok (.getfield 22, 3) := by decide +kernel
theorem dX8_alias_19 : decode cX8_alias 19 = .ok (.iload_n 1, 1) := by decide +kernel
theorem dX8_alias_20 : decode cX8_alias 20 = .ok (.aaload, 1) := by decide +kernel
theorem dX8_alias_21 : decode cX8_alias 21 = .ok (.getfield 112, 3) := by decide +kernel
theorem dX8_alias_24 : decode cX8_alias 24 = .ok (.iconst 1, 1) := by decide +kernel
theorem dX8_alias_25 : decode cX8_alias 25 = .ok (.if_icmp .eq 11, 3) := by decide +kernel
theorem dX8_alias_28 : decode cX8_alias 28 = .ok (.new 74, 3) := by decide +kernel
theorem dX8_alias_31 : decode cX8_alias 31 = .ok (.dup, 1) := by decide +kernel
theorem dX8_alias_32 : decode cX8_alias 32 = .ok (.invokespecial 76, 3) := by decide +kernel
theorem dX8_alias_35 : decode cX8_alias 35 = .ok (.athrow, 1) := by decide +kernel
theorem dX8_alias_36 : decode cX8_alias 36 = .ok (.iload_n 2, 1) := by decide +kernel
theorem dX8_alias_37 : decode cX8_alias 37 = .ok (.ifCond .lt 25, 3) := by decide +kernel
theorem dX8_alias_40 : decode cX8_alias 40 = .ok (.iload_n 2, 1) := by decide +kernel
theorem dX8_alias_41 : decode cX8_alias 41 = .ok (.aload_n 0, 1) := by decide +kernel
theorem dX8_alias_42 : decode cX8_alias 42 = .ok (.getfield 22, 3) := by decide +kernel
theorem dX8_alias_45 : decode cX8_alias 45 = .ok (.iload_n 1, 1) := by decide +kernel
theorem dX8_alias_46 : decode cX8_alias 46 = .ok (.aaload, 1) := by decide +kernel
theorem dX8_alias_47 : decode cX8_alias 47 = .ok (.getfield 115, 3) := by decide +kernel
theorem dX8_alias_50 : decode cX8_alias 50 = .ok (.if_icmp .ge 12, 3) := by decide +kernel
theorem dX8_alias_53 : decode cX8_alias 53 = .ok (.iload_n 3, 1) := by decide +kernel
theorem dX8_alias_54 : decode cX8_alias 54 = .ok (.ifCond .lt 8, 3) := by decide +kernel
theorem dX8_alias_57 : decode cX8_alias 57 = .ok (.iload_n 3, 1) := by decide +kernel
theorem dX8_alias_58 : decode cX8_alias 58 = .ok (.iconst 1, 1) := by decide +kernel
theorem dX8_alias_59 : decode cX8_alias 59 = .ok (.if_icmp .le 11, 3) := by decide +kernel
theorem dX8_alias_62 : decode cX8_alias 62 = .ok (.new 81, 3) := by decide +kernel
theorem dX8_alias_65 : decode cX8_alias 65 = .ok (.dup, 1) := by decide +kernel
theorem dX8_alias_66 : decode cX8_alias 66 = .ok (.invokespecial 83, 3) := by decide +kernel
theorem dX8_alias_69 : decode cX8_alias 69 = .ok (.athrow, 1) := by decide +kernel
theorem dX8_alias_70 : decode cX8_alias 70 = .ok (.iload_n 3, 1) := by decide +kernel
theorem dX8_alias_71 : decode cX8_alias 71 = .ok (.ifCond .ne 17, 3) := by decide +kernel
theorem dX8_alias_74 : decode cX8_alias 74 = .ok (.aload_n 0, 1) := by decide +kernel
theorem dX8_alias_75 : decode cX8_alias 75 = .ok (.getfield 22, 3) := by decide +kernel
theorem dX8_alias_78 : decode cX8_alias 78 = .ok (.iload_n 1, 1) := by decide +kernel
theorem dX8_alias_79 : decode cX8_alias 79 = .ok (.aaload, 1) := by decide +kernel
theorem dX8_alias_80 : decode cX8_alias 80 = .ok (.getfield 118, 3) := by decide +kernel
theorem dX8_alias_83 : decode cX8_alias 83 = .ok (.iload_n 2, 1) := by decide +kernel
theorem dX8_alias_84 : decode cX8_alias 84 = .ok (.laload, 1) := by decide +kernel
theorem dX8_alias_85 : decode cX8_alias 85 = .ok (.goto 15, 3) := by decide +kernel
theorem dX8_alias_88 : decode cX8_alias 88 = .ok (.aload_n 0, 1) := by decide +kernel
theorem dX8_alias_89 : decode cX8_alias 89 = .ok (.getfield 22, 3) := by decide +kernel
theorem dX8_alias_92 : decode cX8_alias 92 = .ok (.iload_n 1, 1) := by decide +kernel
theorem dX8_alias_93 : decode cX8_alias 93 = .ok (.aaload, 1) := by decide +kernel
theorem dX8_alias_94 : decode cX8_alias 94 = .ok (.getfield 122, 3) := by decide +kernel
theorem dX8_alias_97 : decode cX8_alias 97 = .ok (.iload_n 2, 1) := by decide +kernel
theorem dX8_alias_98 : decode cX8_alias 98 = .ok (.iaload, 1) := by decide +kernel
theorem dX8_alias_99 : decode cX8_alias 99 = .ok (.i2l, 1) := by decide +kernel
theorem dX8_alias_100 : decode cX8_alias 100 = .ok (.lreturn, 1) := by decide +kernel
theorem dX8_draw_0 : decode cX8_draw 0 = .ok (.aload_n 0, 1) := by decide +kernel
theorem dX8_draw_1 : decode cX8_draw 1 = .ok (.getfield 46, 3) := by decide +kernel
theorem dX8_draw_4 : decode cX8_draw 4 = .ok (.iload_n 1, 1) := by decide +kernel
theorem dX8_draw_5 : decode cX8_draw 5 = .ok (.iload_n 2, 1) := by decide +kernel
theorem dX8_draw_6 : decode cX8_draw 6 = .ok (.iload_n 3, 1) := by decide +kernel
theorem dX8_draw_7 : decode cX8_draw 7 = .ok (.iload 4, 2) := by decide +kernel
theorem dX8_draw_9 : decode cX8_draw 9 = .ok (.invokevirtual 125, 3) := by decide +kernel
theorem dX8_draw_12 : decode cX8_draw 12 = .ok (.aload_n 0, 1) := by decide +kernel
theorem dX8_draw_13 : decode cX8_draw 13 = .ok (.getfield 46, 3) := by decide +kernel
theorem dX8_draw_16 : decode cX8_draw 16 = .ok (.invokevirtual 129, 3) := by decide +kernel
theorem dX8_draw_19 : decode cX8_draw 19 = .ok (.ifCond .ne 11, 3) := by decide +kernel
theorem dX8_draw_22 : decode cX8_draw 22 = .ok (.new 84, 3) := by decide +kernel
theorem dX8_draw_25 : decode cX8_draw 25 = .ok (.dup, 1) := by decide +kernel
theorem dX8_draw_26 : decode cX8_draw 26 = .ok (.invokespecial 86, 3) := by decide +kernel
theorem dX8_draw_29 : decode cX8_draw 29 = .ok (.athrow, 1) := by decide +kernel
theorem dX8_draw_30 : decode cX8_draw 30 = .ok (.aload_n 0, 1) := by decide +kernel
theorem dX8_draw_31 : decode cX8_draw 31 = .ok (.getfield 39, 3) := by decide +kernel
theorem dX8_draw_34 : decode cX8_draw 34 = .ok (.aload_n 0, 1) := by decide +kernel
theorem dX8_draw_35 : decode cX8_draw 35 = .ok (.getfield 46, 3) := by decide +kernel
theorem dX8_draw_38 : decode cX8_draw 38 = .ok (.invokevirtual 133, 3) := by decide +kernel
theorem dX8_draw_41 : decode cX8_draw 41 = .ok (.ifCond .ne 11, 3) := by decide +kernel
theorem dX8_draw_44 : decode cX8_draw 44 = .ok (.new 74, 3) := by decide +kernel
theorem dX8_draw_47 : decode cX8_draw 47 = .ok (.dup, 1) := by decide +kernel
theorem dX8_draw_48 : decode cX8_draw 48 = .ok (.invokespecial 76, 3) := by decide +kernel
theorem dX8_draw_51 : decode cX8_draw 51 = .ok (.athrow, 1) := by decide +kernel
theorem dX8_draw_52 : decode cX8_draw 52 = .ok (.aload_n 0, 1) := by decide +kernel
theorem dX8_draw_53 : decode cX8_draw 53 = .ok (.getfield 39, 3) := by decide +kernel
theorem dX8_draw_56 : decode cX8_draw 56 = .ok (.getfield 137, 3) := by decide +kernel
theorem dX8_draw_59 : decode cX8_draw 59 = .ok (.aload_n 0, 1) := by decide +kernel
theorem dX8_draw_60 : decode cX8_draw 60 = .ok (.getfield 18, 3) := by decide +kernel
theorem dX8_draw_63 : decode cX8_draw 63 = .ok (.getfield 141, 3) := by decide +kernel
theorem dX8_draw_66 : decode cX8_draw 66 = .ok (.aload_n 0, 1) := by decide +kernel
theorem dX8_draw_67 : decode cX8_draw 67 = .ok (.getfield 18, 3) := by decide +kernel
theorem dX8_draw_70 : decode cX8_draw 70 = .ok (.getfield 91, 3) := by decide +kernel
theorem dX8_draw_73 : decode cX8_draw 73 = .ok (.aload_n 0, 1) := by decide +kernel
theorem dX8_draw_74 : decode cX8_draw 74 = .ok (.getfield 18, 3) := by decide +kernel
theorem dX8_draw_77 : decode cX8_draw 77 = .ok (.getfield 71, 3) := by decide +kernel
theorem dX8_draw_80 : decode cX8_draw 80 = .ok (.invokevirtual 144, 3) := by decide +kernel
theorem dX8_draw_83 : decode cX8_draw 83 = .ok (.aload_n 0, 1) := by decide +kernel
theorem dX8_draw_84 : decode cX8_draw 84 = .ok (.getfield 39, 3) := by decide +kernel
theorem dX8_draw_87 : decode cX8_draw 87 = .ok (.aload_n 0, 1) := by decide +kernel
theorem dX8_draw_88 : decode cX8_draw 88 = .ok (.getfield 46, 3) := by decide +kernel
theorem dX8_draw_91 : decode cX8_draw 91 = .ok (.invokevirtual 148, 3) := by decide +kernel
theorem dX8_draw_94 : decode cX8_draw 94 = .ok (.lstore 5, 2) := by decide +kernel
theorem dX8_draw_96 : decode cX8_draw 96 = .ok (.aload_n 0, 1) := by decide +kernel
theorem dX8_draw_97 : decode cX8_draw 97 = .ok (.getfield 39, 3) := by decide +kernel
theorem dX8_draw_100 : decode cX8_draw 100 = .ok (.getfield 137, 3) := by decide +kernel
theorem dX8_draw_103 : decode cX8_draw 103 = .ok (.getfield 152, 3) := by decide +kernel
theorem dX8_draw_106 : decode cX8_draw 106 = .ok (.ifCond .eq 11, 3) := by decide +kernel
theorem dX8_draw_109 : decode cX8_draw 109 = .ok (.new 156, 3) := by decide +kernel
theorem dX8_draw_112 : decode cX8_draw 112 = .ok (.dup, 1) := by decide +kernel
theorem dX8_draw_113 : decode cX8_draw 113 = .ok (.invokespecial 158, 3) := by decide +kernel
theorem dX8_draw_116 : decode cX8_draw 116 = .ok (.athrow, 1) := by decide +kernel
theorem dX8_draw_117 : decode cX8_draw 117 = .ok (.aload_n 0, 1) := by decide +kernel
theorem dX8_draw_118 : decode cX8_draw 118 = .ok (.lload 5, 2) := by decide +kernel
theorem dX8_draw_120 : decode cX8_draw 120 = .ok (.invokevirtual 159, 3) := by decide +kernel
theorem dX8_draw_123 : decode cX8_draw 123 = .ok (.lload 5, 2) := by decide +kernel
theorem dX8_draw_125 : decode cX8_draw 125 = .ok (.lreturn, 1) := by decide +kernel
theorem dX8_item_0 : decode cX8_item 0 = .ok (.iload_n 1, 1) := by decide +kernel
theorem dX8_item_1 : decode cX8_item 1 = .ok (.ifCond .lt 11, 3) := by decide +kernel
theorem dX8_item_4 : decode cX8_item 4 = .ok (.iload_n 1, 1) := by decide +kernel
theorem dX8_item_5 : decode cX8_item 5 = .ok (.aload_n 0, 1) := by decide +kernel
theorem dX8_item_6 : decode cX8_item 6 = .ok (.getfield 64, 3) := by decide +kernel
theorem dX8_item_9 : decode cX8_item 9 = .ok (.if_icmp .lt 11, 3) := by decide +kernel
theorem dX8_item_12 : decode cX8_item 12 = .ok (.new 81, 3) := by decide +kernel
theorem dX8_item_15 : decode cX8_item 15 = .ok (.dup, 1) := by decide +kernel
theorem dX8_item_16 : decode cX8_item 16 = .ok (.invokespecial 83, 3) := by decide +kernel
theorem dX8_item_19 : decode cX8_item 19 = .ok (.athrow, 1) := by decide +kernel
theorem dX8_item_20 : decode cX8_item 20 = .ok (.aload_n 0, 1) := by decide +kernel
theorem dX8_item_21 : decode cX8_item 21 = .ok (.getfield 61, 3) := by decide +kernel
theorem dX8_item_24 : decode cX8_item 24 = .ok (.iload_n 1, 1) := by decide +kernel
theorem dX8_item_25 : decode cX8_item 25 = .ok (.iaload, 1) := by decide +kernel
theorem dX8_item_26 : decode cX8_item 26 = .ok (.ireturn, 1) := by decide +kernel
theorem dX8_decided_0 : decode cX8_decided 0 = .ok (.aload_n 0, 1) := by decide +kernel
theorem dX8_decided_1 : decode cX8_decided 1 = .ok (.getfield 46, 3) := by decide +kernel
theorem dX8_decided_4 : decode cX8_decided 4 = .ok (.iload_n 1, 1) := by decide +kernel
theorem dX8_decided_5 : decode cX8_decided 5 = .ok (.iload_n 2, 1) := by decide +kernel
theorem dX8_decided_6 : decode cX8_decided 6 = .ok (.iload_n 3, 1) := by decide +kernel
theorem dX8_decided_7 : decode cX8_decided 7 = .ok (.iload 4, 2) := by decide +kernel
theorem dX8_decided_9 : decode cX8_decided 9 = .ok (.invokevirtual 125, 3) := by decide +kernel
theorem dX8_decided_12 : decode cX8_decided 12 = .ok (.aload_n 0, 1) := by decide +kernel
theorem dX8_decided_13 : decode cX8_decided 13 = .ok (.iload 5, 2) := by decide +kernel
theorem dX8_decided_15 : decode cX8_decided 15 = .ok (.invokevirtual 163, 3) := by decide +kernel
theorem dX8_decided_18 : decode cX8_decided 18 = .ok (.aload_n 0, 1) := by decide +kernel
theorem dX8_decided_19 : decode cX8_decided 19 = .ok (.iload 5, 2) := by decide +kernel
theorem dX8_decided_21 : decode cX8_decided 21 = .ok (.iconst 1, 1) := by decide +kernel
theorem dX8_decided_22 : decode cX8_decided 22 = .ok (.iload 6, 2) := by decide +kernel
theorem dX8_decided_24 : decode cX8_decided 24 = .ok (.invokevirtual 166, 3) := by decide +kernel
theorem dX8_decided_27 : decode cX8_decided 27 = .ok (.ireturn, 1) := by decide +kernel
theorem dX8_undecided_0 : decode cX8_undecided 0 = .ok (.aload_n 0, 1) := by decide +kernel
theorem dX8_undecided_1 : decode cX8_undecided 1 = .ok (.getfield 46, 3) := by decide +kernel
theorem dX8_undecided_4 : decode cX8_undecided 4 = .ok (.iload_n 1, 1) := by decide +kernel
theorem dX8_undecided_5 : decode cX8_undecided 5 = .ok (.iload_n 2, 1) := by decide +kernel
theorem dX8_undecided_6 : decode cX8_undecided 6 = .ok (.iload_n 3, 1) := by decide +kernel
theorem dX8_undecided_7 : decode cX8_undecided 7 = .ok (.iload 4, 2) := by decide +kernel
theorem dX8_undecided_9 : decode cX8_undecided 9 = .ok (.invokevirtual 125, 3) := by decide +kernel
theorem dX8_undecided_12 : decode cX8_undecided 12 = .ok (.aload_n 0, 1) := by decide +kernel
theorem dX8_undecided_13 : decode cX8_undecided 13 = .ok (.iload 5, 2) := by decide +kernel
theorem dX8_undecided_15 : decode cX8_undecided 15 = .ok (.invokevirtual 163, 3) := by decide +kernel
theorem dX8_undecided_18 : decode cX8_undecided 18 = .ok (.aload_n 0, 1) := by decide +kernel
theorem dX8_undecided_19 : decode cX8_undecided 19 = .ok (.iload 5, 2) := by decide +kernel
theorem dX8_undecided_21 : decode cX8_undecided 21 = .ok (.iconst 0, 1) := by decide +kernel
theorem dX8_undecided_22 : decode cX8_undecided 22 = .ok (.iconst 0, 1) := by decide +kernel
theorem dX8_undecided_23 : decode cX8_undecided 23 = .ok (.invokevirtual 166, 3) := by decide +kernel
theorem dX8_undecided_26 : decode cX8_undecided 26 = .ok (.ireturn, 1) := by decide +kernel
theorem dX8_journal_0 : decode cX8_journal 0 = .ok (.iload_n 1, 1) := by decide +kernel
theorem dX8_journal_1 : decode cX8_journal 1 = .ok (.ifCond .lt 24, 3) := by decide +kernel
theorem dX8_journal_4 : decode cX8_journal 4 = .ok (.iload_n 1, 1) := by decide +kernel
theorem dX8_journal_5 : decode cX8_journal 5 = .ok (.aload_n 0, 1) := by decide +kernel
theorem dX8_journal_6 : decode cX8_journal 6 = .ok (.getfield 53, 3) := by decide +kernel
theorem dX8_journal_9 : decode cX8_journal 9 = .ok (.getfield 170, 3) := by decide +kernel
theorem dX8_journal_12 : decode cX8_journal 12 = .ok (.if_icmp .ge 13, 3) := by decide +kernel
theorem dX8_journal_15 : decode cX8_journal 15 = .ok (.iload_n 2, 1) := by decide +kernel
theorem dX8_journal_16 : decode cX8_journal 16 = .ok (.ifCond .lt 9, 3) := by decide +kernel
theorem dX8_journal_19 : decode cX8_journal 19 = .ok (.iload_n 2, 1) := by decide +kernel
theorem dX8_journal_20 : decode cX8_journal 20 = .ok (.bipush 6, 2) := by decide +kernel
theorem dX8_journal_22 : decode cX8_journal 22 = .ok (.if_icmp .le 11, 3) := by decide +kernel
theorem dX8_journal_25 : decode cX8_journal 25 = .ok (.new 81, 3) := by decide +kernel
theorem dX8_journal_28 : decode cX8_journal 28 = .ok (.dup, 1) := by decide +kernel
theorem dX8_journal_29 : decode cX8_journal 29 = .ok (.invokespecial 83, 3) := by decide +kernel
theorem dX8_journal_32 : decode cX8_journal 32 = .ok (.athrow, 1) := by decide +kernel
theorem dX8_journal_33 : decode cX8_journal 33 = .ok (.aload_n 0, 1) := by decide +kernel
theorem dX8_journal_34 : decode cX8_journal 34 = .ok (.getfield 53, 3) := by decide +kernel
theorem dX8_journal_37 : decode cX8_journal 37 = .ok (.iload_n 1, 1) := by decide +kernel
theorem dX8_journal_38 : decode cX8_journal 38 = .ok (.iload_n 2, 1) := by decide +kernel
theorem dX8_journal_39 : decode cX8_journal 39 = .ok (.invokevirtual 171, 3) := by decide +kernel
theorem dX8_journal_42 : decode cX8_journal 42 = .ok (.lreturn, 1) := by decide +kernel
theorem dX8_replay_0 : decode cX8_replay 0 = .ok (.iload_n 1, 1) := by decide +kernel
theorem dX8_replay_1 : decode cX8_replay 1 = .ok (.ifCond .lt 14, 3) := by decide +kernel
theorem dX8_replay_4 : decode cX8_replay 4 = .ok (.iload_n 1, 1) := by decide +kernel
theorem dX8_replay_5 : decode cX8_replay 5 = .ok (.aload_n 0, 1) := by decide +kernel
theorem dX8_replay_6 : decode cX8_replay 6 = .ok (.getfield 53, 3) := by decide +kernel
theorem dX8_replay_9 : decode cX8_replay 9 = .ok (.getfield 170, 3) := by decide +kernel
theorem dX8_replay_12 : decode cX8_replay 12 = .ok (.if_icmp .lt 11, 3) := by decide +kernel
theorem dX8_replay_15 : decode cX8_replay 15 = .ok (.new 81, 3) := by decide +kernel
theorem dX8_replay_18 : decode cX8_replay 18 = .ok (.dup, 1) := by decide +kernel
theorem dX8_replay_19 : decode cX8_replay 19 = .ok (.invokespecial 83, 3) := by decide +kernel
theorem dX8_replay_22 : decode cX8_replay 22 = .ok (.athrow, 1) := by decide +kernel
theorem dX8_replay_23 : decode cX8_replay 23 = .ok (.aload_n 0, 1) := by decide +kernel
theorem dX8_replay_24 : decode cX8_replay 24 = .ok (.getfield 46, 3) := by decide +kernel
theorem dX8_replay_27 : decode cX8_replay 27 = .ok (.aload_n 0, 1) := by decide +kernel
theorem dX8_replay_28 : decode cX8_replay 28 = .ok (.getfield 53, 3) := by decide +kernel
theorem dX8_replay_31 : decode cX8_replay 31 = .ok (.iload_n 1, 1) := by decide +kernel
theorem dX8_replay_32 : decode cX8_replay 32 = .ok (.iconst 0, 1) := by decide +kernel
theorem dX8_replay_33 : decode cX8_replay 33 = .ok (.invokevirtual 171, 3) := by decide +kernel
theorem dX8_replay_36 : decode cX8_replay 36 = .ok (.l2i, 1) := by decide +kernel
theorem dX8_replay_37 : decode cX8_replay 37 = .ok (.aload_n 0, 1) := by decide +kernel
theorem dX8_replay_38 : decode cX8_replay 38 = .ok (.getfield 53, 3) := by decide +kernel
theorem dX8_replay_41 : decode cX8_replay 41 = .ok (.iload_n 1, 1) := by decide +kernel
theorem dX8_replay_42 : decode cX8_replay 42 = .ok (.iconst 1, 1) := by decide +kernel
theorem dX8_replay_43 : decode cX8_replay 43 = .ok (.invokevirtual 171, 3) := by decide +kernel
theorem dX8_replay_46 : decode cX8_replay 46 = .ok (.l2i, 1) := by decide +kernel
theorem dX8_replay_47 : decode cX8_replay 47 = .ok (.aload_n 0, 1) := by decide +kernel
theorem dX8_replay_48 : decode cX8_replay 48 = .ok (.getfield 53, 3) := by decide +kernel
theorem dX8_replay_51 : decode cX8_replay 51 = .ok (.iload_n 1, 1) := by decide +kernel
theorem dX8_replay_52 : decode cX8_replay 52 = .ok (.iconst 2, 1) := by decide +kernel
theorem dX8_replay_53 : decode cX8_replay 53 = .ok (.invokevirtual 171, 3) := by decide +kernel
theorem dX8_replay_56 : decode cX8_replay 56 = .ok (.l2i, 1) := by decide +kernel
theorem dX8_replay_57 : decode cX8_replay 57 = .ok (.aload_n 0, 1) := by decide +kernel
theorem dX8_replay_58 : decode cX8_replay 58 = .ok (.getfield 53, 3) := by decide +kernel
theorem dX8_replay_61 : decode cX8_replay 61 = .ok (.iload_n 1, 1) := by decide +kernel
theorem dX8_replay_62 : decode cX8_replay 62 = .ok (.iconst 3, 1) := by decide +kernel
theorem dX8_replay_63 : decode cX8_replay 63 = .ok (.invokevirtual 171, 3) := by decide +kernel
theorem dX8_replay_66 : decode cX8_replay 66 = .ok (.l2i, 1) := by decide +kernel
theorem dX8_replay_67 : decode cX8_replay 67 = .ok (.invokevirtual 125, 3) := by decide +kernel
theorem dX8_replay_70 : decode cX8_replay 70 = .ok (.aload_n 0, 1) := by decide +kernel
theorem dX8_replay_71 : decode cX8_replay 71 = .ok (.getfield 39, 3) := by decide +kernel
theorem dX8_replay_74 : decode cX8_replay 74 = .ok (.aload_n 0, 1) := by decide +kernel
theorem dX8_replay_75 : decode cX8_replay 75 = .ok (.getfield 46, 3) := by decide +kernel
theorem dX8_replay_78 : decode cX8_replay 78 = .ok (.invokevirtual 133, 3) := by decide +kernel
theorem dX8_replay_81 : decode cX8_replay 81 = .ok (.ifCond .ne 5, 3) := by decide +kernel
theorem dX8_replay_84 : decode cX8_replay 84 = .ok (.iconst 0, 1) := by decide +kernel
theorem dX8_replay_85 : decode cX8_replay 85 = .ok (.ireturn, 1) := by decide +kernel
theorem dX8_replay_86 : decode cX8_replay 86 = .ok (.aload_n 0, 1) := by decide +kernel
theorem dX8_replay_87 : decode cX8_replay 87 = .ok (.getfield 39, 3) := by decide +kernel
theorem dX8_replay_90 : decode cX8_replay 90 = .ok (.getfield 137, 3) := by decide +kernel
theorem dX8_replay_93 : decode cX8_replay 93 = .ok (.aload_n 0, 1) := by decide +kernel
theorem dX8_replay_94 : decode cX8_replay 94 = .ok (.getfield 18, 3) := by decide +kernel
theorem dX8_replay_97 : decode cX8_replay 97 = .ok (.getfield 141, 3) := by decide +kernel
theorem dX8_replay_100 : decode cX8_replay 100 = .ok (.aload_n 0, 1) := by decide +kernel
theorem dX8_replay_101 : decode cX8_replay 101 = .ok (.getfield 53, 3) := by decide +kernel
theorem dX8_replay_104 : decode cX8_replay 104 = .ok (.iload_n 1, 1) := by decide +kernel
theorem dX8_replay_105 : decode cX8_replay 105 = .ok (.iconst 4, 1) := by decide +kernel
theorem dX8_replay_106 : decode cX8_replay 106 = .ok (.invokevirtual 171, 3) := by decide +kernel
theorem dX8_replay_109 : decode cX8_replay 109 = .ok (.l2i, 1) := by decide +kernel
theorem dX8_replay_110 : decode cX8_replay 110 = .ok (.aload_n 0, 1) := by decide +kernel
theorem dX8_replay_111 : decode cX8_replay 111 = .ok (.getfield 18, 3) := by decide +kernel
theorem dX8_replay_114 : decode cX8_replay 114 = .ok (.getfield 71, 3) := by decide +kernel
theorem dX8_replay_117 : decode cX8_replay 117 = .ok (.invokevirtual 144, 3) := by decide +kernel
theorem dX8_replay_120 : decode cX8_replay 120 = .ok (.aload_n 0, 1) := by decide +kernel
theorem dX8_replay_121 : decode cX8_replay 121 = .ok (.getfield 39, 3) := by decide +kernel
theorem dX8_replay_124 : decode cX8_replay 124 = .ok (.aload_n 0, 1) := by decide +kernel
theorem dX8_replay_125 : decode cX8_replay 125 = .ok (.getfield 46, 3) := by decide +kernel
theorem dX8_replay_128 : decode cX8_replay 128 = .ok (.invokevirtual 148, 3) := by decide +kernel
theorem dX8_replay_131 : decode cX8_replay 131 = .ok (.lstore_n 2, 1) := by decide +kernel
theorem dX8_replay_132 : decode cX8_replay 132 = .ok (.aload_n 0, 1) := by decide +kernel
theorem dX8_replay_133 : decode cX8_replay 133 = .ok (.getfield 39, 3) := by decide +kernel
theorem dX8_replay_136 : decode cX8_replay 136 = .ok (.getfield 137, 3) := by decide +kernel
theorem dX8_replay_139 : decode cX8_replay 139 = .ok (.getfield 152, 3) := by decide +kernel
theorem dX8_replay_142 : decode cX8_replay 142 = .ok (.ifCond .ne 70, 3) := by decide +kernel
theorem dX8_replay_145 : decode cX8_replay 145 = .ok (.aload_n 0, 1) := by decide +kernel
theorem dX8_replay_146 : decode cX8_replay 146 = .ok (.getfield 39, 3) := by decide +kernel
theorem dX8_replay_149 : decode cX8_replay 149 = .ok (.getfield 137, 3) := by decide +kernel
theorem dX8_replay_152 : decode cX8_replay 152 = .ok (.invokevirtual 175, 3) := by decide +kernel
theorem dX8_replay_155 : decode cX8_replay 155 = .ok (.i2l, 1) := by decide +kernel
theorem dX8_replay_156 : decode cX8_replay 156 = .ok (.aload_n 0, 1) := by decide +kernel
theorem dX8_replay_157 : decode cX8_replay 157 = .ok (.getfield 53, 3) := by decide +kernel
theorem dX8_replay_160 : decode cX8_replay 160 = .ok (.iload_n 1, 1) := by decide +kernel
theorem dX8_replay_161 : decode cX8_replay 161 = .ok (.iconst 5, 1) := by decide +kernel
theorem dX8_replay_162 : decode cX8_replay 162 = .ok (.invokevirtual 171, 3) := by decide +kernel
theorem dX8_replay_165 : decode cX8_replay 165 = .ok (.lcmp, 1) := by decide +kernel
theorem dX8_replay_166 : decode cX8_replay 166 = .ok (.ifCond .ne 46, 3) := by decide +kernel
theorem dX8_replay_169 : decode cX8_replay 169 = .ok (.lload_n 2, 1) := by decide +kernel
theorem dX8_replay_170 : decode cX8_replay 170 = .ok (.aload_n 0, 1) := by decide +kernel
theorem dX8_replay_171 : decode cX8_replay 171 = .ok (.getfield 53, 3) := by decide +kernel
theorem dX8_replay_174 : decode cX8_replay 174 = .ok (.iload_n 1, 1) := by decide +kernel
theorem dX8_replay_175 : decode cX8_replay 175 = .ok (.bipush 6, 2) := by decide +kernel
theorem dX8_replay_177 : decode cX8_replay 177 = .ok (.invokevirtual 171, 3) := by decide +kernel
theorem dX8_replay_180 : decode cX8_replay 180 = .ok (.lcmp, 1) := by decide +kernel
theorem dX8_replay_181 : decode cX8_replay 181 = .ok (.ifCond .ne 31, 3) := by decide +kernel
theorem dX8_replay_184 : decode cX8_replay 184 = .ok (.aload_n 0, 1) := by decide +kernel
theorem dX8_replay_185 : decode cX8_replay 185 = .ok (.getfield 39, 3) := by decide +kernel
theorem dX8_replay_188 : decode cX8_replay 188 = .ok (.getfield 179, 3) := by decide +kernel
theorem dX8_replay_191 : decode cX8_replay 191 = .ok (.invokevirtual 183, 3) := by decide +kernel
theorem dX8_replay_194 : decode cX8_replay 194 = .ok (.aload_n 0, 1) := by decide +kernel
theorem dX8_replay_195 : decode cX8_replay 195 = .ok (.getfield 53, 3) := by decide +kernel
theorem dX8_replay_198 : decode cX8_replay 198 = .ok (.iload_n 1, 1) := by decide +kernel
theorem dX8_replay_199 : decode cX8_replay 199 = .ok (.bipush 7, 2) := by decide +kernel
theorem dX8_replay_201 : decode cX8_replay 201 = .ok (.invokevirtual 171, 3) := by decide +kernel
theorem dX8_replay_204 : decode cX8_replay 204 = .ok (.lcmp, 1) := by decide +kernel
theorem dX8_replay_205 : decode cX8_replay 205 = .ok (.ifCond .ne 7, 3) := by decide +kernel
theorem dX8_replay_208 : decode cX8_replay 208 = .ok (.iconst 1, 1) := by decide +kernel
theorem dX8_replay_209 : decode cX8_replay 209 = .ok (.goto 4, 3) := by decide +kernel
theorem dX8_replay_212 : decode cX8_replay 212 = .ok (.iconst 0, 1) := by decide +kernel
theorem dX8_replay_213 : decode cX8_replay 213 = .ok (.ireturn, 1) := by decide +kernel
theorem dX8_count_0 : decode cX8_count 0 = .ok (.iload_n 1, 1) := by decide +kernel
theorem dX8_count_1 : decode cX8_count 1 = .ok (.tableswitch 72 0 4 #[35, 43, 51, 56, 64], 35) := by decide +kernel
theorem dX8_count_36 : decode cX8_count 36 = .ok (.aload_n 0, 1) := by decide +kernel
theorem dX8_count_37 : decode cX8_count 37 = .ok (.getfield 18, 3) := by decide +kernel
theorem dX8_count_40 : decode cX8_count 40 = .ok (.getfield 71, 3) := by decide +kernel
theorem dX8_count_43 : decode cX8_count 43 = .ok (.ireturn, 1) := by decide +kernel
theorem dX8_count_44 : decode cX8_count 44 = .ok (.aload_n 0, 1) := by decide +kernel
theorem dX8_count_45 : decode cX8_count 45 = .ok (.getfield 18, 3) := by decide +kernel
theorem dX8_count_48 : decode cX8_count 48 = .ok (.getfield 91, 3) := by decide +kernel
theorem dX8_count_51 : decode cX8_count 51 = .ok (.ireturn, 1) := by decide +kernel
theorem dX8_count_52 : decode cX8_count 52 = .ok (.aload_n 0, 1) := by decide +kernel
theorem dX8_count_53 : decode cX8_count 53 = .ok (.getfield 68, 3) := by decide +kernel
theorem dX8_count_56 : decode cX8_count 56 = .ok (.ireturn, 1) := by decide +kernel
theorem dX8_count_57 : decode cX8_count 57 = .ok (.aload_n 0, 1) := by decide +kernel
theorem dX8_count_58 : decode cX8_count 58 = .ok (.getfield 53, 3) := by decide +kernel
theorem dX8_count_61 : decode cX8_count 61 = .ok (.getfield 170, 3) := by decide +kernel
theorem dX8_count_64 : decode cX8_count 64 = .ok (.ireturn, 1) := by decide +kernel
theorem dX8_count_65 : decode cX8_count 65 = .ok (.aload_n 0, 1) := by decide +kernel
theorem dX8_count_66 : decode cX8_count 66 = .ok (.getfield 53, 3) := by decide +kernel
theorem dX8_count_69 : decode cX8_count 69 = .ok (.getfield 186, 3) := by decide +kernel
theorem dX8_count_72 : decode cX8_count 72 = .ok (.ireturn, 1) := by decide +kernel
theorem dX8_count_73 : decode cX8_count 73 = .ok (.iconst (-1), 1) := by decide +kernel
theorem dX8_count_74 : decode cX8_count 74 = .ok (.ireturn, 1) := by decide +kernel
theorem dX8_isNoTable_0 : decode cX8_isNoTable 0 = .ok (.iload_n 0, 1) := by decide +kernel
theorem dX8_isNoTable_1 : decode cX8_isNoTable 1 = .ok (.ifCond .lt 9, 3) := by decide +kernel
theorem dX8_isNoTable_4 : decode cX8_isNoTable 4 = .ok (.iload_n 0, 1) := by decide +kernel
theorem dX8_isNoTable_5 : decode cX8_isNoTable 5 = .ok (.bipush 8, 2) := by decide +kernel
theorem dX8_isNoTable_7 : decode cX8_isNoTable 7 = .ok (.if_icmp .lt 7, 3) := by decide +kernel
theorem dX8_isNoTable_10 : decode cX8_isNoTable 10 = .ok (.iconst 1, 1) := by decide +kernel
theorem dX8_isNoTable_11 : decode cX8_isNoTable 11 = .ok (.goto 4, 3) := by decide +kernel
theorem dX8_isNoTable_14 : decode cX8_isNoTable 14 = .ok (.iconst 0, 1) := by decide +kernel
theorem dX8_isNoTable_15 : decode cX8_isNoTable 15 = .ok (.ireturn, 1) := by decide +kernel
theorem dX8_keep_0 : decode cX8_keep 0 = .ok (.aload_n 0, 1) := by decide +kernel
theorem dX8_keep_1 : decode cX8_keep 1 = .ok (.aload_n 0, 1) := by decide +kernel
theorem dX8_keep_2 : decode cX8_keep 2 = .ok (.getfield 39, 3) := by decide +kernel
theorem dX8_keep_5 : decode cX8_keep 5 = .ok (.getfield 137, 3) := by decide +kernel
theorem dX8_keep_8 : decode cX8_keep 8 = .ok (.invokevirtual 175, 3) := by decide +kernel
theorem dX8_keep_11 : decode cX8_keep 11 = .ok (.putfield 68, 3) := by decide +kernel
theorem dX8_keep_14 : decode cX8_keep 14 = .ok (.aload_n 0, 1) := by decide +kernel
theorem dX8_keep_15 : decode cX8_keep 15 = .ok (.getfield 53, 3) := by decide +kernel
theorem dX8_keep_18 : decode cX8_keep 18 = .ok (.aload_n 0, 1) := by decide +kernel
theorem dX8_keep_19 : decode cX8_keep 19 = .ok (.getfield 46, 3) := by decide +kernel
theorem dX8_keep_22 : decode cX8_keep 22 = .ok (.aload_n 0, 1) := by decide +kernel
theorem dX8_keep_23 : decode cX8_keep 23 = .ok (.getfield 18, 3) := by decide +kernel
theorem dX8_keep_26 : decode cX8_keep 26 = .ok (.getfield 91, 3) := by decide +kernel
theorem dX8_keep_29 : decode cX8_keep 29 = .ok (.aload_n 0, 1) := by decide +kernel
theorem dX8_keep_30 : decode cX8_keep 30 = .ok (.getfield 68, 3) := by decide +kernel
theorem dX8_keep_33 : decode cX8_keep 33 = .ok (.lload_n 1, 1) := by decide +kernel
theorem dX8_keep_34 : decode cX8_keep 34 = .ok (.aload_n 0, 1) := by decide +kernel
theorem dX8_keep_35 : decode cX8_keep 35 = .ok (.getfield 39, 3) := by decide +kernel
theorem dX8_keep_38 : decode cX8_keep 38 = .ok (.getfield 179, 3) := by decide +kernel
theorem dX8_keep_41 : decode cX8_keep 41 = .ok (.invokevirtual 183, 3) := by decide +kernel
theorem dX8_keep_44 : decode cX8_keep 44 = .ok (.invokevirtual 189, 3) := by decide +kernel
theorem dX8_keep_47 : decode cX8_keep 47 = .ok (.aload_n 0, 1) := by decide +kernel
theorem dX8_keep_48 : decode cX8_keep 48 = .ok (.getfield 18, 3) := by decide +kernel
theorem dX8_keep_51 : decode cX8_keep 51 = .ok (.dup, 1) := by decide +kernel
theorem dX8_keep_52 : decode cX8_keep 52 = .ok (.getfield 91, 3) := by decide +kernel
theorem dX8_keep_55 : decode cX8_keep 55 = .ok (.aload_n 0, 1) := by decide +kernel
theorem dX8_keep_56 : decode cX8_keep 56 = .ok (.getfield 68, 3) := by decide +kernel
theorem dX8_keep_59 : decode cX8_keep 59 = .ok (.iadd, 1) := by decide +kernel
theorem dX8_keep_60 : decode cX8_keep 60 = .ok (.putfield 91, 3) := by decide +kernel
theorem dX8_keep_63 : decode cX8_keep 63 = .ok (.aload_n 0, 1) := by decide +kernel
theorem dX8_keep_64 : decode cX8_keep 64 = .ok (.getfield 46, 3) := by decide +kernel
theorem dX8_keep_67 : decode cX8_keep 67 = .ok (.getfield 193, 3) := by decide +kernel
theorem dX8_keep_70 : decode cX8_keep 70 = .ok (.bipush 9, 2) := by decide +kernel
theorem dX8_keep_72 : decode cX8_keep 72 = .ok (.if_icmp .lt 40, 3) := by decide +kernel
theorem dX8_keep_75 : decode cX8_keep 75 = .ok (.aload_n 0, 1) := by decide +kernel
theorem dX8_keep_76 : decode cX8_keep 76 = .ok (.aload_n 0, 1) := by decide +kernel
theorem dX8_keep_77 : decode cX8_keep 77 = .ok (.getfield 39, 3) := by decide +kernel
theorem dX8_keep_80 : decode cX8_keep 80 = .ok (.getfield 179, 3) := by decide +kernel
theorem dX8_keep_83 : decode cX8_keep 83 = .ok (.getfield 196, 3) := by decide +kernel
theorem dX8_keep_86 : decode cX8_keep 86 = .ok (.putfield 64, 3) := by decide +kernel
theorem dX8_keep_89 : decode cX8_keep 89 = .ok (.aload_n 0, 1) := by decide +kernel
theorem dX8_keep_90 : decode cX8_keep 90 = .ok (.getfield 39, 3) := by decide +kernel
theorem dX8_keep_93 : decode cX8_keep 93 = .ok (.getfield 179, 3) := by decide +kernel
theorem dX8_keep_96 : decode cX8_keep 96 = .ok (.getfield 197, 3) := by decide +kernel
theorem dX8_keep_99 : decode cX8_keep 99 = .ok (.iconst 0, 1) := by decide +kernel
theorem dX8_keep_100 : decode cX8_keep 100 = .ok (.aload_n 0, 1) := by decide +kernel
theorem dX8_keep_101 : decode cX8_keep 101 = .ok (.getfield 61, 3) := by decide +kernel
theorem dX8_keep_104 : decode cX8_keep 104 = .ok (.iconst 0, 1) := by decide +kernel
theorem dX8_keep_105 : decode cX8_keep 105 = .ok (.aload_n 0, 1) := by decide +kernel
theorem dX8_keep_106 : decode cX8_keep 106 = .ok (.getfield 64, 3) := by decide +kernel
theorem dX8_keep_109 : decode cX8_keep 109 = .ok (.invokestatic 198, 3) := by decide +kernel
theorem dX8_keep_112 : decode cX8_keep 112 = .ok (.return_, 1) := by decide +kernel
theorem dX8_requireCountable_0 : decode cX8_requireCountable 0 = .ok (.aload_n 0, 1) := by decide +kernel
theorem dX8_requireCountable_1 : decode cX8_requireCountable 1 = .ok (.getfield 46, 3) := by decide +kernel
theorem dX8_requireCountable_4 : decode cX8_requireCountable 4 = .ok (.getfield 193, 3) := by decide +kernel
theorem dX8_requireCountable_7 : decode cX8_requireCountable 7 = .ok (.bipush 8, 2) := by decide +kernel
theorem dX8_requireCountable_9 : decode cX8_requireCountable 9 = .ok (.if_icmp .gt 23, 3) := by decide +kernel
theorem dX8_requireCountable_12 : decode cX8_requireCountable 12 = .ok (.aload_n 0, 1) := by decide +kernel
theorem dX8_requireCountable_13 : decode cX8_requireCountable 13 = .ok (.getfield 46, 3) := by decide +kernel
theorem dX8_requireCountable_16 : decode cX8_requireCountable 16 = .ok (.invokevirtual 129, 3) := by decide +kernel
theorem dX8_requireCountable_19 : decode cX8_requireCountable 19 = .ok (.ifCond .eq 13, 3) := by decide +kernel
theorem dX8_requireCountable_22 : decode cX8_requireCountable 22 = .ok (.iload_n 1, 1) := by decide +kernel
theorem dX8_requireCountable_23 : decode cX8_requireCountable 23 = .ok (.ifCond .lt 9, 3) := by decide +kernel
theorem dX8_requireCountable_26 : decode cX8_requireCountable 26 = .ok (.iload_n 1, 1) := by decide +kernel
theorem dX8_requireCountable_27 : decode cX8_requireCountable 27 = .ok (.bipush 12, 2) := by decide +kernel
theorem dX8_requireCountable_29 : decode cX8_requireCountable 29 = .ok (.if_icmp .le 11, 3) := by decide +kernel
theorem dX8_requireCountable_32 : decode cX8_requireCountable 32 = .ok (.new 84, 3) := by decide +kernel
theorem dX8_requireCountable_35 : decode cX8_requireCountable 35 = .ok (.dup, 1) := by decide +kernel
theorem dX8_requireCountable_36 : decode cX8_requireCountable 36 = .ok (.invokespecial 86, 3) := by decide +kernel
theorem dX8_requireCountable_39 : decode cX8_requireCountable 39 = .ok (.athrow, 1) := by decide +kernel
theorem dX8_requireCountable_40 : decode cX8_requireCountable 40 = .ok (.aload_n 0, 1) := by decide +kernel
theorem dX8_requireCountable_41 : decode cX8_requireCountable 41 = .ok (.getfield 39, 3) := by decide +kernel
theorem dX8_requireCountable_44 : decode cX8_requireCountable 44 = .ok (.aload_n 0, 1) := by decide +kernel
theorem dX8_requireCountable_45 : decode cX8_requireCountable 45 = .ok (.getfield 46, 3) := by decide +kernel
theorem dX8_requireCountable_48 : decode cX8_requireCountable 48 = .ok (.invokevirtual 133, 3) := by decide +kernel
theorem dX8_requireCountable_51 : decode cX8_requireCountable 51 = .ok (.ifCond .ne 11, 3) := by decide +kernel
theorem dX8_requireCountable_54 : decode cX8_requireCountable 54 = .ok (.new 74, 3) := by decide +kernel
theorem dX8_requireCountable_57 : decode cX8_requireCountable 57 = .ok (.dup, 1) := by decide +kernel
theorem dX8_requireCountable_58 : decode cX8_requireCountable 58 = .ok (.invokespecial 76, 3) := by decide +kernel
theorem dX8_requireCountable_61 : decode cX8_requireCountable 61 = .ok (.athrow, 1) := by decide +kernel
theorem dX8_requireCountable_62 : decode cX8_requireCountable 62 = .ok (.return_, 1) := by decide +kernel
theorem dX8_tally_0 : decode cX8_tally 0 = .ok (.iconst 1, 1) := by decide +kernel
theorem dX8_tally_1 : decode cX8_tally 1 = .ok (.iload_n 1, 1) := by decide +kernel
theorem dX8_tally_2 : decode cX8_tally 2 = .ok (.ishl, 1) := by decide +kernel
theorem dX8_tally_3 : decode cX8_tally 3 = .ok (.istore 4, 2) := by decide +kernel
theorem dX8_tally_5 : decode cX8_tally 5 = .ok (.iconst 0, 1) := by decide +kernel
theorem dX8_tally_6 : decode cX8_tally 6 = .ok (.istore 5, 2) := by decide +kernel
theorem dX8_tally_8 : decode cX8_tally 8 = .ok (.iconst 1, 1) := by decide +kernel
theorem dX8_tally_9 : decode cX8_tally 9 = .ok (.istore 6, 2) := by decide +kernel
theorem dX8_tally_11 : decode cX8_tally 11 = .ok (.iconst 0, 1) := by decide +kernel
theorem dX8_tally_12 : decode cX8_tally 12 = .ok (.istore 7, 2) := by decide +kernel
theorem dX8_tally_14 : decode cX8_tally 14 = .ok (.iload 7, 2) := by decide +kernel
theorem dX8_tally_16 : decode cX8_tally 16 = .ok (.iload 4, 2) := by decide +kernel
theorem dX8_tally_18 : decode cX8_tally 18 = .ok (.if_icmp .ge 127, 3) := by decide +kernel
theorem dX8_tally_21 : decode cX8_tally 21 = .ok (.aload_n 0, 1) := by decide +kernel
theorem dX8_tally_22 : decode cX8_tally 22 = .ok (.getfield 57, 3) := by decide +kernel
theorem dX8_tally_25 : decode cX8_tally 25 = .ok (.iconst 0, 1) := by decide +kernel
theorem dX8_tally_26 : decode cX8_tally 26 = .ok (.iload 7, 2) := by decide +kernel
theorem dX8_tally_28 : decode cX8_tally 28 = .ok (.bipush 32, 2) := by decide +kernel
theorem dX8_tally_30 : decode cX8_tally 30 = .ok (.iload_n 1, 1) := by decide +kernel
theorem dX8_tally_31 : decode cX8_tally 31 = .ok (.isub, 1) := by decide +kernel
theorem dX8_tally_32 : decode cX8_tally 32 = .ok (.ishl, 1) := by decide +kernel
theorem dX8_tally_33 : decode cX8_tally 33 = .ok (.iastore, 1) := by decide +kernel
theorem dX8_tally_34 : decode cX8_tally 34 = .ok (.aload_n 0, 1) := by decide +kernel
theorem dX8_tally_35 : decode cX8_tally 35 = .ok (.getfield 39, 3) := by decide +kernel
theorem dX8_tally_38 : decode cX8_tally 38 = .ok (.getfield 137, 3) := by decide +kernel
theorem dX8_tally_41 : decode cX8_tally 41 = .ok (.aload_n 0, 1) := by decide +kernel
theorem dX8_tally_42 : decode cX8_tally 42 = .ok (.getfield 57, 3) := by decide +kernel
theorem dX8_tally_45 : decode cX8_tally 45 = .ok (.iconst 0, 1) := by decide +kernel
theorem dX8_tally_46 : decode cX8_tally 46 = .ok (.iload_n 1, 1) := by decide +kernel
theorem dX8_tally_47 : decode cX8_tally 47 = .ok (.invokevirtual 144, 3) := by decide +kernel
theorem dX8_tally_50 : decode cX8_tally 50 = .ok (.aload_n 0, 1) := by decide +kernel
theorem dX8_tally_51 : decode cX8_tally 51 = .ok (.getfield 39, 3) := by decide +kernel
theorem dX8_tally_54 : decode cX8_tally 54 = .ok (.aload_n 0, 1) := by decide +kernel
theorem dX8_tally_55 : decode cX8_tally 55 = .ok (.getfield 46, 3) := by decide +kernel
theorem dX8_tally_58 : decode cX8_tally 58 = .ok (.invokevirtual 148, 3) := by decide +kernel
theorem dX8_tally_61 : decode cX8_tally 61 = .ok (.lstore 8, 2) := by decide +kernel
theorem dX8_tally_63 : decode cX8_tally 63 = .ok (.aload_n 0, 1) := by decide +kernel
theorem dX8_tally_64 : decode cX8_tally 64 = .ok (.getfield 39, 3) := by decide +kernel
theorem dX8_tally_67 : decode cX8_tally 67 = .ok (.getfield 137, 3) := by decide +kernel
theorem dX8_tally_70 : decode cX8_tally 70 = .ok (.getfield 152, 3) := by decide +kernel
theorem dX8_tally_73 : decode cX8_tally 73 = .ok (.istore 10, 2) := by decide +kernel
theorem dX8_tally_75 : decode cX8_tally 75 = .ok (.iload 10, 2) := by decide +kernel
theorem dX8_tally_77 : decode cX8_tally 77 = .ok (.ifCond .eq 7, 3) := by decide +kernel
theorem dX8_tally_80 : decode cX8_tally 80 = .ok (.iconst 1, 1) := by decide +kernel
theorem dX8_tally_81 : decode cX8_tally 81 = .ok (.goto 20, 3) := by decide +kernel
theorem dX8_tally_84 : decode cX8_tally 84 = .ok (.iconst 1, 1) := by decide +kernel
theorem dX8_tally_85 : decode cX8_tally 85 = .ok (.iload 4, 2) := by decide +kernel
theorem dX8_tally_87 : decode cX8_tally 87 = .ok (.aload_n 0, 1) := by decide +kernel
theorem dX8_tally_88 : decode cX8_tally 88 = .ok (.getfield 39, 3) := by decide +kernel
theorem dX8_tally_91 : decode cX8_tally 91 = .ok (.getfield 137, 3) := by decide +kernel
theorem dX8_tally_94 : decode cX8_tally 94 = .ok (.invokevirtual 175, 3) := by decide +kernel
theorem dX8_tally_97 : decode cX8_tally 97 = .ok (.ishr, 1) := by decide +kernel
theorem dX8_tally_98 : decode cX8_tally 98 = .ok (.invokestatic 204, 3) := by decide +kernel
theorem dX8_tally_101 : decode cX8_tally 101 = .ok (.istore 6, 2) := by decide +kernel
theorem dX8_tally_103 : decode cX8_tally 103 = .ok (.iload_n 2, 1) := by decide +kernel
theorem dX8_tally_104 : decode cX8_tally 104 = .ok (.ifCond .eq 19, 3) := by decide +kernel
theorem dX8_tally_107 : decode cX8_tally 107 = .ok (.iload 10, 2) := by decide +kernel
theorem dX8_tally_109 : decode cX8_tally 109 = .ok (.ifCond .ne 26, 3) := by decide +kernel
theorem dX8_tally_112 : decode cX8_tally 112 = .ok (.lload 8, 2) := by decide +kernel
theorem dX8_tally_114 : decode cX8_tally 114 = .ok (.iload_n 3, 1) := by decide +kernel
theorem dX8_tally_115 : decode cX8_tally 115 = .ok (.i2l, 1) := by decide +kernel
theorem dX8_tally_116 : decode cX8_tally 116 = .ok (.lcmp, 1) := by decide +kernel
theorem dX8_tally_117 : decode cX8_tally 117 = .ok (.ifCond .ne 18, 3) := by decide +kernel
theorem dX8_tally_120 : decode cX8_tally 120 = .ok (.goto 8, 3) := by decide +kernel
theorem dX8_tally_123 : decode cX8_tally 123 = .ok (.iload 10, 2) := by decide +kernel
theorem dX8_tally_125 : decode cX8_tally 125 = .ok (.ifCond .eq 10, 3) := by decide +kernel
theorem dX8_tally_128 : decode cX8_tally 128 = .ok (.iload 5, 2) := by decide +kernel
theorem dX8_tally_130 : decode cX8_tally 130 = .ok (.iload 6, 2) := by decide +kernel
theorem dX8_tally_132 : decode cX8_tally 132 = .ok (.iadd, 1) := by decide +kernel
theorem dX8_tally_133 : decode cX8_tally 133 = .ok (.istore 5, 2) := by decide +kernel
theorem dX8_tally_135 : decode cX8_tally 135 = .ok (.iload 7, 2) := by decide +kernel
theorem dX8_tally_137 : decode cX8_tally 137 = .ok (.iload 6, 2) := by decide +kernel
theorem dX8_tally_139 : decode cX8_tally 139 = .ok (.iadd, 1) := by decide +kernel
theorem dX8_tally_140 : decode cX8_tally 140 = .ok (.istore 7, 2) := by decide +kernel
theorem dX8_tally_142 : decode cX8_tally 142 = .ok (.goto (-128), 3) := by decide +kernel
theorem dX8_tally_145 : decode cX8_tally 145 = .ok (.iload 5, 2) := by decide +kernel
theorem dX8_tally_147 : decode cX8_tally 147 = .ok (.ireturn, 1) := by decide +kernel
