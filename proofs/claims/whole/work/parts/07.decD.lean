theorem dX9_init_0 : decode cX9_init 0 = .ok (.aload_n 0, 1) := by decide +kernel
theorem dX9_init_1 : decode cX9_init 1 = .ok (.invokespecial 1, 3) := by decide +kernel
theorem dX9_init_4 : decode cX9_init 4 = .ok (.aload_n 0, 1) := by decide +kernel
theorem dX9_init_5 : decode cX9_init 5 = .ok (.sipush 16384, 3) := by decide +kernel
theorem dX9_init_8 : decode cX9_init 8 = .ok (.newarray .int, 2) := by decide +kernel
theorem dX9_init_10 : decode cX9_init 10 = .ok (.putfield 7, 3) := by decide +kernel
theorem dX9_init_13 : decode cX9_init 13 = .ok (.aload_n 0, 1) := by decide +kernel
theorem dX9_init_14 : decode cX9_init 14 = .ok (.sipush 512, 3) := by decide +kernel
theorem dX9_init_17 : decode cX9_init 17 = .ok (.newarray .long, 2) := by decide +kernel
theorem dX9_init_19 : decode cX9_init 19 = .ok (.putfield 13, 3) := by decide +kernel
theorem dX9_init_22 : decode cX9_init 22 = .ok (.aload_n 0, 1) := by decide +kernel
theorem dX9_init_23 : decode cX9_init 23 = .ok (.bipush 8, 2) := by decide +kernel
theorem dX9_init_25 : decode cX9_init 25 = .ok (.newarray .int, 2) := by decide +kernel
theorem dX9_init_27 : decode cX9_init 27 = .ok (.putfield 17, 3) := by decide +kernel
theorem dX9_init_30 : decode cX9_init 30 = .ok (.aload_n 0, 1) := by decide +kernel
theorem dX9_init_31 : decode cX9_init 31 = .ok (.sipush 512, 3) := by decide +kernel
theorem dX9_init_34 : decode cX9_init 34 = .ok (.newarray .long, 2) := by decide +kernel
theorem dX9_init_36 : decode cX9_init 36 = .ok (.putfield 20, 3) := by decide +kernel
theorem dX9_init_39 : decode cX9_init 39 = .ok (.aload_n 0, 1) := by decide +kernel
theorem dX9_init_40 : decode cX9_init 40 = .ok (.sipush 512, 3) := by decide +kernel
theorem dX9_init_43 : decode cX9_init 43 = .ok (.newarray .int, 2) := by decide +kernel
theorem dX9_init_45 : decode cX9_init 45 = .ok (.putfield 23, 3) := by decide +kernel
theorem dX9_init_48 : decode cX9_init 48 = .ok (.aload_n 0, 1) := by decide +kernel
theorem dX9_init_49 : decode cX9_init 49 = .ok (.bipush 8, 2) := by decide +kernel
theorem dX9_init_51 : decode cX9_init 51 = .ok (.newarray .int, 2) := by decide +kernel
theorem dX9_init_53 : decode cX9_init 53 = .ok (.putfield 26, 3) := by decide +kernel
theorem dX9_init_56 : decode cX9_init 56 = .ok (.aload_n 0, 1) := by decide +kernel
theorem dX9_init_57 : decode cX9_init 57 = .ok (.bipush 64, 2) := by decide +kernel
theorem dX9_init_59 : decode cX9_init 59 = .ok (.newarray .long, 2) := by decide +kernel
theorem dX9_init_61 : decode cX9_init 61 = .ok (.putfield 29, 3) := by decide +kernel
theorem dX9_init_64 : decode cX9_init 64 = .ok (.aload_n 0, 1) := by decide +kernel
theorem dX9_init_65 : decode cX9_init 65 = .ok (.sipush 512, 3) := by decide +kernel
theorem dX9_init_68 : decode cX9_init 68 = .ok (.newarray .int, 2) := by decide +kernel
theorem dX9_init_70 : decode cX9_init 70 = .ok (.putfield 32, 3) := by decide +kernel
theorem dX9_init_73 : decode cX9_init 73 = .ok (.aload_n 0, 1) := by decide +kernel
theorem dX9_init_74 : decode cX9_init 74 = .ok (.sipush 256, 3) := by decide +kernel
theorem dX9_init_77 : decode cX9_init 77 = .ok (.newarray .int, 2) := by decide +kernel
theorem dX9_init_79 : decode cX9_init 79 = .ok (.putfield 35, 3) := by decide +kernel
theorem dX9_init_82 : decode cX9_init 82 = .ok (.aload_n 0, 1) := by decide +kernel
theorem dX9_init_83 : decode cX9_init 83 = .ok (.sipush 256, 3) := by decide +kernel
theorem dX9_init_86 : decode cX9_init 86 = .ok (.newarray .int, 2) := by decide +kernel
theorem dX9_init_88 : decode cX9_init 88 = .ok (.putfield 38, 3) := by decide +kernel
theorem dX9_init_91 : decode cX9_init 91 = .ok (.aload_n 0, 1) := by decide +kernel
theorem dX9_init_92 : decode cX9_init 92 = .ok (.sipush 700, 3) := by decide +kernel
theorem dX9_init_95 : decode cX9_init 95 = .ok (.newarray .int, 2) := by decide +kernel
theorem dX9_init_97 : decode cX9_init 97 = .ok (.putfield 41, 3) := by decide +kernel
theorem dX9_init_100 : decode cX9_init 100 = .ok (.aload_n 0, 1) := by decide +kernel
theorem dX9_init_101 : decode cX9_init 101 = .ok (.bipush 100, 2) := by decide +kernel
theorem dX9_init_103 : decode cX9_init 103 = .ok (.newarray .long, 2) := by decide +kernel
theorem dX9_init_105 : decode cX9_init 105 = .ok (.putfield 44, 3) := by decide +kernel
theorem dX9_init_108 : decode cX9_init 108 = .ok (.return_, 1) := by decide +kernel
theorem dX9_thrown_0 : decode cX9_thrown 0 = .ok (.aload_n 0, 1) := by decide +kernel
theorem dX9_thrown_1 : decode cX9_thrown 1 = .ok (.getfield 47, 3) := by decide +kernel
theorem dX9_thrown_4 : decode cX9_thrown 4 = .ok (.ireturn, 1) := by decide +kernel
theorem dX9_fail_0 : decode cX9_fail 0 = .ok (.aload_n 0, 1) := by decide +kernel
theorem dX9_fail_1 : decode cX9_fail 1 = .ok (.iload_n 1, 1) := by decide +kernel
theorem dX9_fail_2 : decode cX9_fail 2 = .ok (.putfield 47, 3) := by decide +kernel
theorem dX9_fail_5 : decode cX9_fail 5 = .ok (.iconst 0, 1) := by decide +kernel
theorem dX9_fail_6 : decode cX9_fail 6 = .ok (.ireturn, 1) := by decide +kernel
theorem dX9_within_0 : decode cX9_within 0 = .ok (.lload_n 0, 1) := by decide +kernel
theorem dX9_within_1 : decode cX9_within 1 = .ok (.lload_n 2, 1) := by decide +kernel
theorem dX9_within_2 : decode cX9_within 2 = .ok (.lcmp, 1) := by decide +kernel
theorem dX9_within_3 : decode cX9_within 3 = .ok (.ifCond .lt 14, 3) := by decide +kernel
theorem dX9_within_6 : decode cX9_within 6 = .ok (.lload_n 0, 1) := by decide +kernel
theorem dX9_within_7 : decode cX9_within 7 = .ok (.lload 4, 2) := by decide +kernel
theorem dX9_within_9 : decode cX9_within 9 = .ok (.lcmp, 1) := by decide +kernel
theorem dX9_within_10 : decode cX9_within 10 = .ok (.ifCond .gt 7, 3) := by decide +kernel
theorem dX9_within_13 : decode cX9_within 13 = .ok (.iconst 1, 1) := by decide +kernel
theorem dX9_within_14 : decode cX9_within 14 = .ok (.goto 4, 3) := by decide +kernel
theorem dX9_within_17 : decode cX9_within 17 = .ok (.iconst 0, 1) := by decide +kernel
theorem dX9_within_18 : decode cX9_within 18 = .ok (.ireturn, 1) := by decide +kernel
theorem dX9_feed_0 : decode cX9_feed 0 = .ok (.aload_n 0, 1) := by decide +kernel
theorem dX9_feed_1 : decode cX9_feed 1 = .ok (.iconst 0, 1) := by decide +kernel
theorem dX9_feed_2 : decode cX9_feed 2 = .ok (.putfield 47, 3) := by decide +kernel
theorem dX9_feed_5 : decode cX9_feed 5 = .ok (.aload_n 0, 1) := by decide +kernel
theorem dX9_feed_6 : decode cX9_feed 6 = .ok (.getfield 51, 3) := by decide +kernel
theorem dX9_feed_9 : decode cX9_feed 9 = .ok (.sipush 128, 3) := by decide +kernel
theorem dX9_feed_12 : decode cX9_feed 12 = .ok (.iadd, 1) := by decide +kernel
theorem dX9_feed_13 : decode cX9_feed 13 = .ok (.sipush 16384, 3) := by decide +kernel
theorem dX9_feed_16 : decode cX9_feed 16 = .ok (.if_icmp .le 9, 3) := by decide +kernel
theorem dX9_feed_19 : decode cX9_feed 19 = .ok (.aload_n 0, 1) := by decide +kernel
theorem dX9_feed_20 : decode cX9_feed 20 = .ok (.iconst 1, 1) := by decide +kernel
theorem dX9_feed_21 : decode cX9_feed 21 = .ok (.invokevirtual 54, 3) := by decide +kernel
theorem dX9_feed_24 : decode cX9_feed 24 = .ok (.ireturn, 1) := by decide +kernel
theorem dX9_feed_25 : decode cX9_feed 25 = .ok (.iconst 0, 1) := by decide +kernel
theorem dX9_feed_26 : decode cX9_feed 26 = .ok (.istore 5, 2) := by decide +kernel
theorem dX9_feed_28 : decode cX9_feed 28 = .ok (.iload 5, 2) := by decide +kernel
theorem dX9_feed_30 : decode cX9_feed 30 = .ok (.sipush 128, 3) := by decide +kernel
theorem dX9_feed_33 : decode cX9_feed 33 = .ok (.if_icmp .ge 71, 3) := by decide +kernel
theorem dX9_feed_36 : decode cX9_feed 36 = .ok (.iload 5, 2) := by decide +kernel
theorem dX9_feed_38 : decode cX9_feed 38 = .ok (.bipush 32, 2) := by decide +kernel
theorem dX9_feed_40 : decode cX9_feed 40 = .ok (.if_icmp .ge 7, 3) := by decide +kernel
theorem dX9_feed_43 : decode cX9_feed 43 = .ok (.iload_n 1, 1) := by decide +kernel
theorem dX9_feed_44 : decode cX9_feed 44 = .ok (.goto 27, 3) := by decide +kernel
theorem dX9_feed_47 : decode cX9_feed 47 = .ok (.iload 5, 2) := by decide +kernel
theorem dX9_feed_49 : decode cX9_feed 49 = .ok (.bipush 64, 2) := by decide +kernel
theorem dX9_feed_51 : decode cX9_feed 51 = .ok (.if_icmp .ge 7, 3) := by decide +kernel
theorem dX9_feed_54 : decode cX9_feed 54 = .ok (.iload_n 2, 1) := by decide +kernel
theorem dX9_feed_55 : decode cX9_feed 55 = .ok (.goto 16, 3) := by decide +kernel
theorem dX9_feed_58 : decode cX9_feed 58 = .ok (.iload 5, 2) := by decide +kernel
theorem dX9_feed_60 : decode cX9_feed 60 = .ok (.bipush 96, 2) := by decide +kernel
theorem dX9_feed_62 : decode cX9_feed 62 = .ok (.if_icmp .ge 7, 3) := by decide +kernel
theorem dX9_feed_65 : decode cX9_feed 65 = .ok (.iload_n 3, 1) := by decide +kernel
theorem dX9_feed_66 : decode cX9_feed 66 = .ok (.goto 5, 3) := by decide +kernel
theorem dX9_feed_69 : decode cX9_feed 69 = .ok (.iload 4, 2) := by decide +kernel
theorem dX9_feed_71 : decode cX9_feed 71 = .ok (.istore 6, 2) := by decide +kernel
theorem dX9_feed_73 : decode cX9_feed 73 = .ok (.aload_n 0, 1) := by decide +kernel
theorem dX9_feed_74 : decode cX9_feed 74 = .ok (.getfield 7, 3) := by decide +kernel
theorem dX9_feed_77 : decode cX9_feed 77 = .ok (.aload_n 0, 1) := by decide +kernel
theorem dX9_feed_78 : decode cX9_feed 78 = .ok (.getfield 51, 3) := by decide +kernel
theorem dX9_feed_81 : decode cX9_feed 81 = .ok (.iload 5, 2) := by decide +kernel
theorem dX9_feed_83 : decode cX9_feed 83 = .ok (.iadd, 1) := by decide +kernel
theorem dX9_feed_84 : decode cX9_feed 84 = .ok (.iload 6, 2) := by decide +kernel
theorem dX9_feed_86 : decode cX9_feed 86 = .ok (.bipush 31, 2) := by decide +kernel
theorem dX9_feed_88 : decode cX9_feed 88 = .ok (.iload 5, 2) := by decide +kernel
theorem dX9_feed_90 : decode cX9_feed 90 = .ok (.bipush 32, 2) := by decide +kernel
theorem dX9_feed_92 : decode cX9_feed 92 = .ok (.irem, 1) := by decide +kernel
theorem dX9_feed_93 : decode cX9_feed 93 = .ok (.isub, 1) := by decide +kernel
theorem dX9_feed_94 : decode cX9_feed 94 = .ok (.ishr, 1) := by decide +kernel
theorem dX9_feed_95 : decode cX9_feed 95 = .ok (.iconst 1, 1) := by decide +kernel
theorem dX9_feed_96 : decode cX9_feed 96 = .ok (.iand, 1) := by decide +kernel
theorem dX9_feed_97 : decode cX9_feed 97 = .ok (.iastore, 1) := by decide +kernel
theorem dX9_feed_98 : decode cX9_feed 98 = .ok (.iinc 5 1, 3) := by decide +kernel
theorem dX9_feed_101 : decode cX9_feed 101 = .ok (.goto (-73), 3) := by decide +kernel
theorem dX9_feed_104 : decode cX9_feed 104 = .ok (.aload_n 0, 1) := by decide +kernel
theorem dX9_feed_105 : decode cX9_feed 105 = .ok (.dup, 1) := by decide +kernel
theorem dX9_feed_106 : decode cX9_feed 106 = .ok (.getfield 51, 3) := by decide +kernel
theorem dX9_feed_109 : decode cX9_feed 109 = .ok (.sipush 128, 3) := by decide +kernel
theorem dX9_feed_112 : decode cX9_feed 112 = .ok (.iadd, 1) := by decide +kernel
theorem dX9_feed_113 : decode cX9_feed 113 = .ok (.putfield 51, 3) := by decide +kernel
theorem dX9_feed_116 : decode cX9_feed 116 = .ok (.aload_n 0, 1) := by decide +kernel
theorem dX9_feed_117 : decode cX9_feed 117 = .ok (.getfield 51, 3) := by decide +kernel
theorem dX9_feed_120 : decode cX9_feed 120 = .ok (.ireturn, 1) := by decide +kernel
theorem dX9_bit_0 : decode cX9_bit 0 = .ok (.aload_n 0, 1) := by decide +kernel
theorem dX9_bit_1 : decode cX9_bit 1 = .ok (.iconst 0, 1) := by decide +kernel
theorem dX9_bit_2 : decode cX9_bit 2 = .ok (.putfield 47, 3) := by decide +kernel
theorem dX9_bit_5 : decode cX9_bit 5 = .ok (.iload_n 1, 1) := by decide +kernel
theorem dX9_bit_6 : decode cX9_bit 6 = .ok (.i2l, 1) := by decide +kernel
theorem dX9_bit_7 : decode cX9_bit 7 = .ok (.lconst 0, 1) := by decide +kernel
theorem dX9_bit_8 : decode cX9_bit 8 = .ok (.aload_n 0, 1) := by decide +kernel
theorem dX9_bit_9 : decode cX9_bit 9 = .ok (.getfield 51, 3) := by decide +kernel
theorem dX9_bit_12 : decode cX9_bit 12 = .ok (.iconst 1, 1) := by decide +kernel
theorem dX9_bit_13 : decode cX9_bit 13 = .ok (.isub, 1) := by decide +kernel
theorem dX9_bit_14 : decode cX9_bit 14 = .ok (.i2l, 1) := by decide +kernel
theorem dX9_bit_15 : decode cX9_bit 15 = .ok (.invokestatic 58, 3) := by decide +kernel
theorem dX9_bit_18 : decode cX9_bit 18 = .ok (.ifCond .ne 9, 3) := by decide +kernel
theorem dX9_bit_21 : decode cX9_bit 21 = .ok (.aload_n 0, 1) := by decide +kernel
theorem dX9_bit_22 : decode cX9_bit 22 = .ok (.iconst 1, 1) := by decide +kernel
theorem dX9_bit_23 : decode cX9_bit 23 = .ok (.invokevirtual 54, 3) := by decide +kernel
theorem dX9_bit_26 : decode cX9_bit 26 = .ok (.ireturn, 1) := by decide +kernel
theorem dX9_bit_27 : decode cX9_bit 27 = .ok (.iload_n 2, 1) := by decide +kernel
theorem dX9_bit_28 : decode cX9_bit 28 = .ok (.i2l, 1) := by decide +kernel
theorem dX9_bit_29 : decode cX9_bit 29 = .ok (.lconst 0, 1) := by decide +kernel
theorem dX9_bit_30 : decode cX9_bit 30 = .ok (.lconst 1, 1) := by decide +kernel
theorem dX9_bit_31 : decode cX9_bit 31 = .ok (.invokestatic 58, 3) := by decide +kernel
theorem dX9_bit_34 : decode cX9_bit 34 = .ok (.ifCond .ne 9, 3) := by decide +kernel
theorem dX9_bit_37 : decode cX9_bit 37 = .ok (.aload_n 0, 1) := by decide +kernel
theorem dX9_bit_38 : decode cX9_bit 38 = .ok (.iconst 2, 1) := by decide +kernel
theorem dX9_bit_39 : decode cX9_bit 39 = .ok (.invokevirtual 54, 3) := by decide +kernel
theorem dX9_bit_42 : decode cX9_bit 42 = .ok (.ireturn, 1) := by decide +kernel
theorem dX9_bit_43 : decode cX9_bit 43 = .ok (.aload_n 0, 1) := by decide +kernel
theorem dX9_bit_44 : decode cX9_bit 44 = .ok (.getfield 7, 3) := by decide +kernel
theorem dX9_bit_47 : decode cX9_bit 47 = .ok (.iload_n 1, 1) := by decide +kernel
theorem dX9_bit_48 : decode cX9_bit 48 = .ok (.iaload, 1) := by decide +kernel
theorem dX9_bit_49 : decode cX9_bit 49 = .ok (.istore_n 3, 1) := by decide +kernel
theorem dX9_bit_50 : decode cX9_bit 50 = .ok (.aload_n 0, 1) := by decide +kernel
theorem dX9_bit_51 : decode cX9_bit 51 = .ok (.getfield 7, 3) := by decide +kernel
theorem dX9_bit_54 : decode cX9_bit 54 = .ok (.iload_n 1, 1) := by decide +kernel
theorem dX9_bit_55 : decode cX9_bit 55 = .ok (.iload_n 2, 1) := by decide +kernel
theorem dX9_bit_56 : decode cX9_bit 56 = .ok (.iastore, 1) := by decide +kernel
theorem dX9_bit_57 : decode cX9_bit 57 = .ok (.iload_n 3, 1) := by decide +kernel
theorem dX9_bit_58 : decode cX9_bit 58 = .ok (.ireturn, 1) := by decide +kernel
theorem dX9_rewind_0 : decode cX9_rewind 0 = .ok (.aload_n 0, 1) := by decide +kernel
theorem dX9_rewind_1 : decode cX9_rewind 1 = .ok (.iconst 0, 1) := by decide +kernel
theorem dX9_rewind_2 : decode cX9_rewind 2 = .ok (.putfield 47, 3) := by decide +kernel
theorem dX9_rewind_5 : decode cX9_rewind 5 = .ok (.iload_n 1, 1) := by decide +kernel
theorem dX9_rewind_6 : decode cX9_rewind 6 = .ok (.i2l, 1) := by decide +kernel
theorem dX9_rewind_7 : decode cX9_rewind 7 = .ok (.lconst 0, 1) := by decide +kernel
theorem dX9_rewind_8 : decode cX9_rewind 8 = .ok (.aload_n 0, 1) := by decide +kernel
theorem dX9_rewind_9 : decode cX9_rewind 9 = .ok (.getfield 51, 3) := by decide +kernel
theorem dX9_rewind_12 : decode cX9_rewind 12 = .ok (.i2l, 1) := by decide +kernel
theorem dX9_rewind_13 : decode cX9_rewind 13 = .ok (.invokestatic 58, 3) := by decide +kernel
theorem dX9_rewind_16 : decode cX9_rewind 16 = .ok (.ifCond .ne 9, 3) := by decide +kernel
theorem dX9_rewind_19 : decode cX9_rewind 19 = .ok (.aload_n 0, 1) := by decide +kernel
theorem dX9_rewind_20 : decode cX9_rewind 20 = .ok (.iconst 1, 1) := by decide +kernel
theorem dX9_rewind_21 : decode cX9_rewind 21 = .ok (.invokevirtual 54, 3) := by decide +kernel
theorem dX9_rewind_24 : decode cX9_rewind 24 = .ok (.ireturn, 1) := by decide +kernel
theorem dX9_rewind_25 : decode cX9_rewind 25 = .ok (.aload_n 0, 1) := by decide +kernel
theorem dX9_rewind_26 : decode cX9_rewind 26 = .ok (.getfield 62, 3) := by decide +kernel
theorem dX9_rewind_29 : decode cX9_rewind 29 = .ok (.istore_n 2, 1) := by decide +kernel
theorem dX9_rewind_30 : decode cX9_rewind 30 = .ok (.aload_n 0, 1) := by decide +kernel
theorem dX9_rewind_31 : decode cX9_rewind 31 = .ok (.iload_n 1, 1) := by decide +kernel
theorem dX9_rewind_32 : decode cX9_rewind 32 = .ok (.putfield 62, 3) := by decide +kernel
theorem dX9_rewind_35 : decode cX9_rewind 35 = .ok (.iload_n 2, 1) := by decide +kernel
theorem dX9_rewind_36 : decode cX9_rewind 36 = .ok (.ireturn, 1) := by decide +kernel
theorem dX9_weight_0 : decode cX9_weight 0 = .ok (.aload_n 0, 1) := by decide +kernel
theorem dX9_weight_1 : decode cX9_weight 1 = .ok (.iconst 0, 1) := by decide +kernel
theorem dX9_weight_2 : decode cX9_weight 2 = .ok (.putfield 47, 3) := by decide +kernel
theorem dX9_weight_5 : decode cX9_weight 5 = .ok (.iload_n 1, 1) := by decide +kernel
theorem dX9_weight_6 : decode cX9_weight 6 = .ok (.i2l, 1) := by decide +kernel
theorem dX9_weight_7 : decode cX9_weight 7 = .ok (.lconst 0, 1) := by decide +kernel
theorem dX9_weight_8 : decode cX9_weight 8 = .ok (.ldc2_w 65, 3) := by decide +kernel
theorem dX9_weight_11 : decode cX9_weight 11 = .ok (.invokestatic 58, 3) := by decide +kernel
theorem dX9_weight_14 : decode cX9_weight 14 = .ok (.ifCond .eq 15, 3) := by decide +kernel
theorem dX9_weight_17 : decode cX9_weight 17 = .ok (.iload_n 2, 1) := by decide +kernel
theorem dX9_weight_18 : decode cX9_weight 18 = .ok (.i2l, 1) := by decide +kernel
theorem dX9_weight_19 : decode cX9_weight 19 = .ok (.lconst 0, 1) := by decide +kernel
theorem dX9_weight_20 : decode cX9_weight 20 = .ok (.ldc2_w 67, 3) := by decide +kernel
theorem dX9_weight_23 : decode cX9_weight 23 = .ok (.invokestatic 58, 3) := by decide +kernel
theorem dX9_weight_26 : decode cX9_weight 26 = .ok (.ifCond .ne 9, 3) := by decide +kernel
theorem dX9_weight_29 : decode cX9_weight 29 = .ok (.aload_n 0, 1) := by decide +kernel
theorem dX9_weight_30 : decode cX9_weight 30 = .ok (.iconst 1, 1) := by decide +kernel
theorem dX9_weight_31 : decode cX9_weight 31 = .ok (.invokevirtual 54, 3) := by decide +kernel
theorem dX9_weight_34 : decode cX9_weight 34 = .ok (.ireturn, 1) := by decide +kernel
theorem dX9_weight_35 : decode cX9_weight 35 = .ok (.iload_n 3, 1) := by decide +kernel
theorem dX9_weight_36 : decode cX9_weight 36 = .ok (.ifCond .ge 9, 3) := by decide +kernel
theorem dX9_weight_39 : decode cX9_weight 39 = .ok (.aload_n 0, 1) := by decide +kernel
theorem dX9_weight_40 : decode cX9_weight 40 = .ok (.iconst 2, 1) := by decide +kernel
theorem dX9_weight_41 : decode cX9_weight 41 = .ok (.invokevirtual 54, 3) := by decide +kernel
theorem dX9_weight_44 : decode cX9_weight 44 = .ok (.ireturn, 1) := by decide +kernel
theorem dX9_weight_45 : decode cX9_weight 45 = .ok (.aload_n 0, 1) := by decide +kernel
theorem dX9_weight_46 : decode cX9_weight 46 = .ok (.getfield 13, 3) := by decide +kernel
theorem dX9_weight_49 : decode cX9_weight 49 = .ok (.bipush 64, 2) := by decide +kernel
theorem dX9_weight_51 : decode cX9_weight 51 = .ok (.iload_n 1, 1) := by decide +kernel
theorem dX9_weight_52 : decode cX9_weight 52 = .ok (.imul, 1) := by decide +kernel
theorem dX9_weight_53 : decode cX9_weight 53 = .ok (.iload_n 2, 1) := by decide +kernel
theorem dX9_weight_54 : decode cX9_weight 54 = .ok (.iadd, 1) := by decide +kernel
theorem dX9_weight_55 : decode cX9_weight 55 = .ok (.laload, 1) := by decide +kernel
theorem dX9_weight_56 : decode cX9_weight 56 = .ok (.l2i, 1) := by decide +kernel
theorem dX9_weight_57 : decode cX9_weight 57 = .ok (.istore 4, 2) := by decide +kernel
theorem dX9_weight_59 : decode cX9_weight 59 = .ok (.aload_n 0, 1) := by decide +kernel
theorem dX9_weight_60 : decode cX9_weight 60 = .ok (.getfield 13, 3) := by decide +kernel
theorem dX9_weight_63 : decode cX9_weight 63 = .ok (.bipush 64, 2) := by decide +kernel
theorem dX9_weight_65 : decode cX9_weight 65 = .ok (.iload_n 1, 1) := by decide +kernel
theorem dX9_weight_66 : decode cX9_weight 66 = .ok (.imul, 1) := by decide +kernel
theorem dX9_weight_67 : decode cX9_weight 67 = .ok (.iload_n 2, 1) := by decide +kernel
theorem dX9_weight_68 : decode cX9_weight 68 = .ok (.iadd, 1) := by decide +kernel
theorem dX9_weight_69 : decode cX9_weight 69 = .ok (.iload_n 3, 1) := by decide +kernel
theorem dX9_weight_70 : decode cX9_weight 70 = .ok (.i2l, 1) := by decide +kernel
theorem dX9_weight_71 : decode cX9_weight 71 = .ok (.lastore, 1) := by decide +kernel
theorem dX9_weight_72 : decode cX9_weight 72 = .ok (.aload_n 0, 1) := by decide +kernel
theorem dX9_weight_73 : decode cX9_weight 73 = .ok (.getfield 17, 3) := by decide +kernel
theorem dX9_weight_76 : decode cX9_weight 76 = .ok (.iload_n 1, 1) := by decide +kernel
theorem dX9_weight_77 : decode cX9_weight 77 = .ok (.iconst 0, 1) := by decide +kernel
theorem dX9_weight_78 : decode cX9_weight 78 = .ok (.iastore, 1) := by decide +kernel
theorem dX9_weight_79 : decode cX9_weight 79 = .ok (.iload 4, 2) := by decide +kernel
theorem dX9_weight_81 : decode cX9_weight 81 = .ok (.ireturn, 1) := by decide +kernel
theorem dX9_sum_0 : decode cX9_sum 0 = .ok (.lconst 0, 1) := by decide +kernel
theorem dX9_sum_1 : decode cX9_sum 1 = .ok (.lstore_n 2, 1) := by decide +kernel
theorem dX9_sum_2 : decode cX9_sum 2 = .ok (.iconst 0, 1) := by decide +kernel
theorem dX9_sum_3 : decode cX9_sum 3 = .ok (.istore 4, 2) := by decide +kernel
theorem dX9_sum_5 : decode cX9_sum 5 = .ok (.iload 4, 2) := by decide +kernel
theorem dX9_sum_7 : decode cX9_sum 7 = .ok (.bipush 64, 2) := by decide +kernel
theorem dX9_sum_9 : decode cX9_sum 9 = .ok (.if_icmp .ge 24, 3) := by decide +kernel
theorem dX9_sum_12 : decode cX9_sum 12 = .ok (.lload_n 2, 1) := by decide +kernel
theorem dX9_sum_13 : decode cX9_sum 13 = .ok (.aload_n 0, 1) := by decide +kernel
theorem dX9_sum_14 : decode cX9_sum 14 = .ok (.getfield 13, 3) := by decide +kernel
theorem dX9_sum_17 : decode cX9_sum 17 = .ok (.bipush 64, 2) := by decide +kernel
theorem dX9_sum_19 : decode cX9_sum 19 = .ok (.iload_n 1, 1) := by decide +kernel
theorem dX9_sum_20 : decode cX9_sum 20 = .ok (.imul, 1) := by decide +kernel
theorem dX9_sum_21 : decode cX9_sum 21 = .ok (.iload 4, 2) := by decide +kernel
theorem dX9_sum_23 : decode cX9_sum 23 = .ok (.iadd, 1) := by decide +kernel
theorem dX9_sum_24 : decode cX9_sum 24 = .ok (.laload, 1) := by decide +kernel
theorem dX9_sum_25 : decode cX9_sum 25 = .ok (.ladd, 1) := by decide +kernel
theorem dX9_sum_26 : decode cX9_sum 26 = .ok (.lstore_n 2, 1) := by decide +kernel
theorem dX9_sum_27 : decode cX9_sum 27 = .ok (.iinc 4 1, 3) := by decide +kernel
theorem dX9_sum_30 : decode cX9_sum 30 = .ok (.goto (-25), 3) := by decide +kernel
theorem dX9_sum_33 : decode cX9_sum 33 = .ok (.lload_n 2, 1) := by decide +kernel
theorem dX9_sum_34 : decode cX9_sum 34 = .ok (.lreturn, 1) := by decide +kernel
theorem dX9_findAliases_0 : decode cX9_findAliases 0 = .ok (.aload_n 0, 1) := by decide +kernel
theorem dX9_findAliases_1 : decode cX9_findAliases 1 = .ok (.iload_n 1, 1) := by decide +kernel
theorem dX9_findAliases_2 : decode cX9_findAliases 2 = .ok (.invokevirtual 69, 3) := by decide +kernel
theorem dX9_findAliases_5 : decode cX9_findAliases 5 = .ok (.lstore_n 2, 1) := by decide +kernel
theorem dX9_findAliases_6 : decode cX9_findAliases 6 = .ok (.iconst 0, 1) := by decide +kernel
theorem dX9_findAliases_7 : decode cX9_findAliases 7 = .ok (.istore 4, 2) := by decide +kernel
theorem dX9_findAliases_9 : decode cX9_findAliases 9 = .ok (.iconst 0, 1) := by decide +kernel
theorem dX9_findAliases_10 : decode cX9_findAliases 10 = .ok (.istore 5, 2) := by decide +kernel
theorem dX9_findAliases_12 : decode cX9_findAliases 12 = .ok (.iload 5, 2) := by decide +kernel
theorem dX9_findAliases_14 : decode cX9_findAliases 14 = .ok (.bipush 64, 2) := by decide +kernel
theorem dX9_findAliases_16 : decode cX9_findAliases 16 = .ok (.if_icmp .ge 37, 3) := by decide +kernel
theorem dX9_findAliases_19 : decode cX9_findAliases 19 = .ok (.aload_n 0, 1) := by decide +kernel
theorem dX9_findAliases_20 : decode cX9_findAliases 20 = .ok (.getfield 13, 3) := by decide +kernel
theorem dX9_findAliases_23 : decode cX9_findAliases 23 = .ok (.bipush 64, 2) := by decide +kernel
theorem dX9_findAliases_25 : decode cX9_findAliases 25 = .ok (.iload_n 1, 1) := by decide +kernel
theorem dX9_findAliases_26 : decode cX9_findAliases 26 = .ok (.imul, 1) := by decide +kernel
theorem dX9_findAliases_27 : decode cX9_findAliases 27 = .ok (.iload 5, 2) := by decide +kernel
theorem dX9_findAliases_29 : decode cX9_findAliases 29 = .ok (.iadd, 1) := by decide +kernel
theorem dX9_findAliases_30 : decode cX9_findAliases 30 = .ok (.laload, 1) := by decide +kernel
theorem dX9_findAliases_31 : decode cX9_findAliases 31 = .ok (.lconst 0, 1) := by decide +kernel
theorem dX9_findAliases_32 : decode cX9_findAliases 32 = .ok (.lcmp, 1) := by decide +kernel
theorem dX9_findAliases_33 : decode cX9_findAliases 33 = .ok (.ifCond .le 10, 3) := by decide +kernel
theorem dX9_findAliases_36 : decode cX9_findAliases 36 = .ok (.iload 5, 2) := by decide +kernel
theorem dX9_findAliases_38 : decode cX9_findAliases 38 = .ok (.iconst 1, 1) := by decide +kernel
theorem dX9_findAliases_39 : decode cX9_findAliases 39 = .ok (.iadd, 1) := by decide +kernel
theorem dX9_findAliases_40 : decode cX9_findAliases 40 = .ok (.goto 5, 3) := by decide +kernel
theorem dX9_findAliases_43 : decode cX9_findAliases 43 = .ok (.iload 4, 2) := by decide +kernel
theorem dX9_findAliases_45 : decode cX9_findAliases 45 = .ok (.istore 4, 2) := by decide +kernel
theorem dX9_findAliases_47 : decode cX9_findAliases 47 = .ok (.iinc 5 1, 3) := by decide +kernel
theorem dX9_findAliases_50 : decode cX9_findAliases 50 = .ok (.goto (-38), 3) := by decide +kernel
theorem dX9_findAliases_53 : decode cX9_findAliases 53 = .ok (.aload_n 0, 1) := by decide +kernel
theorem dX9_findAliases_54 : decode cX9_findAliases 54 = .ok (.getfield 26, 3) := by decide +kernel
theorem dX9_findAliases_57 : decode cX9_findAliases 57 = .ok (.iload_n 1, 1) := by decide +kernel
theorem dX9_findAliases_58 : decode cX9_findAliases 58 = .ok (.iload 4, 2) := by decide +kernel
theorem dX9_findAliases_60 : decode cX9_findAliases 60 = .ok (.iastore, 1) := by decide +kernel
theorem dX9_findAliases_61 : decode cX9_findAliases 61 = .ok (.iconst 0, 1) := by decide +kernel
theorem dX9_findAliases_62 : decode cX9_findAliases 62 = .ok (.istore 5, 2) := by decide +kernel
theorem dX9_findAliases_64 : decode cX9_findAliases 64 = .ok (.iconst 0, 1) := by decide +kernel
theorem dX9_findAliases_65 : decode cX9_findAliases 65 = .ok (.istore 6, 2) := by decide +kernel
theorem dX9_findAliases_67 : decode cX9_findAliases 67 = .ok (.iload 6, 2) := by decide +kernel
theorem dX9_findAliases_69 : decode cX9_findAliases 69 = .ok (.iload 4, 2) := by decide +kernel
theorem dX9_findAliases_71 : decode cX9_findAliases 71 = .ok (.if_icmp .ge 83, 3) := by decide +kernel
theorem dX9_findAliases_74 : decode cX9_findAliases 74 = .ok (.aload_n 0, 1) := by decide +kernel
theorem dX9_findAliases_75 : decode cX9_findAliases 75 = .ok (.getfield 29, 3) := by decide +kernel
theorem dX9_findAliases_78 : decode cX9_findAliases 78 = .ok (.iload 6, 2) := by decide +kernel
theorem dX9_findAliases_80 : decode cX9_findAliases 80 = .ok (.iload 4, 2) := by decide +kernel
theorem dX9_findAliases_82 : decode cX9_findAliases 82 = .ok (.i2l, 1) := by decide +kernel
theorem dX9_findAliases_83 : decode cX9_findAliases 83 = .ok (.aload_n 0, 1) := by decide +kernel
theorem dX9_findAliases_84 : decode cX9_findAliases 84 = .ok (.getfield 13, 3) := by decide +kernel
theorem dX9_findAliases_87 : decode cX9_findAliases 87 = .ok (.bipush 64, 2) := by decide +kernel
theorem dX9_findAliases_89 : decode cX9_findAliases 89 = .ok (.iload_n 1, 1) := by decide +kernel
theorem dX9_findAliases_90 : decode cX9_findAliases 90 = .ok (.imul, 1) := by decide +kernel
theorem dX9_findAliases_91 : decode cX9_findAliases 91 = .ok (.iload 6, 2) := by decide +kernel
theorem dX9_findAliases_93 : decode cX9_findAliases 93 = .ok (.iadd, 1) := by decide +kernel
theorem dX9_findAliases_94 : decode cX9_findAliases 94 = .ok (.laload, 1) := by decide +kernel
theorem dX9_findAliases_95 : decode cX9_findAliases 95 = .ok (.lmul, 1) := by decide +kernel
theorem dX9_findAliases_96 : decode cX9_findAliases 96 = .ok (.lastore, 1) := by decide +kernel
theorem dX9_findAliases_97 : decode cX9_findAliases 97 = .ok (.aload_n 0, 1) := by decide +kernel
theorem dX9_findAliases_98 : decode cX9_findAliases 98 = .ok (.getfield 20, 3) := by decide +kernel
theorem dX9_findAliases_101 : decode cX9_findAliases 101 = .ok (.bipush 64, 2) := by decide +kernel
theorem dX9_findAliases_103 : decode cX9_findAliases 103 = .ok (.iload_n 1, 1) := by decide +kernel
theorem dX9_findAliases_104 : decode cX9_findAliases 104 = .ok (.imul, 1) := by decide +kernel
theorem dX9_findAliases_105 : decode cX9_findAliases 105 = .ok (.iload 6, 2) := by decide +kernel
theorem dX9_findAliases_107 : decode cX9_findAliases 107 = .ok (.iadd, 1) := by decide +kernel
theorem dX9_findAliases_108 : decode cX9_findAliases 108 = .ok (.lload_n 2, 1) := by decide +kernel
theorem dX9_findAliases_109 : decode cX9_findAliases 109 = .ok (.lastore, 1) := by decide +kernel
theorem dX9_findAliases_110 : decode cX9_findAliases 110 = .ok (.aload_n 0, 1) := by decide +kernel
theorem dX9_findAliases_111 : decode cX9_findAliases 111 = .ok (.getfield 23, 3) := by decide +kernel
theorem dX9_findAliases_114 : decode cX9_findAliases 114 = .ok (.bipush 64, 2) := by decide +kernel
theorem dX9_findAliases_116 : decode cX9_findAliases 116 = .ok (.iload_n 1, 1) := by decide +kernel
theorem dX9_findAliases_117 : decode cX9_findAliases 117 = .ok (.imul, 1) := by decide +kernel
theorem dX9_findAliases_118 : decode cX9_findAliases 118 = .ok (.iload 6, 2) := by decide +kernel
theorem dX9_findAliases_120 : decode cX9_findAliases 120 = .ok (.iadd, 1) := by decide +kernel
theorem dX9_findAliases_121 : decode cX9_findAliases 121 = .ok (.iload 6, 2) := by decide +kernel
theorem dX9_findAliases_123 : decode cX9_findAliases 123 = .ok (.iastore, 1) := by decide +kernel
theorem dX9_findAliases_124 : decode cX9_findAliases 124 = .ok (.aload_n 0, 1) := by decide +kernel
theorem dX9_findAliases_125 : decode cX9_findAliases 125 = .ok (.getfield 29, 3) := by decide +kernel
theorem dX9_findAliases_128 : decode cX9_findAliases 128 = .ok (.iload 6, 2) := by decide +kernel
theorem dX9_findAliases_130 : decode cX9_findAliases 130 = .ok (.laload, 1) := by decide +kernel
theorem dX9_findAliases_131 : decode cX9_findAliases 131 = .ok (.lload_n 2, 1) := by decide +kernel
theorem dX9_findAliases_132 : decode cX9_findAliases 132 = .ok (.lcmp, 1) := by decide +kernel
theorem dX9_findAliases_133 : decode cX9_findAliases 133 = .ok (.ifCond .ge 15, 3) := by decide +kernel
theorem dX9_findAliases_136 : decode cX9_findAliases 136 = .ok (.aload_n 0, 1) := by decide +kernel
theorem dX9_findAliases_137 : decode cX9_findAliases 137 = .ok (.getfield 32, 3) := by decide +kernel
theorem dX9_findAliases_140 : decode cX9_findAliases 140 = .ok (.iload 5, 2) := by decide +kernel
theorem dX9_findAliases_142 : decode cX9_findAliases 142 = .ok (.iload 6, 2) := by decide +kernel
theorem dX9_findAliases_144 : decode cX9_findAliases 144 = .ok (.iastore, 1) := by decide +kernel
theorem dX9_findAliases_145 : decode cX9_findAliases 145 = .ok (.iinc 5 1, 3) := by decide +kernel
theorem dX9_findAliases_148 : decode cX9_findAliases 148 = .ok (.iinc 6 1, 3) := by decide +kernel
theorem dX9_findAliases_151 : decode cX9_findAliases 151 = .ok (.goto (-84), 3) := by decide +kernel
theorem dX9_findAliases_154 : decode cX9_findAliases 154 = .ok (.iconst 0, 1) := by decide +kernel
theorem dX9_findAliases_155 : decode cX9_findAliases 155 = .ok (.istore 6, 2) := by decide +kernel
theorem dX9_findAliases_157 : decode cX9_findAliases 157 = .ok (.iload 6, 2) := by decide +kernel
theorem dX9_findAliases_159 : decode cX9_findAliases 159 = .ok (.iload 5, 2) := by decide +kernel
theorem dX9_findAliases_161 : decode cX9_findAliases 161 = .ok (.if_icmp .ge 115, 3) := by decide +kernel
theorem dX9_findAliases_164 : decode cX9_findAliases 164 = .ok (.aload_n 0, 1) := by decide +kernel
theorem dX9_findAliases_165 : decode cX9_findAliases 165 = .ok (.getfield 32, 3) := by decide +kernel
theorem dX9_findAliases_168 : decode cX9_findAliases 168 = .ok (.iload 6, 2) := by decide +kernel
theorem dX9_findAliases_170 : decode cX9_findAliases 170 = .ok (.iaload, 1) := by decide +kernel
theorem dX9_findAliases_171 : decode cX9_findAliases 171 = .ok (.istore 7, 2) := by decide +kernel
theorem dX9_findAliases_173 : decode cX9_findAliases 173 = .ok (.iconst 0, 1) := by decide +kernel
theorem dX9_findAliases_174 : decode cX9_findAliases 174 = .ok (.istore 8, 2) := by decide +kernel
theorem dX9_findAliases_176 : decode cX9_findAliases 176 = .ok (.aload_n 0, 1) := by decide +kernel
theorem dX9_findAliases_177 : decode cX9_findAliases 177 = .ok (.getfield 29, 3) := by decide +kernel
theorem dX9_findAliases_180 : decode cX9_findAliases 180 = .ok (.iload 8, 2) := by decide +kernel
theorem dX9_findAliases_182 : decode cX9_findAliases 182 = .ok (.laload, 1) := by decide +kernel
theorem dX9_findAliases_183 : decode cX9_findAliases 183 = .ok (.lload_n 2, 1) := by decide +kernel
theorem dX9_findAliases_184 : decode cX9_findAliases 184 = .ok (.lcmp, 1) := by decide +kernel
theorem dX9_findAliases_185 : decode cX9_findAliases 185 = .ok (.ifCond .ge 9, 3) := by decide +kernel
theorem dX9_findAliases_188 : decode cX9_findAliases 188 = .ok (.iinc 8 1, 3) := by decide +kernel
theorem dX9_findAliases_191 : decode cX9_findAliases 191 = .ok (.goto (-15), 3) := by decide +kernel
theorem dX9_findAliases_194 : decode cX9_findAliases 194 = .ok (.aload_n 0, 1) := by decide +kernel
theorem dX9_findAliases_195 : decode cX9_findAliases 195 = .ok (.getfield 20, 3) := by decide +kernel
theorem dX9_findAliases_198 : decode cX9_findAliases 198 = .ok (.bipush 64, 2) := by decide +kernel
theorem dX9_findAliases_200 : decode cX9_findAliases 200 = .ok (.iload_n 1, 1) := by decide +kernel
theorem dX9_findAliases_201 : decode cX9_findAliases 201 = .ok (.imul, 1) := by decide +kernel
theorem dX9_findAliases_202 : decode cX9_findAliases 202 = .ok (.iload 7, 2) := by decide +kernel
theorem dX9_findAliases_204 : decode cX9_findAliases 204 = .ok (.iadd, 1) := by decide +kernel
theorem dX9_findAliases_205 : decode cX9_findAliases 205 = .ok (.aload_n 0, 1) := by decide +kernel
theorem dX9_findAliases_206 : decode cX9_findAliases 206 = .ok (.getfield 29, 3) := by decide +kernel
theorem dX9_findAliases_209 : decode cX9_findAliases 209 = .ok (.iload 7, 2) := by decide +kernel
theorem dX9_findAliases_211 : decode cX9_findAliases 211 = .ok (.laload, 1) := by decide +kernel
theorem dX9_findAliases_212 : decode cX9_findAliases 212 = .ok (.lastore, 1) := by decide +kernel
theorem dX9_findAliases_213 : decode cX9_findAliases 213 = .ok (.aload_n 0, 1) := by decide +kernel
theorem dX9_findAliases_214 : decode cX9_findAliases 214 = .ok (.getfield 23, 3) := by decide +kernel
theorem dX9_findAliases_217 : decode cX9_findAliases 217 = .ok (.bipush 64, 2) := by decide +kernel
theorem dX9_findAliases_219 : decode cX9_findAliases 219 = .ok (.iload_n 1, 1) := by decide +kernel
theorem dX9_findAliases_220 : decode cX9_findAliases 220 = .ok (.imul, 1) := by decide +kernel
theorem dX9_findAliases_221 : decode cX9_findAliases 221 = .ok (.iload 7, 2) := by decide +kernel
theorem dX9_findAliases_223 : decode cX9_findAliases 223 = .ok (.iadd, 1) := by decide +kernel
theorem dX9_findAliases_224 : decode cX9_findAliases 224 = .ok (.iload 8, 2) := by decide +kernel
theorem dX9_findAliases_226 : decode cX9_findAliases 226 = .ok (.iastore, 1) := by decide +kernel
theorem dX9_findAliases_227 : decode cX9_findAliases 227 = .ok (.aload_n 0, 1) := by decide +kernel
theorem dX9_findAliases_228 : decode cX9_findAliases 228 = .ok (.getfield 29, 3) := by decide +kernel
theorem dX9_findAliases_231 : decode cX9_findAliases 231 = .ok (.iload 8, 2) := by decide +kernel
theorem dX9_findAliases_233 : decode cX9_findAliases 233 = .ok (.dup2, 1) := by decide +kernel
theorem dX9_findAliases_234 : decode cX9_findAliases 234 = .ok (.laload, 1) := by decide +kernel
theorem dX9_findAliases_235 : decode cX9_findAliases 235 = .ok (.lload_n 2, 1) := by decide +kernel
theorem dX9_findAliases_236 : decode cX9_findAliases 236 = .ok (.aload_n 0, 1) := by decide +kernel
theorem dX9_findAliases_237 : decode cX9_findAliases 237 = .ok (.getfield 29, 3) := by decide +kernel
theorem dX9_findAliases_240 : decode cX9_findAliases 240 = .ok (.iload 7, 2) := by decide +kernel
theorem dX9_findAliases_242 : decode cX9_findAliases 242 = .ok (.laload, 1) := by decide +kernel
theorem dX9_findAliases_243 : decode cX9_findAliases 243 = .ok (.lsub, 1) := by decide +kernel
theorem dX9_findAliases_244 : decode cX9_findAliases 244 = .ok (.lsub, 1) := by decide +kernel
theorem dX9_findAliases_245 : decode cX9_findAliases 245 = .ok (.lastore, 1) := by decide +kernel
theorem dX9_findAliases_246 : decode cX9_findAliases 246 = .ok (.aload_n 0, 1) := by decide +kernel
theorem dX9_findAliases_247 : decode cX9_findAliases 247 = .ok (.getfield 29, 3) := by decide +kernel
theorem dX9_findAliases_250 : decode cX9_findAliases 250 = .ok (.iload 8, 2) := by decide +kernel
theorem dX9_findAliases_252 : decode cX9_findAliases 252 = .ok (.laload, 1) := by decide +kernel
theorem dX9_findAliases_253 : decode cX9_findAliases 253 = .ok (.lload_n 2, 1) := by decide +kernel
theorem dX9_findAliases_254 : decode cX9_findAliases 254 = .ok (.lcmp, 1) := by decide +kernel
theorem dX9_findAliases_255 : decode cX9_findAliases 255 = .ok (.ifCond .ge 15, 3) := by decide +kernel
theorem dX9_findAliases_258 : decode cX9_findAliases 258 = .ok (.aload_n 0, 1) := by decide +kernel
theorem dX9_findAliases_259 : decode cX9_findAliases 259 = .ok (.getfield 32, 3) := by decide +kernel
theorem dX9_findAliases_262 : decode cX9_findAliases 262 = .ok (.iload 5, 2) := by decide +kernel
theorem dX9_findAliases_264 : decode cX9_findAliases 264 = .ok (.iload 8, 2) := by decide +kernel
theorem dX9_findAliases_266 : decode cX9_findAliases 266 = .ok (.iastore, 1) := by decide +kernel
theorem dX9_findAliases_267 : decode cX9_findAliases 267 = .ok (.iinc 5 1, 3) := by decide +kernel
theorem dX9_findAliases_270 : decode cX9_findAliases 270 = .ok (.iinc 6 1, 3) := by decide +kernel
theorem dX9_findAliases_273 : decode cX9_findAliases 273 = .ok (.goto (-116), 3) := by decide +kernel
theorem dX9_findAliases_276 : decode cX9_findAliases 276 = .ok (.return_, 1) := by decide +kernel
theorem dX9_build_0 : decode cX9_build 0 = .ok (.aload_n 0, 1) := by decide +kernel
theorem dX9_build_1 : decode cX9_build 1 = .ok (.iconst 0, 1) := by decide +kernel
theorem dX9_build_2 : decode cX9_build 2 = .ok (.putfield 47, 3) := by decide +kernel
theorem dX9_build_5 : decode cX9_build 5 = .ok (.iload_n 1, 1) := by decide +kernel
theorem dX9_build_6 : decode cX9_build 6 = .ok (.i2l, 1) := by decide +kernel
theorem dX9_build_7 : decode cX9_build 7 = .ok (.lconst 0, 1) := by decide +kernel
theorem dX9_build_8 : decode cX9_build 8 = .ok (.ldc2_w 65, 3) := by decide +kernel
theorem dX9_build_11 : decode cX9_build 11 = .ok (.invokestatic 58, 3) := by decide +kernel
theorem dX9_build_14 : decode cX9_build 14 = .ok (.ifCond .ne 10, 3) := by decide +kernel
theorem dX9_build_17 : decode cX9_build 17 = .ok (.aload_n 0, 1) := by decide +kernel
theorem dX9_build_18 : decode cX9_build 18 = .ok (.iconst 1, 1) := by decide +kernel
theorem dX9_build_19 : decode cX9_build 19 = .ok (.invokevirtual 54, 3) := by decide +kernel
theorem dX9_build_22 : decode cX9_build 22 = .ok (.i2l, 1) := by decide +kernel
theorem dX9_build_23 : decode cX9_build 23 = .ok (.lreturn, 1) := by decide +kernel
theorem dX9_build_24 : decode cX9_build 24 = .ok (.iload_n 2, 1) := by decide +kernel
theorem dX9_build_25 : decode cX9_build 25 = .ok (.i2l, 1) := by decide +kernel
theorem dX9_build_26 : decode cX9_build 26 = .ok (.lconst 0, 1) := by decide +kernel
theorem dX9_build_27 : decode cX9_build 27 = .ok (.lconst 1, 1) := by decide +kernel
theorem dX9_build_28 : decode cX9_build 28 = .ok (.invokestatic 58, 3) := by decide +kernel
theorem dX9_build_31 : decode cX9_build 31 = .ok (.ifCond .ne 10, 3) := by decide +kernel
theorem dX9_build_34 : decode cX9_build 34 = .ok (.aload_n 0, 1) := by decide +kernel
theorem dX9_build_35 : decode cX9_build 35 = .ok (.iconst 2, 1) := by decide +kernel
theorem dX9_build_36 : decode cX9_build 36 = .ok (.invokevirtual 54, 3) := by decide +kernel
theorem dX9_build_39 : decode cX9_build 39 = .ok (.i2l, 1) := by decide +kernel
theorem dX9_build_40 : decode cX9_build 40 = .ok (.lreturn, 1) := by decide +kernel
theorem dX9_build_41 : decode cX9_build 41 = .ok (.aload_n 0, 1) := by decide +kernel
theorem dX9_build_42 : decode cX9_build 42 = .ok (.iload_n 1, 1) := by decide +kernel
theorem dX9_build_43 : decode cX9_build 43 = .ok (.invokevirtual 69, 3) := by decide +kernel
theorem dX9_build_46 : decode cX9_build 46 = .ok (.lstore_n 3, 1) := by decide +kernel
theorem dX9_build_47 : decode cX9_build 47 = .ok (.lload_n 3, 1) := by decide +kernel
theorem dX9_build_48 : decode cX9_build 48 = .ok (.lconst 0, 1) := by decide +kernel
theorem dX9_build_49 : decode cX9_build 49 = .ok (.lcmp, 1) := by decide +kernel
theorem dX9_build_50 : decode cX9_build 50 = .ok (.ifCond .ne 10, 3) := by decide +kernel
theorem dX9_build_53 : decode cX9_build 53 = .ok (.aload_n 0, 1) := by decide +kernel
theorem dX9_build_54 : decode cX9_build 54 = .ok (.iconst 3, 1) := by decide +kernel
theorem dX9_build_55 : decode cX9_build 55 = .ok (.invokevirtual 54, 3) := by decide +kernel
theorem dX9_build_58 : decode cX9_build 58 = .ok (.i2l, 1) := by decide +kernel
theorem dX9_build_59 : decode cX9_build 59 = .ok (.lreturn, 1) := by decide +kernel
theorem dX9_build_60 : decode cX9_build 60 = .ok (.aload_n 0, 1) := by decide +kernel
theorem dX9_build_61 : decode cX9_build 61 = .ok (.getfield 17, 3) := by decide +kernel
theorem dX9_build_64 : decode cX9_build 64 = .ok (.iload_n 1, 1) := by decide +kernel
theorem dX9_build_65 : decode cX9_build 65 = .ok (.iload_n 2, 1) := by decide +kernel
theorem dX9_build_66 : decode cX9_build 66 = .ok (.iconst 1, 1) := by decide +kernel
theorem dX9_build_67 : decode cX9_build 67 = .ok (.iadd, 1) := by decide +kernel
theorem dX9_build_68 : decode cX9_build 68 = .ok (.iastore, 1) := by decide +kernel
theorem dX9_build_69 : decode cX9_build 69 = .ok (.iload_n 2, 1) := by decide +kernel
theorem dX9_build_70 : decode cX9_build 70 = .ok (.iconst 1, 1) := by decide +kernel
theorem dX9_build_71 : decode cX9_build 71 = .ok (.if_icmp .ne 8, 3) := by decide +kernel
theorem dX9_build_74 : decode cX9_build 74 = .ok (.aload_n 0, 1) := by decide +kernel
theorem dX9_build_75 : decode cX9_build 75 = .ok (.iload_n 1, 1) := by decide +kernel
theorem dX9_build_76 : decode cX9_build 76 = .ok (.invokevirtual 73, 3) := by decide +kernel
theorem dX9_build_79 : decode cX9_build 79 = .ok (.lload_n 3, 1) := by decide +kernel
theorem dX9_build_80 : decode cX9_build 80 = .ok (.lreturn, 1) := by decide +kernel
theorem dX9_alias_0 : decode cX9_alias 0 = .ok (.aload_n 0, 1) := by decide +kernel
theorem dX9_alias_1 : decode cX9_alias 1 = .ok (.iconst 0, 1) := by decide +kernel
theorem dX9_alias_2 : decode cX9_alias 2 = .ok (.putfield 47, 3) := by decide +kernel
theorem dX9_alias_5 : decode cX9_alias 5 = .ok (.iload_n 1, 1) := by decide +kernel
theorem dX9_alias_6 : decode cX9_alias 6 = .ok (.i2l, 1) := by decide +kernel
theorem dX9_alias_7 : decode cX9_alias 7 = .ok (.lconst 0, 1) := by decide +kernel
theorem dX9_alias_8 : decode cX9_alias 8 = .ok (.ldc2_w 65, 3) := by decide +kernel
theorem dX9_alias_11 : decode cX9_alias 11 = .ok (.invokestatic 58, 3) := by decide +kernel
theorem dX9_alias_14 : decode cX9_alias 14 = .ok (.ifCond .ne 10, 3) := by decide +kernel
theorem dX9_alias_17 : decode cX9_alias 17 = .ok (.aload_n 0, 1) := by decide +kernel
theorem dX9_alias_18 : decode cX9_alias 18 = .ok (.iconst 1, 1) := by decide +kernel
theorem dX9_alias_19 : decode cX9_alias 19 = .ok (.invokevirtual 54, 3) := by decide +kernel
theorem dX9_alias_22 : decode cX9_alias 22 = .ok (.i2l, 1) := by decide +kernel
theorem dX9_alias_23 : decode cX9_alias 23 = .ok (.lreturn, 1) := by decide +kernel
theorem dX9_alias_24 : decode cX9_alias 24 = .ok (.aload_n 0, 1) := by decide +kernel
theorem dX9_alias_25 : decode cX9_alias 25 = .ok (.getfield 17, 3) := by decide +kernel
theorem dX9_alias_28 : decode cX9_alias 28 = .ok (.iload_n 1, 1) := by decide +kernel
theorem dX9_alias_29 : decode cX9_alias 29 = .ok (.iaload, 1) := by decide +kernel
theorem dX9_alias_30 : decode cX9_alias 30 = .ok (.iconst 2, 1) := by decide +kernel
theorem dX9_alias_31 : decode cX9_alias 31 = .ok (.if_icmp .eq 10, 3) := by decide +kernel
theorem dX9_alias_34 : decode cX9_alias 34 = .ok (.aload_n 0, 1) := by decide +kernel
theorem dX9_alias_35 : decode cX9_alias 35 = .ok (.iconst 2, 1) := by decide +kernel
theorem dX9_alias_36 : decode cX9_alias 36 = .ok (.invokevirtual 54, 3) := by decide +kernel
theorem dX9_alias_39 : decode cX9_alias 39 = .ok (.i2l, 1) := by decide +kernel
theorem dX9_alias_40 : decode cX9_alias 40 = .ok (.lreturn, 1) := by decide +kernel
theorem dX9_alias_41 : decode cX9_alias 41 = .ok (.iload_n 3, 1) := by decide +kernel
theorem dX9_alias_42 : decode cX9_alias 42 = .ok (.i2l, 1) := by decide +kernel
theorem dX9_alias_43 : decode cX9_alias 43 = .ok (.lconst 0, 1) := by decide +kernel
theorem dX9_alias_44 : decode cX9_alias 44 = .ok (.lconst 1, 1) := by decide +kernel
theorem dX9_alias_45 : decode cX9_alias 45 = .ok (.invokestatic 58, 3) := by decide +kernel
theorem dX9_alias_48 : decode cX9_alias 48 = .ok (.ifCond .eq 21, 3) := by decide +kernel
theorem dX9_alias_51 : decode cX9_alias 51 = .ok (.iload_n 2, 1) := by decide +kernel
theorem dX9_alias_52 : decode cX9_alias 52 = .ok (.i2l, 1) := by decide +kernel
theorem dX9_alias_53 : decode cX9_alias 53 = .ok (.lconst 0, 1) := by decide +kernel
theorem dX9_alias_54 : decode cX9_alias 54 = .ok (.aload_n 0, 1) := by decide +kernel
theorem dX9_alias_55 : decode cX9_alias 55 = .ok (.getfield 26, 3) := by decide +kernel
theorem dX9_alias_58 : decode cX9_alias 58 = .ok (.iload_n 1, 1) := by decide +kernel
theorem dX9_alias_59 : decode cX9_alias 59 = .ok (.iaload, 1) := by decide +kernel
theorem dX9_alias_60 : decode cX9_alias 60 = .ok (.iconst 1, 1) := by decide +kernel
theorem dX9_alias_61 : decode cX9_alias 61 = .ok (.isub, 1) := by decide +kernel
theorem dX9_alias_62 : decode cX9_alias 62 = .ok (.i2l, 1) := by decide +kernel
theorem dX9_alias_63 : decode cX9_alias 63 = .ok (.invokestatic 58, 3) := by decide +kernel
theorem dX9_alias_66 : decode cX9_alias 66 = .ok (.ifCond .ne 10, 3) := by decide +kernel
theorem dX9_alias_69 : decode cX9_alias 69 = .ok (.aload_n 0, 1) := by decide +kernel
theorem dX9_alias_70 : decode cX9_alias 70 = .ok (.iconst 1, 1) := by decide +kernel
theorem dX9_alias_71 : decode cX9_alias 71 = .ok (.invokevirtual 54, 3) := by decide +kernel
theorem dX9_alias_74 : decode cX9_alias 74 = .ok (.i2l, 1) := by decide +kernel
theorem dX9_alias_75 : decode cX9_alias 75 = .ok (.lreturn, 1) := by decide +kernel
theorem dX9_alias_76 : decode cX9_alias 76 = .ok (.iload_n 3, 1) := by decide +kernel
theorem dX9_alias_77 : decode cX9_alias 77 = .ok (.ifCond .ne 17, 3) := by decide +kernel
theorem dX9_alias_80 : decode cX9_alias 80 = .ok (.aload_n 0, 1) := by decide +kernel
theorem dX9_alias_81 : decode cX9_alias 81 = .ok (.getfield 20, 3) := by decide +kernel
theorem dX9_alias_84 : decode cX9_alias 84 = .ok (.bipush 64, 2) := by decide +kernel
theorem dX9_alias_86 : decode cX9_alias 86 = .ok (.iload_n 1, 1) := by decide +kernel
theorem dX9_alias_87 : decode cX9_alias 87 = .ok (.imul, 1) := by decide +kernel
theorem dX9_alias_88 : decode cX9_alias 88 = .ok (.iload_n 2, 1) := by decide +kernel
theorem dX9_alias_89 : decode cX9_alias 89 = .ok (.iadd, 1) := by decide +kernel
theorem dX9_alias_90 : decode cX9_alias 90 = .ok (.laload, 1) := by decide +kernel
theorem dX9_alias_91 : decode cX9_alias 91 = .ok (.goto 15, 3) := by decide +kernel
theorem dX9_alias_94 : decode cX9_alias 94 = .ok (.aload_n 0, 1) := by decide +kernel
theorem dX9_alias_95 : decode cX9_alias 95 = .ok (.getfield 23, 3) := by decide +kernel
theorem dX9_alias_98 : decode cX9_alias 98 = .ok (.bipush 64, 2) := by decide +kernel
theorem dX9_alias_100 : decode cX9_alias 100 = .ok (.iload_n 1, 1) := by decide +kernel
theorem dX9_alias_101 : decode cX9_alias 101 = .ok (.imul, 1) := by decide +kernel
theorem dX9_alias_102 : decode cX9_alias 102 = .ok (.iload_n 2, 1) := by decide +kernel
theorem dX9_alias_103 : decode cX9_alias 103 = .ok (.iadd, 1) := by decide +kernel
theorem dX9_alias_104 : decode cX9_alias 104 = .ok (.iaload, 1) := by decide +kernel
theorem dX9_alias_105 : decode cX9_alias 105 = .ok (.i2l, 1) := by decide +kernel
theorem dX9_alias_106 : decode cX9_alias 106 = .ok (.lreturn, 1) := by decide +kernel
theorem dX9_nextBit_0 : decode cX9_nextBit 0 = .ok (.aload_n 0, 1) := by decide +kernel
theorem dX9_nextBit_1 : decode cX9_nextBit 1 = .ok (.getfield 77, 3) := by decide +kernel
theorem dX9_nextBit_4 : decode cX9_nextBit 4 = .ok (.ifCond .ne 28, 3) := by decide +kernel
theorem dX9_nextBit_7 : decode cX9_nextBit 7 = .ok (.aload_n 0, 1) := by decide +kernel
theorem dX9_nextBit_8 : decode cX9_nextBit 8 = .ok (.getfield 81, 3) := by decide +kernel
theorem dX9_nextBit_11 : decode cX9_nextBit 11 = .ok (.aload_n 0, 1) := by decide +kernel
theorem dX9_nextBit_12 : decode cX9_nextBit 12 = .ok (.getfield 84, 3) := by decide +kernel
theorem dX9_nextBit_15 : decode cX9_nextBit 15 = .ok (.ifCond .eq 10, 3) := by decide +kernel
theorem dX9_nextBit_18 : decode cX9_nextBit 18 = .ok (.aload_n 0, 1) := by decide +kernel
theorem dX9_nextBit_19 : decode cX9_nextBit 19 = .ok (.getfield 87, 3) := by decide +kernel
theorem dX9_nextBit_22 : decode cX9_nextBit 22 = .ok (.goto 7, 3) := by decide +kernel
theorem dX9_nextBit_25 : decode cX9_nextBit 25 = .ok (.aload_n 0, 1) := by decide +kernel
theorem dX9_nextBit_26 : decode cX9_nextBit 26 = .ok (.getfield 51, 3) := by decide +kernel
theorem dX9_nextBit_29 : decode cX9_nextBit 29 = .ok (.if_icmp .ne 10, 3) := by decide +kernel
theorem dX9_nextBit_32 : decode cX9_nextBit 32 = .ok (.aload_n 0, 1) := by decide +kernel
theorem dX9_nextBit_33 : decode cX9_nextBit 33 = .ok (.iconst 1, 1) := by decide +kernel
theorem dX9_nextBit_34 : decode cX9_nextBit 34 = .ok (.putfield 77, 3) := by decide +kernel
theorem dX9_nextBit_37 : decode cX9_nextBit 37 = .ok (.iconst 0, 1) := by decide +kernel
theorem dX9_nextBit_38 : decode cX9_nextBit 38 = .ok (.ireturn, 1) := by decide +kernel
theorem dX9_nextBit_39 : decode cX9_nextBit 39 = .ok (.aload_n 0, 1) := by decide +kernel
theorem dX9_nextBit_40 : decode cX9_nextBit 40 = .ok (.getfield 84, 3) := by decide +kernel
theorem dX9_nextBit_43 : decode cX9_nextBit 43 = .ok (.ifCond .eq 24, 3) := by decide +kernel
theorem dX9_nextBit_46 : decode cX9_nextBit 46 = .ok (.aload_n 0, 1) := by decide +kernel
theorem dX9_nextBit_47 : decode cX9_nextBit 47 = .ok (.getfield 90, 3) := by decide +kernel
theorem dX9_nextBit_50 : decode cX9_nextBit 50 = .ok (.aload_n 0, 1) := by decide +kernel
theorem dX9_nextBit_51 : decode cX9_nextBit 51 = .ok (.getfield 87, 3) := by decide +kernel
theorem dX9_nextBit_54 : decode cX9_nextBit 54 = .ok (.iconst 1, 1) := by decide +kernel
theorem dX9_nextBit_55 : decode cX9_nextBit 55 = .ok (.isub, 1) := by decide +kernel
theorem dX9_nextBit_56 : decode cX9_nextBit 56 = .ok (.aload_n 0, 1) := by decide +kernel
theorem dX9_nextBit_57 : decode cX9_nextBit 57 = .ok (.getfield 81, 3) := by decide +kernel
theorem dX9_nextBit_60 : decode cX9_nextBit 60 = .ok (.isub, 1) := by decide +kernel
theorem dX9_nextBit_61 : decode cX9_nextBit 61 = .ok (.ishr, 1) := by decide +kernel
theorem dX9_nextBit_62 : decode cX9_nextBit 62 = .ok (.iconst 1, 1) := by decide +kernel
theorem dX9_nextBit_63 : decode cX9_nextBit 63 = .ok (.iand, 1) := by decide +kernel
theorem dX9_nextBit_64 : decode cX9_nextBit 64 = .ok (.goto 12, 3) := by decide +kernel
theorem dX9_nextBit_67 : decode cX9_nextBit 67 = .ok (.aload_n 0, 1) := by decide +kernel
theorem dX9_nextBit_68 : decode cX9_nextBit 68 = .ok (.getfield 7, 3) := by decide +kernel
theorem dX9_nextBit_71 : decode cX9_nextBit 71 = .ok (.aload_n 0, 1) := by decide +kernel
theorem dX9_nextBit_72 : decode cX9_nextBit 72 = .ok (.getfield 81, 3) := by decide +kernel
theorem dX9_nextBit_75 : decode cX9_nextBit 75 = .ok (.iaload, 1) := by decide +kernel
theorem dX9_nextBit_76 : decode cX9_nextBit 76 = .ok (.istore_n 1, 1) := by decide +kernel
theorem dX9_nextBit_77 : decode cX9_nextBit 77 = .ok (.aload_n 0, 1) := by decide +kernel
theorem dX9_nextBit_78 : decode cX9_nextBit 78 = .ok (.dup, 1) := by decide +kernel
theorem dX9_nextBit_79 : decode cX9_nextBit 79 = .ok (.getfield 81, 3) := by decide +kernel
theorem dX9_nextBit_82 : decode cX9_nextBit 82 = .ok (.iconst 1, 1) := by decide +kernel
theorem dX9_nextBit_83 : decode cX9_nextBit 83 = .ok (.iadd, 1) := by decide +kernel
theorem dX9_nextBit_84 : decode cX9_nextBit 84 = .ok (.putfield 81, 3) := by decide +kernel
theorem dX9_nextBit_87 : decode cX9_nextBit 87 = .ok (.aload_n 0, 1) := by decide +kernel
theorem dX9_nextBit_88 : decode cX9_nextBit 88 = .ok (.dup, 1) := by decide +kernel
theorem dX9_nextBit_89 : decode cX9_nextBit 89 = .ok (.getfield 93, 3) := by decide +kernel
theorem dX9_nextBit_92 : decode cX9_nextBit 92 = .ok (.iconst 1, 1) := by decide +kernel
theorem dX9_nextBit_93 : decode cX9_nextBit 93 = .ok (.iadd, 1) := by decide +kernel
theorem dX9_nextBit_94 : decode cX9_nextBit 94 = .ok (.putfield 93, 3) := by decide +kernel
theorem dX9_nextBit_97 : decode cX9_nextBit 97 = .ok (.iload_n 1, 1) := by decide +kernel
theorem dX9_nextBit_98 : decode cX9_nextBit 98 = .ok (.ireturn, 1) := by decide +kernel
theorem dX9_uniform_0 : decode cX9_uniform 0 = .ok (.lconst 1, 1) := by decide +kernel
theorem dX9_uniform_1 : decode cX9_uniform 1 = .ok (.lstore_n 3, 1) := by decide +kernel
theorem dX9_uniform_2 : decode cX9_uniform 2 = .ok (.lconst 0, 1) := by decide +kernel
theorem dX9_uniform_3 : decode cX9_uniform 3 = .ok (.lstore 5, 2) := by decide +kernel
theorem dX9_uniform_5 : decode cX9_uniform 5 = .ok (.aload_n 0, 1) := by decide +kernel
theorem dX9_uniform_6 : decode cX9_uniform 6 = .ok (.getfield 77, 3) := by decide +kernel
theorem dX9_uniform_9 : decode cX9_uniform 9 = .ok (.ifCond .ne 62, 3) := by decide +kernel
theorem dX9_uniform_12 : decode cX9_uniform 12 = .ok (.lload_n 3, 1) := by decide +kernel
theorem dX9_uniform_13 : decode cX9_uniform 13 = .ok (.lload_n 1, 1) := by decide +kernel
theorem dX9_uniform_14 : decode cX9_uniform 14 = .ok (.lcmp, 1) := by decide +kernel
theorem dX9_uniform_15 : decode cX9_uniform 15 = .ok (.ifCond .ge 33, 3) := by decide +kernel
theorem dX9_uniform_18 : decode cX9_uniform 18 = .ok (.aload_n 0, 1) := by decide +kernel
theorem dX9_uniform_19 : decode cX9_uniform 19 = .ok (.getfield 77, 3) := by decide +kernel
theorem dX9_uniform_22 : decode cX9_uniform 22 = .ok (.ifCond .ne 26, 3) := by decide +kernel
theorem dX9_uniform_25 : decode cX9_uniform 25 = .ok (.ldc2_w 96, 3) := by decide +kernel
theorem dX9_uniform_28 : decode cX9_uniform 28 = .ok (.lload_n 3, 1) := by decide +kernel
theorem dX9_uniform_29 : decode cX9_uniform 29 = .ok (.lmul, 1) := by decide +kernel
theorem dX9_uniform_30 : decode cX9_uniform 30 = .ok (.lstore_n 3, 1) := by decide +kernel
theorem dX9_uniform_31 : decode cX9_uniform 31 = .ok (.ldc2_w 96, 3) := by decide +kernel
theorem dX9_uniform_34 : decode cX9_uniform 34 = .ok (.lload 5, 2) := by decide +kernel
theorem dX9_uniform_36 : decode cX9_uniform 36 = .ok (.lmul, 1) := by decide +kernel
theorem dX9_uniform_37 : decode cX9_uniform 37 = .ok (.aload_n 0, 1) := by decide +kernel
theorem dX9_uniform_38 : decode cX9_uniform 38 = .ok (.invokevirtual 98, 3) := by decide +kernel
theorem dX9_uniform_41 : decode cX9_uniform 41 = .ok (.i2l, 1) := by decide +kernel
theorem dX9_uniform_42 : decode cX9_uniform 42 = .ok (.ladd, 1) := by decide +kernel
theorem dX9_uniform_43 : decode cX9_uniform 43 = .ok (.lstore 5, 2) := by decide +kernel
theorem dX9_uniform_45 : decode cX9_uniform 45 = .ok (.goto (-33), 3) := by decide +kernel
theorem dX9_uniform_48 : decode cX9_uniform 48 = .ok (.lload 5, 2) := by decide +kernel
theorem dX9_uniform_50 : decode cX9_uniform 50 = .ok (.lload_n 1, 1) := by decide +kernel
theorem dX9_uniform_51 : decode cX9_uniform 51 = .ok (.lcmp, 1) := by decide +kernel
theorem dX9_uniform_52 : decode cX9_uniform 52 = .ok (.ifCond .ge 6, 3) := by decide +kernel
theorem dX9_uniform_55 : decode cX9_uniform 55 = .ok (.lload 5, 2) := by decide +kernel
theorem dX9_uniform_57 : decode cX9_uniform 57 = .ok (.lreturn, 1) := by decide +kernel
theorem dX9_uniform_58 : decode cX9_uniform 58 = .ok (.lload_n 3, 1) := by decide +kernel
theorem dX9_uniform_59 : decode cX9_uniform 59 = .ok (.lload_n 1, 1) := by decide +kernel
theorem dX9_uniform_60 : decode cX9_uniform 60 = .ok (.lsub, 1) := by decide +kernel
theorem dX9_uniform_61 : decode cX9_uniform 61 = .ok (.lstore_n 3, 1) := by decide +kernel
theorem dX9_uniform_62 : decode cX9_uniform 62 = .ok (.lload 5, 2) := by decide +kernel
theorem dX9_uniform_64 : decode cX9_uniform 64 = .ok (.lload_n 1, 1) := by decide +kernel
theorem dX9_uniform_65 : decode cX9_uniform 65 = .ok (.lsub, 1) := by decide +kernel
theorem dX9_uniform_66 : decode cX9_uniform 66 = .ok (.lstore 5, 2) := by decide +kernel
theorem dX9_uniform_68 : decode cX9_uniform 68 = .ok (.goto (-63), 3) := by decide +kernel
theorem dX9_uniform_71 : decode cX9_uniform 71 = .ok (.lconst 0, 1) := by decide +kernel
theorem dX9_uniform_72 : decode cX9_uniform 72 = .ok (.lreturn, 1) := by decide +kernel
theorem dX9_coin_0 : decode cX9_coin 0 = .ok (.lload_n 1, 1) := by decide +kernel
theorem dX9_coin_1 : decode cX9_coin 1 = .ok (.lconst 0, 1) := by decide +kernel
theorem dX9_coin_2 : decode cX9_coin 2 = .ok (.lcmp, 1) := by decide +kernel
theorem dX9_coin_3 : decode cX9_coin 3 = .ok (.ifCond .ne 5, 3) := by decide +kernel
theorem dX9_coin_6 : decode cX9_coin 6 = .ok (.iconst 0, 1) := by decide +kernel
theorem dX9_coin_7 : decode cX9_coin 7 = .ok (.ireturn, 1) := by decide +kernel
theorem dX9_coin_8 : decode cX9_coin 8 = .ok (.lload_n 1, 1) := by decide +kernel
theorem dX9_coin_9 : decode cX9_coin 9 = .ok (.lload_n 3, 1) := by decide +kernel
theorem dX9_coin_10 : decode cX9_coin 10 = .ok (.lcmp, 1) := by decide +kernel
theorem dX9_coin_11 : decode cX9_coin 11 = .ok (.ifCond .ne 5, 3) := by decide +kernel
theorem dX9_coin_14 : decode cX9_coin 14 = .ok (.iconst 1, 1) := by decide +kernel
theorem dX9_coin_15 : decode cX9_coin 15 = .ok (.ireturn, 1) := by decide +kernel
theorem dX9_coin_16 : decode cX9_coin 16 = .ok (.lload_n 1, 1) := by decide +kernel
theorem dX9_coin_17 : decode cX9_coin 17 = .ok (.lstore 5, 2) := by decide +kernel
theorem dX9_coin_19 : decode cX9_coin 19 = .ok (.aload_n 0, 1) := by decide +kernel
theorem dX9_coin_20 : decode cX9_coin 20 = .ok (.getfield 77, 3) := by decide +kernel
theorem dX9_coin_23 : decode cX9_coin 23 = .ok (.ifCond .ne 75, 3) := by decide +kernel
theorem dX9_coin_26 : decode cX9_coin 26 = .ok (.ldc2_w 96, 3) := by decide +kernel
theorem dX9_coin_29 : decode cX9_coin 29 = .ok (.lload 5, 2) := by decide +kernel
theorem dX9_coin_31 : decode cX9_coin 31 = .ok (.lmul, 1) := by decide +kernel
theorem dX9_coin_32 : decode cX9_coin 32 = .ok (.lstore 5, 2) := by decide +kernel
theorem dX9_coin_34 : decode cX9_coin 34 = .ok (.lload 5, 2) := by decide +kernel
theorem dX9_coin_36 : decode cX9_coin 36 = .ok (.lload_n 3, 1) := by decide +kernel
theorem dX9_coin_37 : decode cX9_coin 37 = .ok (.lcmp, 1) := by decide +kernel
theorem dX9_coin_38 : decode cX9_coin 38 = .ok (.ifCond .lt 7, 3) := by decide +kernel
theorem dX9_coin_41 : decode cX9_coin 41 = .ok (.iconst 1, 1) := by decide +kernel
theorem dX9_coin_42 : decode cX9_coin 42 = .ok (.goto 4, 3) := by decide +kernel
theorem dX9_coin_45 : decode cX9_coin 45 = .ok (.iconst 0, 1) := by decide +kernel
theorem dX9_coin_46 : decode cX9_coin 46 = .ok (.istore 7, 2) := by decide +kernel
theorem dX9_coin_48 : decode cX9_coin 48 = .ok (.iload 7, 2) := by decide +kernel
theorem dX9_coin_50 : decode cX9_coin 50 = .ok (.iconst 1, 1) := by decide +kernel
theorem dX9_coin_51 : decode cX9_coin 51 = .ok (.if_icmp .ne 9, 3) := by decide +kernel
theorem dX9_coin_54 : decode cX9_coin 54 = .ok (.lload 5, 2) := by decide +kernel
theorem dX9_coin_56 : decode cX9_coin 56 = .ok (.lload_n 3, 1) := by decide +kernel
theorem dX9_coin_57 : decode cX9_coin 57 = .ok (.lsub, 1) := by decide +kernel
theorem dX9_coin_58 : decode cX9_coin 58 = .ok (.lstore 5, 2) := by decide +kernel
theorem dX9_coin_60 : decode cX9_coin 60 = .ok (.aload_n 0, 1) := by decide +kernel
theorem dX9_coin_61 : decode cX9_coin 61 = .ok (.invokevirtual 98, 3) := by decide +kernel
theorem dX9_coin_64 : decode cX9_coin 64 = .ok (.istore 8, 2) := by decide +kernel
theorem dX9_coin_66 : decode cX9_coin 66 = .ok (.iload 8, 2) := by decide +kernel
theorem dX9_coin_68 : decode cX9_coin 68 = .ok (.iload 7, 2) := by decide +kernel
theorem dX9_coin_70 : decode cX9_coin 70 = .ok (.if_icmp .eq 16, 3) := by decide +kernel
theorem dX9_coin_73 : decode cX9_coin 73 = .ok (.iload 8, 2) := by decide +kernel
theorem dX9_coin_75 : decode cX9_coin 75 = .ok (.iload 7, 2) := by decide +kernel
theorem dX9_coin_77 : decode cX9_coin 77 = .ok (.if_icmp .ge 7, 3) := by decide +kernel
theorem dX9_coin_80 : decode cX9_coin 80 = .ok (.iconst 1, 1) := by decide +kernel
theorem dX9_coin_81 : decode cX9_coin 81 = .ok (.goto 4, 3) := by decide +kernel
theorem dX9_coin_84 : decode cX9_coin 84 = .ok (.iconst 0, 1) := by decide +kernel
theorem dX9_coin_85 : decode cX9_coin 85 = .ok (.ireturn, 1) := by decide +kernel
theorem dX9_coin_86 : decode cX9_coin 86 = .ok (.lload 5, 2) := by decide +kernel
theorem dX9_coin_88 : decode cX9_coin 88 = .ok (.lconst 0, 1) := by decide +kernel
theorem dX9_coin_89 : decode cX9_coin 89 = .ok (.lcmp, 1) := by decide +kernel
theorem dX9_coin_90 : decode cX9_coin 90 = .ok (.ifCond .ne 5, 3) := by decide +kernel
theorem dX9_coin_93 : decode cX9_coin 93 = .ok (.iconst 0, 1) := by decide +kernel
theorem dX9_coin_94 : decode cX9_coin 94 = .ok (.ireturn, 1) := by decide +kernel
theorem dX9_coin_95 : decode cX9_coin 95 = .ok (.goto (-76), 3) := by decide +kernel
theorem dX9_coin_98 : decode cX9_coin 98 = .ok (.iconst 0, 1) := by decide +kernel
theorem dX9_coin_99 : decode cX9_coin 99 = .ok (.ireturn, 1) := by decide +kernel
theorem dX9_fromTree_0 : decode cX9_fromTree 0 = .ok (.aload_n 0, 1) := by decide +kernel
theorem dX9_fromTree_1 : decode cX9_fromTree 1 = .ok (.iload_n 1, 1) := by decide +kernel
theorem dX9_fromTree_2 : decode cX9_fromTree 2 = .ok (.invokevirtual 69, 3) := by decide +kernel
theorem dX9_fromTree_5 : decode cX9_fromTree 5 = .ok (.lstore_n 2, 1) := by decide +kernel
theorem dX9_fromTree_6 : decode cX9_fromTree 6 = .ok (.iconst 0, 1) := by decide +kernel
theorem dX9_fromTree_7 : decode cX9_fromTree 7 = .ok (.istore 4, 2) := by decide +kernel
theorem dX9_fromTree_9 : decode cX9_fromTree 9 = .ok (.iload 4, 2) := by decide +kernel
theorem dX9_fromTree_11 : decode cX9_fromTree 11 = .ok (.bipush 64, 2) := by decide +kernel
theorem dX9_fromTree_13 : decode cX9_fromTree 13 = .ok (.if_icmp .ge 49, 3) := by decide +kernel
theorem dX9_fromTree_16 : decode cX9_fromTree 16 = .ok (.aload_n 0, 1) := by decide +kernel
theorem dX9_fromTree_17 : decode cX9_fromTree 17 = .ok (.getfield 13, 3) := by decide +kernel
theorem dX9_fromTree_20 : decode cX9_fromTree 20 = .ok (.bipush 64, 2) := by decide +kernel
theorem dX9_fromTree_22 : decode cX9_fromTree 22 = .ok (.iload_n 1, 1) := by decide +kernel
theorem dX9_fromTree_23 : decode cX9_fromTree 23 = .ok (.imul, 1) := by decide +kernel
theorem dX9_fromTree_24 : decode cX9_fromTree 24 = .ok (.iload 4, 2) := by decide +kernel
theorem dX9_fromTree_26 : decode cX9_fromTree 26 = .ok (.iadd, 1) := by decide +kernel
theorem dX9_fromTree_27 : decode cX9_fromTree 27 = .ok (.laload, 1) := by decide +kernel
theorem dX9_fromTree_28 : decode cX9_fromTree 28 = .ok (.lload_n 2, 1) := by decide +kernel
theorem dX9_fromTree_29 : decode cX9_fromTree 29 = .ok (.lcmp, 1) := by decide +kernel
theorem dX9_fromTree_30 : decode cX9_fromTree 30 = .ok (.ifCond .ne 7, 3) := by decide +kernel
theorem dX9_fromTree_33 : decode cX9_fromTree 33 = .ok (.iload 4, 2) := by decide +kernel
theorem dX9_fromTree_35 : decode cX9_fromTree 35 = .ok (.i2l, 1) := by decide +kernel
theorem dX9_fromTree_36 : decode cX9_fromTree 36 = .ok (.lreturn, 1) := by decide +kernel
theorem dX9_fromTree_37 : decode cX9_fromTree 37 = .ok (.aload_n 0, 1) := by decide +kernel
theorem dX9_fromTree_38 : decode cX9_fromTree 38 = .ok (.getfield 29, 3) := by decide +kernel
theorem dX9_fromTree_41 : decode cX9_fromTree 41 = .ok (.iload 4, 2) := by decide +kernel
theorem dX9_fromTree_43 : decode cX9_fromTree 43 = .ok (.aload_n 0, 1) := by decide +kernel
theorem dX9_fromTree_44 : decode cX9_fromTree 44 = .ok (.getfield 13, 3) := by decide +kernel
theorem dX9_fromTree_47 : decode cX9_fromTree 47 = .ok (.bipush 64, 2) := by decide +kernel
theorem dX9_fromTree_49 : decode cX9_fromTree 49 = .ok (.iload_n 1, 1) := by decide +kernel
theorem dX9_fromTree_50 : decode cX9_fromTree 50 = .ok (.imul, 1) := by decide +kernel
theorem dX9_fromTree_51 : decode cX9_fromTree 51 = .ok (.iload 4, 2) := by decide +kernel
theorem dX9_fromTree_53 : decode cX9_fromTree 53 = .ok (.iadd, 1) := by decide +kernel
theorem dX9_fromTree_54 : decode cX9_fromTree 54 = .ok (.laload, 1) := by decide +kernel
theorem dX9_fromTree_55 : decode cX9_fromTree 55 = .ok (.lastore, 1) := by decide +kernel
theorem dX9_fromTree_56 : decode cX9_fromTree 56 = .ok (.iinc 4 1, 3) := by decide +kernel
theorem dX9_fromTree_59 : decode cX9_fromTree 59 = .ok (.goto (-50), 3) := by decide +kernel
theorem dX9_fromTree_62 : decode cX9_fromTree 62 = .ok (.lconst 0, 1) := by decide +kernel
theorem dX9_fromTree_63 : decode cX9_fromTree 63 = .ok (.lstore 4, 2) := by decide +kernel
theorem dX9_fromTree_65 : decode cX9_fromTree 65 = .ok (.aload_n 0, 1) := by decide +kernel
theorem dX9_fromTree_66 : decode cX9_fromTree 66 = .ok (.getfield 77, 3) := by decide +kernel
theorem dX9_fromTree_69 : decode cX9_fromTree 69 = .ok (.ifCond .ne 94, 3) := by decide +kernel
theorem dX9_fromTree_72 : decode cX9_fromTree 72 = .ok (.ldc2_w 96, 3) := by decide +kernel
theorem dX9_fromTree_75 : decode cX9_fromTree 75 = .ok (.lload 4, 2) := by decide +kernel
theorem dX9_fromTree_77 : decode cX9_fromTree 77 = .ok (.lmul, 1) := by decide +kernel
theorem dX9_fromTree_78 : decode cX9_fromTree 78 = .ok (.aload_n 0, 1) := by decide +kernel
theorem dX9_fromTree_79 : decode cX9_fromTree 79 = .ok (.invokevirtual 98, 3) := by decide +kernel
theorem dX9_fromTree_82 : decode cX9_fromTree 82 = .ok (.i2l, 1) := by decide +kernel
theorem dX9_fromTree_83 : decode cX9_fromTree 83 = .ok (.ladd, 1) := by decide +kernel
theorem dX9_fromTree_84 : decode cX9_fromTree 84 = .ok (.lstore 4, 2) := by decide +kernel
theorem dX9_fromTree_86 : decode cX9_fromTree 86 = .ok (.iconst 0, 1) := by decide +kernel
theorem dX9_fromTree_87 : decode cX9_fromTree 87 = .ok (.istore 6, 2) := by decide +kernel
theorem dX9_fromTree_89 : decode cX9_fromTree 89 = .ok (.iload 6, 2) := by decide +kernel
theorem dX9_fromTree_91 : decode cX9_fromTree 91 = .ok (.bipush 64, 2) := by decide +kernel
theorem dX9_fromTree_93 : decode cX9_fromTree 93 = .ok (.if_icmp .ge 67, 3) := by decide +kernel
theorem dX9_fromTree_96 : decode cX9_fromTree 96 = .ok (.aload_n 0, 1) := by decide +kernel
theorem dX9_fromTree_97 : decode cX9_fromTree 97 = .ok (.getfield 29, 3) := by decide +kernel
theorem dX9_fromTree_100 : decode cX9_fromTree 100 = .ok (.iload 6, 2) := by decide +kernel
theorem dX9_fromTree_102 : decode cX9_fromTree 102 = .ok (.ldc2_w 96, 3) := by decide +kernel
theorem dX9_fromTree_105 : decode cX9_fromTree 105 = .ok (.aload_n 0, 1) := by decide +kernel
theorem dX9_fromTree_106 : decode cX9_fromTree 106 = .ok (.getfield 29, 3) := by decide +kernel
theorem dX9_fromTree_109 : decode cX9_fromTree 109 = .ok (.iload 6, 2) := by decide +kernel
theorem dX9_fromTree_111 : decode cX9_fromTree 111 = .ok (.laload, 1) := by decide +kernel
theorem dX9_fromTree_112 : decode cX9_fromTree 112 = .ok (.lmul, 1) := by decide +kernel
theorem dX9_fromTree_113 : decode cX9_fromTree 113 = .ok (.lastore, 1) := by decide +kernel
theorem dX9_fromTree_114 : decode cX9_fromTree 114 = .ok (.aload_n 0, 1) := by decide +kernel
theorem dX9_fromTree_115 : decode cX9_fromTree 115 = .ok (.getfield 29, 3) := by decide +kernel
theorem dX9_fromTree_118 : decode cX9_fromTree 118 = .ok (.iload 6, 2) := by decide +kernel
theorem dX9_fromTree_120 : decode cX9_fromTree 120 = .ok (.laload, 1) := by decide +kernel
theorem dX9_fromTree_121 : decode cX9_fromTree 121 = .ok (.lload_n 2, 1) := by decide +kernel
theorem dX9_fromTree_122 : decode cX9_fromTree 122 = .ok (.lcmp, 1) := by decide +kernel
theorem dX9_fromTree_123 : decode cX9_fromTree 123 = .ok (.ifCond .lt 31, 3) := by decide +kernel
theorem dX9_fromTree_126 : decode cX9_fromTree 126 = .ok (.aload_n 0, 1) := by decide +kernel
theorem dX9_fromTree_127 : decode cX9_fromTree 127 = .ok (.getfield 29, 3) := by decide +kernel
theorem dX9_fromTree_130 : decode cX9_fromTree 130 = .ok (.iload 6, 2) := by decide +kernel
theorem dX9_fromTree_132 : decode cX9_fromTree 132 = .ok (.dup2, 1) := by decide +kernel
theorem dX9_fromTree_133 : decode cX9_fromTree 133 = .ok (.laload, 1) := by decide +kernel
theorem dX9_fromTree_134 : decode cX9_fromTree 134 = .ok (.lload_n 2, 1) := by decide +kernel
theorem dX9_fromTree_135 : decode cX9_fromTree 135 = .ok (.lsub, 1) := by decide +kernel
theorem dX9_fromTree_136 : decode cX9_fromTree 136 = .ok (.lastore, 1) := by decide +kernel
theorem dX9_fromTree_137 : decode cX9_fromTree 137 = .ok (.lload 4, 2) := by decide +kernel
theorem dX9_fromTree_139 : decode cX9_fromTree 139 = .ok (.lconst 0, 1) := by decide +kernel
theorem dX9_fromTree_140 : decode cX9_fromTree 140 = .ok (.lcmp, 1) := by decide +kernel
theorem dX9_fromTree_141 : decode cX9_fromTree 141 = .ok (.ifCond .ne 7, 3) := by decide +kernel
theorem dX9_fromTree_144 : decode cX9_fromTree 144 = .ok (.iload 6, 2) := by decide +kernel
theorem dX9_fromTree_146 : decode cX9_fromTree 146 = .ok (.i2l, 1) := by decide +kernel
theorem dX9_fromTree_147 : decode cX9_fromTree 147 = .ok (.lreturn, 1) := by decide +kernel
theorem dX9_fromTree_148 : decode cX9_fromTree 148 = .ok (.lload 4, 2) := by decide +kernel
theorem dX9_fromTree_150 : decode cX9_fromTree 150 = .ok (.lconst 1, 1) := by decide +kernel
theorem dX9_fromTree_151 : decode cX9_fromTree 151 = .ok (.lsub, 1) := by decide +kernel
theorem dX9_fromTree_152 : decode cX9_fromTree 152 = .ok (.lstore 4, 2) := by decide +kernel
theorem dX9_fromTree_154 : decode cX9_fromTree 154 = .ok (.iinc 6 1, 3) := by decide +kernel
theorem dX9_fromTree_157 : decode cX9_fromTree 157 = .ok (.goto (-68), 3) := by decide +kernel
theorem dX9_fromTree_160 : decode cX9_fromTree 160 = .ok (.goto (-95), 3) := by decide +kernel
theorem dX9_fromTree_163 : decode cX9_fromTree 163 = .ok (.lconst 0, 1) := by decide +kernel
theorem dX9_fromTree_164 : decode cX9_fromTree 164 = .ok (.lreturn, 1) := by decide +kernel
theorem dX9_fromTable_0 : decode cX9_fromTable 0 = .ok (.aload_n 0, 1) := by decide +kernel
theorem dX9_fromTable_1 : decode cX9_fromTable 1 = .ok (.getfield 17, 3) := by decide +kernel
theorem dX9_fromTable_4 : decode cX9_fromTable 4 = .ok (.iload_n 1, 1) := by decide +kernel
theorem dX9_fromTable_5 : decode cX9_fromTable 5 = .ok (.iaload, 1) := by decide +kernel
theorem dX9_fromTable_6 : decode cX9_fromTable 6 = .ok (.iconst 1, 1) := by decide +kernel
theorem dX9_fromTable_7 : decode cX9_fromTable 7 = .ok (.if_icmp .ne 9, 3) := by decide +kernel
theorem dX9_fromTable_10 : decode cX9_fromTable 10 = .ok (.aload_n 0, 1) := by decide +kernel
theorem dX9_fromTable_11 : decode cX9_fromTable 11 = .ok (.iload_n 1, 1) := by decide +kernel
theorem dX9_fromTable_12 : decode cX9_fromTable 12 = .ok (.invokevirtual 102, 3) := by decide +kernel
theorem dX9_fromTable_15 : decode cX9_fromTable 15 = .ok (.lreturn, 1) := by decide +kernel
theorem dX9_fromTable_16 : decode cX9_fromTable 16 = .ok (.aload_n 0, 1) := by decide +kernel
theorem dX9_fromTable_17 : decode cX9_fromTable 17 = .ok (.aload_n 0, 1) := by decide +kernel
theorem dX9_fromTable_18 : decode cX9_fromTable 18 = .ok (.getfield 26, 3) := by decide +kernel
theorem dX9_fromTable_21 : decode cX9_fromTable 21 = .ok (.iload_n 1, 1) := by decide +kernel
theorem dX9_fromTable_22 : decode cX9_fromTable 22 = .ok (.iaload, 1) := by decide +kernel
theorem dX9_fromTable_23 : decode cX9_fromTable 23 = .ok (.i2l, 1) := by decide +kernel
theorem dX9_fromTable_24 : decode cX9_fromTable 24 = .ok (.invokevirtual 105, 3) := by decide +kernel
theorem dX9_fromTable_27 : decode cX9_fromTable 27 = .ok (.l2i, 1) := by decide +kernel
theorem dX9_fromTable_28 : decode cX9_fromTable 28 = .ok (.istore_n 2, 1) := by decide +kernel
theorem dX9_fromTable_29 : decode cX9_fromTable 29 = .ok (.aload_n 0, 1) := by decide +kernel
theorem dX9_fromTable_30 : decode cX9_fromTable 30 = .ok (.aload_n 0, 1) := by decide +kernel
theorem dX9_fromTable_31 : decode cX9_fromTable 31 = .ok (.getfield 20, 3) := by decide +kernel
theorem dX9_fromTable_34 : decode cX9_fromTable 34 = .ok (.bipush 64, 2) := by decide +kernel
theorem dX9_fromTable_36 : decode cX9_fromTable 36 = .ok (.iload_n 1, 1) := by decide +kernel
theorem dX9_fromTable_37 : decode cX9_fromTable 37 = .ok (.imul, 1) := by decide +kernel
theorem dX9_fromTable_38 : decode cX9_fromTable 38 = .ok (.iload_n 2, 1) := by decide +kernel
theorem dX9_fromTable_39 : decode cX9_fromTable 39 = .ok (.iadd, 1) := by decide +kernel
theorem dX9_fromTable_40 : decode cX9_fromTable 40 = .ok (.laload, 1) := by decide +kernel
theorem dX9_fromTable_41 : decode cX9_fromTable 41 = .ok (.aload_n 0, 1) := by decide +kernel
theorem dX9_fromTable_42 : decode cX9_fromTable 42 = .ok (.iload_n 1, 1) := by decide +kernel
theorem dX9_fromTable_43 : decode cX9_fromTable 43 = .ok (.invokevirtual 69, 3) := by decide +kernel
theorem dX9_fromTable_46 : decode cX9_fromTable 46 = .ok (.invokevirtual 109, 3) := by decide +kernel
theorem dX9_fromTable_49 : decode cX9_fromTable 49 = .ok (.iconst 1, 1) := by decide +kernel
theorem dX9_fromTable_50 : decode cX9_fromTable 50 = .ok (.if_icmp .ne 8, 3) := by decide +kernel
theorem dX9_fromTable_53 : decode cX9_fromTable 53 = .ok (.iload_n 2, 1) := by decide +kernel
theorem dX9_fromTable_54 : decode cX9_fromTable 54 = .ok (.i2l, 1) := by decide +kernel
theorem dX9_fromTable_55 : decode cX9_fromTable 55 = .ok (.goto 15, 3) := by decide +kernel
theorem dX9_fromTable_58 : decode cX9_fromTable 58 = .ok (.aload_n 0, 1) := by decide +kernel
theorem dX9_fromTable_59 : decode cX9_fromTable 59 = .ok (.getfield 23, 3) := by decide +kernel
theorem dX9_fromTable_62 : decode cX9_fromTable 62 = .ok (.bipush 64, 2) := by decide +kernel
theorem dX9_fromTable_64 : decode cX9_fromTable 64 = .ok (.iload_n 1, 1) := by decide +kernel
theorem dX9_fromTable_65 : decode cX9_fromTable 65 = .ok (.imul, 1) := by decide +kernel
theorem dX9_fromTable_66 : decode cX9_fromTable 66 = .ok (.iload_n 2, 1) := by decide +kernel
theorem dX9_fromTable_67 : decode cX9_fromTable 67 = .ok (.iadd, 1) := by decide +kernel
theorem dX9_fromTable_68 : decode cX9_fromTable 68 = .ok (.iaload, 1) := by decide +kernel
theorem dX9_fromTable_69 : decode cX9_fromTable 69 = .ok (.i2l, 1) := by decide +kernel
theorem dX9_fromTable_70 : decode cX9_fromTable 70 = .ok (.lreturn, 1) := by decide +kernel
theorem dX9_binomial_0 : decode cX9_binomial 0 = .ok (.lconst 0, 1) := by decide +kernel
theorem dX9_binomial_1 : decode cX9_binomial 1 = .ok (.lstore 4, 2) := by decide +kernel
theorem dX9_binomial_3 : decode cX9_binomial 3 = .ok (.iconst 0, 1) := by decide +kernel
theorem dX9_binomial_4 : decode cX9_binomial 4 = .ok (.istore 6, 2) := by decide +kernel
theorem dX9_binomial_6 : decode cX9_binomial 6 = .ok (.iload 6, 2) := by decide +kernel
theorem dX9_binomial_8 : decode cX9_binomial 8 = .ok (.iload_n 1, 1) := by decide +kernel
theorem dX9_binomial_9 : decode cX9_binomial 9 = .ok (.if_icmp .ge 30, 3) := by decide +kernel
theorem dX9_binomial_12 : decode cX9_binomial 12 = .ok (.aload_n 0, 1) := by decide +kernel
theorem dX9_binomial_13 : decode cX9_binomial 13 = .ok (.getfield 77, 3) := by decide +kernel
theorem dX9_binomial_16 : decode cX9_binomial 16 = .ok (.ifCond .ne 23, 3) := by decide +kernel
theorem dX9_binomial_19 : decode cX9_binomial 19 = .ok (.lload 4, 2) := by decide +kernel
theorem dX9_binomial_21 : decode cX9_binomial 21 = .ok (.aload_n 0, 1) := by decide +kernel
theorem dX9_binomial_22 : decode cX9_binomial 22 = .ok (.iload_n 2, 1) := by decide +kernel
theorem dX9_binomial_23 : decode cX9_binomial 23 = .ok (.i2l, 1) := by decide +kernel
theorem dX9_binomial_24 : decode cX9_binomial 24 = .ok (.iload_n 3, 1) := by decide +kernel
theorem dX9_binomial_25 : decode cX9_binomial 25 = .ok (.i2l, 1) := by decide +kernel
theorem dX9_binomial_26 : decode cX9_binomial 26 = .ok (.invokevirtual 109, 3) := by decide +kernel
theorem dX9_binomial_29 : decode cX9_binomial 29 = .ok (.i2l, 1) := by decide +kernel
theorem dX9_binomial_30 : decode cX9_binomial 30 = .ok (.ladd, 1) := by decide +kernel
theorem dX9_binomial_31 : decode cX9_binomial 31 = .ok (.lstore 4, 2) := by decide +kernel
theorem dX9_binomial_33 : decode cX9_binomial 33 = .ok (.iinc 6 1, 3) := by decide +kernel
theorem dX9_binomial_36 : decode cX9_binomial 36 = .ok (.goto (-30), 3) := by decide +kernel
theorem dX9_binomial_39 : decode cX9_binomial 39 = .ok (.lload 4, 2) := by decide +kernel
theorem dX9_binomial_41 : decode cX9_binomial 41 = .ok (.lreturn, 1) := by decide +kernel
theorem dX9_geometric_0 : decode cX9_geometric 0 = .ok (.iconst 0, 1) := by decide +kernel
theorem dX9_geometric_1 : decode cX9_geometric 1 = .ok (.istore 4, 2) := by decide +kernel
theorem dX9_geometric_3 : decode cX9_geometric 3 = .ok (.iload 4, 2) := by decide +kernel
theorem dX9_geometric_5 : decode cX9_geometric 5 = .ok (.iload_n 3, 1) := by decide +kernel
theorem dX9_geometric_6 : decode cX9_geometric 6 = .ok (.if_icmp .ge 27, 3) := by decide +kernel
theorem dX9_geometric_9 : decode cX9_geometric 9 = .ok (.aload_n 0, 1) := by decide +kernel
theorem dX9_geometric_10 : decode cX9_geometric 10 = .ok (.getfield 77, 3) := by decide +kernel
theorem dX9_geometric_13 : decode cX9_geometric 13 = .ok (.ifCond .ne 20, 3) := by decide +kernel
theorem dX9_geometric_16 : decode cX9_geometric 16 = .ok (.aload_n 0, 1) := by decide +kernel
theorem dX9_geometric_17 : decode cX9_geometric 17 = .ok (.iload_n 1, 1) := by decide +kernel
theorem dX9_geometric_18 : decode cX9_geometric 18 = .ok (.i2l, 1) := by decide +kernel
theorem dX9_geometric_19 : decode cX9_geometric 19 = .ok (.iload_n 2, 1) := by decide +kernel
theorem dX9_geometric_20 : decode cX9_geometric 20 = .ok (.i2l, 1) := by decide +kernel
theorem dX9_geometric_21 : decode cX9_geometric 21 = .ok (.invokevirtual 109, 3) := by decide +kernel
theorem dX9_geometric_24 : decode cX9_geometric 24 = .ok (.ifCond .ne 9, 3) := by decide +kernel
theorem dX9_geometric_27 : decode cX9_geometric 27 = .ok (.iinc 4 1, 3) := by decide +kernel
theorem dX9_geometric_30 : decode cX9_geometric 30 = .ok (.goto (-27), 3) := by decide +kernel
theorem dX9_geometric_33 : decode cX9_geometric 33 = .ok (.iload 4, 2) := by decide +kernel
theorem dX9_geometric_35 : decode cX9_geometric 35 = .ok (.i2l, 1) := by decide +kernel
theorem dX9_geometric_36 : decode cX9_geometric 36 = .ok (.lreturn, 1) := by decide +kernel
theorem dX9_hyper_0 : decode cX9_hyper 0 = .ok (.iload_n 1, 1) := by decide +kernel
theorem dX9_hyper_1 : decode cX9_hyper 1 = .ok (.i2l, 1) := by decide +kernel
theorem dX9_hyper_2 : decode cX9_hyper 2 = .ok (.lstore 4, 2) := by decide +kernel
theorem dX9_hyper_4 : decode cX9_hyper 4 = .ok (.iload_n 2, 1) := by decide +kernel
theorem dX9_hyper_5 : decode cX9_hyper 5 = .ok (.i2l, 1) := by decide +kernel
theorem dX9_hyper_6 : decode cX9_hyper 6 = .ok (.lstore 6, 2) := by decide +kernel
theorem dX9_hyper_8 : decode cX9_hyper 8 = .ok (.lconst 0, 1) := by decide +kernel
theorem dX9_hyper_9 : decode cX9_hyper 9 = .ok (.lstore 8, 2) := by decide +kernel
theorem dX9_hyper_11 : decode cX9_hyper 11 = .ok (.iconst 0, 1) := by decide +kernel
theorem dX9_hyper_12 : decode cX9_hyper 12 = .ok (.istore 10, 2) := by decide +kernel
theorem dX9_hyper_14 : decode cX9_hyper 14 = .ok (.iload 10, 2) := by decide +kernel
theorem dX9_hyper_16 : decode cX9_hyper 16 = .ok (.iload_n 3, 1) := by decide +kernel
theorem dX9_hyper_17 : decode cX9_hyper 17 = .ok (.if_icmp .ge 52, 3) := by decide +kernel
theorem dX9_hyper_20 : decode cX9_hyper 20 = .ok (.aload_n 0, 1) := by decide +kernel
theorem dX9_hyper_21 : decode cX9_hyper 21 = .ok (.getfield 77, 3) := by decide +kernel
theorem dX9_hyper_24 : decode cX9_hyper 24 = .ok (.ifCond .ne 45, 3) := by decide +kernel
theorem dX9_hyper_27 : decode cX9_hyper 27 = .ok (.aload_n 0, 1) := by decide +kernel
theorem dX9_hyper_28 : decode cX9_hyper 28 = .ok (.lload 4, 2) := by decide +kernel
theorem dX9_hyper_30 : decode cX9_hyper 30 = .ok (.lload 4, 2) := by decide +kernel
theorem dX9_hyper_32 : decode cX9_hyper 32 = .ok (.lload 6, 2) := by decide +kernel
theorem dX9_hyper_34 : decode cX9_hyper 34 = .ok (.ladd, 1) := by decide +kernel
theorem dX9_hyper_35 : decode cX9_hyper 35 = .ok (.invokevirtual 109, 3) := by decide +kernel
theorem dX9_hyper_38 : decode cX9_hyper 38 = .ok (.iconst 1, 1) := by decide +kernel
theorem dX9_hyper_39 : decode cX9_hyper 39 = .ok (.if_icmp .ne 18, 3) := by decide +kernel
theorem dX9_hyper_42 : decode cX9_hyper 42 = .ok (.lload 4, 2) := by decide +kernel
theorem dX9_hyper_44 : decode cX9_hyper 44 = .ok (.lconst 1, 1) := by decide +kernel
theorem dX9_hyper_45 : decode cX9_hyper 45 = .ok (.lsub, 1) := by decide +kernel
theorem dX9_hyper_46 : decode cX9_hyper 46 = .ok (.lstore 4, 2) := by decide +kernel
theorem dX9_hyper_48 : decode cX9_hyper 48 = .ok (.lload 8, 2) := by decide +kernel
theorem dX9_hyper_50 : decode cX9_hyper 50 = .ok (.lconst 1, 1) := by decide +kernel
theorem dX9_hyper_51 : decode cX9_hyper 51 = .ok (.ladd, 1) := by decide +kernel
theorem dX9_hyper_52 : decode cX9_hyper 52 = .ok (.lstore 8, 2) := by decide +kernel
theorem dX9_hyper_54 : decode cX9_hyper 54 = .ok (.goto 9, 3) := by decide +kernel
theorem dX9_hyper_57 : decode cX9_hyper 57 = .ok (.lload 6, 2) := by decide +kernel
theorem dX9_hyper_59 : decode cX9_hyper 59 = .ok (.lconst 1, 1) := by decide +kernel
theorem dX9_hyper_60 : decode cX9_hyper 60 = .ok (.lsub, 1) := by decide +kernel
theorem dX9_hyper_61 : decode cX9_hyper 61 = .ok (.lstore 6, 2) := by decide +kernel
theorem dX9_hyper_63 : decode cX9_hyper 63 = .ok (.iinc 10 1, 3) := by decide +kernel
theorem dX9_hyper_66 : decode cX9_hyper 66 = .ok (.goto (-52), 3) := by decide +kernel
theorem dX9_hyper_69 : decode cX9_hyper 69 = .ok (.lload 8, 2) := by decide +kernel
theorem dX9_hyper_71 : decode cX9_hyper 71 = .ok (.lreturn, 1) := by decide +kernel
theorem dX9_unitExponential_0 : decode cX9_unitExponential 0 = .ok (.lconst 1, 1) := by decide +kernel
theorem dX9_unitExponential_1 : decode cX9_unitExponential 1 = .ok (.lstore 5, 2) := by decide +kernel
theorem dX9_unitExponential_3 : decode cX9_unitExponential 3 = .ok (.aload_n 0, 1) := by decide +kernel
theorem dX9_unitExponential_4 : decode cX9_unitExponential 4 = .ok (.getfield 77, 3) := by decide +kernel
theorem dX9_unitExponential_7 : decode cX9_unitExponential 7 = .ok (.ifCond .ne 25, 3) := by decide +kernel
theorem dX9_unitExponential_10 : decode cX9_unitExponential 10 = .ok (.aload_n 0, 1) := by decide +kernel
theorem dX9_unitExponential_11 : decode cX9_unitExponential 11 = .ok (.lload_n 1, 1) := by decide +kernel
theorem dX9_unitExponential_12 : decode cX9_unitExponential 12 = .ok (.lload 5, 2) := by decide +kernel
theorem dX9_unitExponential_14 : decode cX9_unitExponential 14 = .ok (.lload_n 3, 1) := by decide +kernel
theorem dX9_unitExponential_15 : decode cX9_unitExponential 15 = .ok (.lmul, 1) := by decide +kernel
theorem dX9_unitExponential_16 : decode cX9_unitExponential 16 = .ok (.invokevirtual 109, 3) := by decide +kernel
theorem dX9_unitExponential_19 : decode cX9_unitExponential 19 = .ok (.iconst 1, 1) := by decide +kernel
theorem dX9_unitExponential_20 : decode cX9_unitExponential 20 = .ok (.if_icmp .ne 12, 3) := by decide +kernel
theorem dX9_unitExponential_23 : decode cX9_unitExponential 23 = .ok (.lload 5, 2) := by decide +kernel
theorem dX9_unitExponential_25 : decode cX9_unitExponential 25 = .ok (.lconst 1, 1) := by decide +kernel
theorem dX9_unitExponential_26 : decode cX9_unitExponential 26 = .ok (.ladd, 1) := by decide +kernel
theorem dX9_unitExponential_27 : decode cX9_unitExponential 27 = .ok (.lstore 5, 2) := by decide +kernel
theorem dX9_unitExponential_29 : decode cX9_unitExponential 29 = .ok (.goto (-26), 3) := by decide +kernel
theorem dX9_unitExponential_32 : decode cX9_unitExponential 32 = .ok (.lload 5, 2) := by decide +kernel
theorem dX9_unitExponential_34 : decode cX9_unitExponential 34 = .ok (.ldc2_w 96, 3) := by decide +kernel
theorem dX9_unitExponential_37 : decode cX9_unitExponential 37 = .ok (.lrem, 1) := by decide +kernel
theorem dX9_unitExponential_38 : decode cX9_unitExponential 38 = .ok (.l2i, 1) := by decide +kernel
theorem dX9_unitExponential_39 : decode cX9_unitExponential 39 = .ok (.ireturn, 1) := by decide +kernel
theorem dX9_exponential_0 : decode cX9_exponential 0 = .ok (.lload_n 1, 1) := by decide +kernel
theorem dX9_exponential_1 : decode cX9_exponential 1 = .ok (.lstore 5, 2) := by decide +kernel
theorem dX9_exponential_3 : decode cX9_exponential 3 = .ok (.lload 5, 2) := by decide +kernel
theorem dX9_exponential_5 : decode cX9_exponential 5 = .ok (.lload_n 3, 1) := by decide +kernel
theorem dX9_exponential_6 : decode cX9_exponential 6 = .ok (.lcmp, 1) := by decide +kernel
theorem dX9_exponential_7 : decode cX9_exponential 7 = .ok (.ifCond .lt 30, 3) := by decide +kernel
theorem dX9_exponential_10 : decode cX9_exponential 10 = .ok (.aload_n 0, 1) := by decide +kernel
theorem dX9_exponential_11 : decode cX9_exponential 11 = .ok (.getfield 77, 3) := by decide +kernel
theorem dX9_exponential_14 : decode cX9_exponential 14 = .ok (.ifCond .ne 23, 3) := by decide +kernel
theorem dX9_exponential_17 : decode cX9_exponential 17 = .ok (.aload_n 0, 1) := by decide +kernel
theorem dX9_exponential_18 : decode cX9_exponential 18 = .ok (.lconst 1, 1) := by decide +kernel
theorem dX9_exponential_19 : decode cX9_exponential 19 = .ok (.lconst 1, 1) := by decide +kernel
theorem dX9_exponential_20 : decode cX9_exponential 20 = .ok (.invokevirtual 113, 3) := by decide +kernel
theorem dX9_exponential_23 : decode cX9_exponential 23 = .ok (.ifCond .ne 5, 3) := by decide +kernel
theorem dX9_exponential_26 : decode cX9_exponential 26 = .ok (.iconst 0, 1) := by decide +kernel
theorem dX9_exponential_27 : decode cX9_exponential 27 = .ok (.ireturn, 1) := by decide +kernel
theorem dX9_exponential_28 : decode cX9_exponential 28 = .ok (.lload 5, 2) := by decide +kernel
theorem dX9_exponential_30 : decode cX9_exponential 30 = .ok (.lload_n 3, 1) := by decide +kernel
theorem dX9_exponential_31 : decode cX9_exponential 31 = .ok (.lsub, 1) := by decide +kernel
theorem dX9_exponential_32 : decode cX9_exponential 32 = .ok (.lstore 5, 2) := by decide +kernel
theorem dX9_exponential_34 : decode cX9_exponential 34 = .ok (.goto (-31), 3) := by decide +kernel
theorem dX9_exponential_37 : decode cX9_exponential 37 = .ok (.aload_n 0, 1) := by decide +kernel
theorem dX9_exponential_38 : decode cX9_exponential 38 = .ok (.lload 5, 2) := by decide +kernel
theorem dX9_exponential_40 : decode cX9_exponential 40 = .ok (.lload_n 3, 1) := by decide +kernel
theorem dX9_exponential_41 : decode cX9_exponential 41 = .ok (.invokevirtual 113, 3) := by decide +kernel
theorem dX9_exponential_44 : decode cX9_exponential 44 = .ok (.ireturn, 1) := by decide +kernel
theorem dX9_once_0 : decode cX9_once 0 = .ok (.aload_n 0, 1) := by decide +kernel
theorem dX9_once_1 : decode cX9_once 1 = .ok (.getfield 77, 3) := by decide +kernel
theorem dX9_once_4 : decode cX9_once 4 = .ok (.ifCond .ne 98, 3) := by decide +kernel
theorem dX9_once_7 : decode cX9_once 7 = .ok (.lconst 0, 1) := by decide +kernel
theorem dX9_once_8 : decode cX9_once 8 = .ok (.lstore 5, 2) := by decide +kernel
theorem dX9_once_10 : decode cX9_once 10 = .ok (.aload_n 0, 1) := by decide +kernel
theorem dX9_once_11 : decode cX9_once 11 = .ok (.getfield 77, 3) := by decide +kernel
theorem dX9_once_14 : decode cX9_once 14 = .ok (.ifCond .ne 22, 3) := by decide +kernel
theorem dX9_once_17 : decode cX9_once 17 = .ok (.aload_n 0, 1) := by decide +kernel
theorem dX9_once_18 : decode cX9_once 18 = .ok (.lload_n 1, 1) := by decide +kernel
theorem dX9_once_19 : decode cX9_once 19 = .ok (.lload_n 3, 1) := by decide +kernel
theorem dX9_once_20 : decode cX9_once 20 = .ok (.invokevirtual 109, 3) := by decide +kernel
theorem dX9_once_23 : decode cX9_once 23 = .ok (.iconst 1, 1) := by decide +kernel
theorem dX9_once_24 : decode cX9_once 24 = .ok (.if_icmp .ne 12, 3) := by decide +kernel
theorem dX9_once_27 : decode cX9_once 27 = .ok (.lload 5, 2) := by decide +kernel
theorem dX9_once_29 : decode cX9_once 29 = .ok (.lconst 1, 1) := by decide +kernel
theorem dX9_once_30 : decode cX9_once 30 = .ok (.ladd, 1) := by decide +kernel
theorem dX9_once_31 : decode cX9_once 31 = .ok (.lstore 5, 2) := by decide +kernel
theorem dX9_once_33 : decode cX9_once 33 = .ok (.goto (-23), 3) := by decide +kernel
theorem dX9_once_36 : decode cX9_once 36 = .ok (.iconst 1, 1) := by decide +kernel
theorem dX9_once_37 : decode cX9_once 37 = .ok (.istore 7, 2) := by decide +kernel
theorem dX9_once_39 : decode cX9_once 39 = .ok (.ldc2_w 96, 3) := by decide +kernel
theorem dX9_once_42 : decode cX9_once 42 = .ok (.lstore 8, 2) := by decide +kernel
theorem dX9_once_44 : decode cX9_once 44 = .ok (.lload 8, 2) := by decide +kernel
theorem dX9_once_46 : decode cX9_once 46 = .ok (.lload 5, 2) := by decide +kernel
theorem dX9_once_48 : decode cX9_once 48 = .ok (.lcmp, 1) := by decide +kernel
theorem dX9_once_49 : decode cX9_once 49 = .ok (.ifCond .gt 42, 3) := by decide +kernel
theorem dX9_once_52 : decode cX9_once 52 = .ok (.iload 7, 2) := by decide +kernel
theorem dX9_once_54 : decode cX9_once 54 = .ok (.ifCond .eq 37, 3) := by decide +kernel
theorem dX9_once_57 : decode cX9_once 57 = .ok (.aload_n 0, 1) := by decide +kernel
theorem dX9_once_58 : decode cX9_once 58 = .ok (.getfield 77, 3) := by decide +kernel
theorem dX9_once_61 : decode cX9_once 61 = .ok (.ifCond .ne 30, 3) := by decide +kernel
theorem dX9_once_64 : decode cX9_once 64 = .ok (.aload_n 0, 1) := by decide +kernel
theorem dX9_once_65 : decode cX9_once 65 = .ok (.lload 8, 2) := by decide +kernel
theorem dX9_once_67 : decode cX9_once 67 = .ok (.invokevirtual 105, 3) := by decide +kernel
theorem dX9_once_70 : decode cX9_once 70 = .ok (.lconst 0, 1) := by decide +kernel
theorem dX9_once_71 : decode cX9_once 71 = .ok (.lcmp, 1) := by decide +kernel
theorem dX9_once_72 : decode cX9_once 72 = .ok (.ifCond .ne 7, 3) := by decide +kernel
theorem dX9_once_75 : decode cX9_once 75 = .ok (.iconst 1, 1) := by decide +kernel
theorem dX9_once_76 : decode cX9_once 76 = .ok (.goto 4, 3) := by decide +kernel
theorem dX9_once_79 : decode cX9_once 79 = .ok (.iconst 0, 1) := by decide +kernel
theorem dX9_once_80 : decode cX9_once 80 = .ok (.istore 7, 2) := by decide +kernel
theorem dX9_once_82 : decode cX9_once 82 = .ok (.lload 8, 2) := by decide +kernel
theorem dX9_once_84 : decode cX9_once 84 = .ok (.lconst 1, 1) := by decide +kernel
theorem dX9_once_85 : decode cX9_once 85 = .ok (.ladd, 1) := by decide +kernel
theorem dX9_once_86 : decode cX9_once 86 = .ok (.lstore 8, 2) := by decide +kernel
theorem dX9_once_88 : decode cX9_once 88 = .ok (.goto (-44), 3) := by decide +kernel
theorem dX9_once_91 : decode cX9_once 91 = .ok (.iload 7, 2) := by decide +kernel
theorem dX9_once_93 : decode cX9_once 93 = .ok (.ifCond .eq 6, 3) := by decide +kernel
theorem dX9_once_96 : decode cX9_once 96 = .ok (.lload 5, 2) := by decide +kernel
theorem dX9_once_98 : decode cX9_once 98 = .ok (.lreturn, 1) := by decide +kernel
theorem dX9_once_99 : decode cX9_once 99 = .ok (.goto (-99), 3) := by decide +kernel
theorem dX9_once_102 : decode cX9_once 102 = .ok (.lconst 0, 1) := by decide +kernel
theorem dX9_once_103 : decode cX9_once 103 = .ok (.lreturn, 1) := by decide +kernel
theorem dX9_poisson_0 : decode cX9_poisson 0 = .ok (.lload_n 1, 1) := by decide +kernel
theorem dX9_poisson_1 : decode cX9_poisson 1 = .ok (.lconst 0, 1) := by decide +kernel
theorem dX9_poisson_2 : decode cX9_poisson 2 = .ok (.lcmp, 1) := by decide +kernel
theorem dX9_poisson_3 : decode cX9_poisson 3 = .ok (.ifCond .ne 5, 3) := by decide +kernel
theorem dX9_poisson_6 : decode cX9_poisson 6 = .ok (.lconst 0, 1) := by decide +kernel
theorem dX9_poisson_7 : decode cX9_poisson 7 = .ok (.lreturn, 1) := by decide +kernel
theorem dX9_poisson_8 : decode cX9_poisson 8 = .ok (.ldc2_w 96, 3) := by decide +kernel
theorem dX9_poisson_11 : decode cX9_poisson 11 = .ok (.lload_n 1, 1) := by decide +kernel
theorem dX9_poisson_12 : decode cX9_poisson 12 = .ok (.lmul, 1) := by decide +kernel
theorem dX9_poisson_13 : decode cX9_poisson 13 = .ok (.lload_n 3, 1) := by decide +kernel
theorem dX9_poisson_14 : decode cX9_poisson 14 = .ok (.ladd, 1) := by decide +kernel
theorem dX9_poisson_15 : decode cX9_poisson 15 = .ok (.lconst 1, 1) := by decide +kernel
theorem dX9_poisson_16 : decode cX9_poisson 16 = .ok (.lsub, 1) := by decide +kernel
theorem dX9_poisson_17 : decode cX9_poisson 17 = .ok (.lload_n 3, 1) := by decide +kernel
theorem dX9_poisson_18 : decode cX9_poisson 18 = .ok (.ldiv, 1) := by decide +kernel
theorem dX9_poisson_19 : decode cX9_poisson 19 = .ok (.lstore 5, 2) := by decide +kernel
theorem dX9_poisson_21 : decode cX9_poisson 21 = .ok (.lconst 0, 1) := by decide +kernel
theorem dX9_poisson_22 : decode cX9_poisson 22 = .ok (.lstore 7, 2) := by decide +kernel
theorem dX9_poisson_24 : decode cX9_poisson 24 = .ok (.lconst 0, 1) := by decide +kernel
theorem dX9_poisson_25 : decode cX9_poisson 25 = .ok (.lstore 9, 2) := by decide +kernel
theorem dX9_poisson_27 : decode cX9_poisson 27 = .ok (.lload 9, 2) := by decide +kernel
theorem dX9_poisson_29 : decode cX9_poisson 29 = .ok (.lload 5, 2) := by decide +kernel
theorem dX9_poisson_31 : decode cX9_poisson 31 = .ok (.lcmp, 1) := by decide +kernel
theorem dX9_poisson_32 : decode cX9_poisson 32 = .ok (.ifCond .ge 33, 3) := by decide +kernel
theorem dX9_poisson_35 : decode cX9_poisson 35 = .ok (.aload_n 0, 1) := by decide +kernel
theorem dX9_poisson_36 : decode cX9_poisson 36 = .ok (.getfield 77, 3) := by decide +kernel
theorem dX9_poisson_39 : decode cX9_poisson 39 = .ok (.ifCond .ne 26, 3) := by decide +kernel
theorem dX9_poisson_42 : decode cX9_poisson 42 = .ok (.lload 7, 2) := by decide +kernel
theorem dX9_poisson_44 : decode cX9_poisson 44 = .ok (.aload_n 0, 1) := by decide +kernel
theorem dX9_poisson_45 : decode cX9_poisson 45 = .ok (.lload_n 1, 1) := by decide +kernel
theorem dX9_poisson_46 : decode cX9_poisson 46 = .ok (.lload 5, 2) := by decide +kernel
theorem dX9_poisson_48 : decode cX9_poisson 48 = .ok (.lload_n 3, 1) := by decide +kernel
theorem dX9_poisson_49 : decode cX9_poisson 49 = .ok (.lmul, 1) := by decide +kernel
theorem dX9_poisson_50 : decode cX9_poisson 50 = .ok (.invokevirtual 116, 3) := by decide +kernel
theorem dX9_poisson_53 : decode cX9_poisson 53 = .ok (.ladd, 1) := by decide +kernel
theorem dX9_poisson_54 : decode cX9_poisson 54 = .ok (.lstore 7, 2) := by decide +kernel
theorem dX9_poisson_56 : decode cX9_poisson 56 = .ok (.lload 9, 2) := by decide +kernel
theorem dX9_poisson_58 : decode cX9_poisson 58 = .ok (.lconst 1, 1) := by decide +kernel
theorem dX9_poisson_59 : decode cX9_poisson 59 = .ok (.ladd, 1) := by decide +kernel
theorem dX9_poisson_60 : decode cX9_poisson 60 = .ok (.lstore 9, 2) := by decide +kernel
theorem dX9_poisson_62 : decode cX9_poisson 62 = .ok (.goto (-35), 3) := by decide +kernel
theorem dX9_poisson_65 : decode cX9_poisson 65 = .ok (.lload 7, 2) := by decide +kernel
theorem dX9_poisson_67 : decode cX9_poisson 67 = .ok (.lreturn, 1) := by decide +kernel
theorem dX9_bell_0 : decode cX9_bell 0 = .ok (.lconst 1, 1) := by decide +kernel
theorem dX9_bell_1 : decode cX9_bell 1 = .ok (.lstore 5, 2) := by decide +kernel
theorem dX9_bell_3 : decode cX9_bell 3 = .ok (.lload 5, 2) := by decide +kernel
theorem dX9_bell_5 : decode cX9_bell 5 = .ok (.lload 5, 2) := by decide +kernel
theorem dX9_bell_7 : decode cX9_bell 7 = .ok (.lmul, 1) := by decide +kernel
theorem dX9_bell_8 : decode cX9_bell 8 = .ok (.lload_n 3, 1) := by decide +kernel
theorem dX9_bell_9 : decode cX9_bell 9 = .ok (.lmul, 1) := by decide +kernel
theorem dX9_bell_10 : decode cX9_bell 10 = .ok (.lload_n 1, 1) := by decide +kernel
theorem dX9_bell_11 : decode cX9_bell 11 = .ok (.lcmp, 1) := by decide +kernel
theorem dX9_bell_12 : decode cX9_bell 12 = .ok (.ifCond .gt 12, 3) := by decide +kernel
theorem dX9_bell_15 : decode cX9_bell 15 = .ok (.lload 5, 2) := by decide +kernel
theorem dX9_bell_17 : decode cX9_bell 17 = .ok (.lconst 1, 1) := by decide +kernel
theorem dX9_bell_18 : decode cX9_bell 18 = .ok (.ladd, 1) := by decide +kernel
theorem dX9_bell_19 : decode cX9_bell 19 = .ok (.lstore 5, 2) := by decide +kernel
theorem dX9_bell_21 : decode cX9_bell 21 = .ok (.goto (-18), 3) := by decide +kernel
theorem dX9_bell_24 : decode cX9_bell 24 = .ok (.aload_n 0, 1) := by decide +kernel
theorem dX9_bell_25 : decode cX9_bell 25 = .ok (.getfield 77, 3) := by decide +kernel
theorem dX9_bell_28 : decode cX9_bell 28 = .ok (.ifCond .ne 135, 3) := by decide +kernel
theorem dX9_bell_31 : decode cX9_bell 31 = .ok (.aload_n 0, 1) := by decide +kernel
theorem dX9_bell_32 : decode cX9_bell 32 = .ok (.lload 5, 2) := by decide +kernel
theorem dX9_bell_34 : decode cX9_bell 34 = .ok (.invokevirtual 105, 3) := by decide +kernel
theorem dX9_bell_37 : decode cX9_bell 37 = .ok (.lstore 7, 2) := by decide +kernel
theorem dX9_bell_39 : decode cX9_bell 39 = .ok (.aload_n 0, 1) := by decide +kernel
theorem dX9_bell_40 : decode cX9_bell 40 = .ok (.lload 7, 2) := by decide +kernel
theorem dX9_bell_42 : decode cX9_bell 42 = .ok (.lload 5, 2) := by decide +kernel
theorem dX9_bell_44 : decode cX9_bell 44 = .ok (.invokevirtual 120, 3) := by decide +kernel
theorem dX9_bell_47 : decode cX9_bell 47 = .ok (.iconst 1, 1) := by decide +kernel
theorem dX9_bell_48 : decode cX9_bell 48 = .ok (.if_icmp .ne 112, 3) := by decide +kernel
theorem dX9_bell_51 : decode cX9_bell 51 = .ok (.lconst 0, 1) := by decide +kernel
theorem dX9_bell_52 : decode cX9_bell 52 = .ok (.lstore 9, 2) := by decide +kernel
theorem dX9_bell_54 : decode cX9_bell 54 = .ok (.aload_n 0, 1) := by decide +kernel
theorem dX9_bell_55 : decode cX9_bell 55 = .ok (.getfield 77, 3) := by decide +kernel
theorem dX9_bell_58 : decode cX9_bell 58 = .ok (.ifCond .ne 22, 3) := by decide +kernel
theorem dX9_bell_61 : decode cX9_bell 61 = .ok (.aload_n 0, 1) := by decide +kernel
theorem dX9_bell_62 : decode cX9_bell 62 = .ok (.lconst 1, 1) := by decide +kernel
theorem dX9_bell_63 : decode cX9_bell 63 = .ok (.lconst 1, 1) := by decide +kernel
theorem dX9_bell_64 : decode cX9_bell 64 = .ok (.invokevirtual 113, 3) := by decide +kernel
theorem dX9_bell_67 : decode cX9_bell 67 = .ok (.iconst 1, 1) := by decide +kernel
theorem dX9_bell_68 : decode cX9_bell 68 = .ok (.if_icmp .ne 12, 3) := by decide +kernel
theorem dX9_bell_71 : decode cX9_bell 71 = .ok (.lload 9, 2) := by decide +kernel
theorem dX9_bell_73 : decode cX9_bell 73 = .ok (.lconst 1, 1) := by decide +kernel
theorem dX9_bell_74 : decode cX9_bell 74 = .ok (.ladd, 1) := by decide +kernel
theorem dX9_bell_75 : decode cX9_bell 75 = .ok (.lstore 9, 2) := by decide +kernel
theorem dX9_bell_77 : decode cX9_bell 77 = .ok (.goto (-23), 3) := by decide +kernel
theorem dX9_bell_80 : decode cX9_bell 80 = .ok (.lload 7, 2) := by decide +kernel
theorem dX9_bell_82 : decode cX9_bell 82 = .ok (.lload 5, 2) := by decide +kernel
theorem dX9_bell_84 : decode cX9_bell 84 = .ok (.lload 9, 2) := by decide +kernel
theorem dX9_bell_86 : decode cX9_bell 86 = .ok (.lmul, 1) := by decide +kernel
theorem dX9_bell_87 : decode cX9_bell 87 = .ok (.ladd, 1) := by decide +kernel
theorem dX9_bell_88 : decode cX9_bell 88 = .ok (.lstore 11, 2) := by decide +kernel
theorem dX9_bell_90 : decode cX9_bell 90 = .ok (.aload_n 0, 1) := by decide +kernel
theorem dX9_bell_91 : decode cX9_bell 91 = .ok (.invokevirtual 98, 3) := by decide +kernel
theorem dX9_bell_94 : decode cX9_bell 94 = .ok (.istore 13, 2) := by decide +kernel
theorem dX9_bell_96 : decode cX9_bell 96 = .ok (.lload 11, 2) := by decide +kernel
theorem dX9_bell_98 : decode cX9_bell 98 = .ok (.lload_n 3, 1) := by decide +kernel
theorem dX9_bell_99 : decode cX9_bell 99 = .ok (.lmul, 1) := by decide +kernel
theorem dX9_bell_100 : decode cX9_bell 100 = .ok (.lload 5, 2) := by decide +kernel
theorem dX9_bell_102 : decode cX9_bell 102 = .ok (.lmul, 1) := by decide +kernel
theorem dX9_bell_103 : decode cX9_bell 103 = .ok (.lload_n 1, 1) := by decide +kernel
theorem dX9_bell_104 : decode cX9_bell 104 = .ok (.lsub, 1) := by decide +kernel
theorem dX9_bell_105 : decode cX9_bell 105 = .ok (.lstore 14, 2) := by decide +kernel
theorem dX9_bell_107 : decode cX9_bell 107 = .ok (.lload 11, 2) := by decide +kernel
theorem dX9_bell_109 : decode cX9_bell 109 = .ok (.lconst 0, 1) := by decide +kernel
theorem dX9_bell_110 : decode cX9_bell 110 = .ok (.lcmp, 1) := by decide +kernel
theorem dX9_bell_111 : decode cX9_bell 111 = .ok (.ifCond .gt 8, 3) := by decide +kernel
theorem dX9_bell_114 : decode cX9_bell 114 = .ok (.iload 13, 2) := by decide +kernel
theorem dX9_bell_116 : decode cX9_bell 116 = .ok (.ifCond .ne 44, 3) := by decide +kernel
theorem dX9_bell_119 : decode cX9_bell 119 = .ok (.aload_n 0, 1) := by decide +kernel
theorem dX9_bell_120 : decode cX9_bell 120 = .ok (.lload 14, 2) := by decide +kernel
theorem dX9_bell_122 : decode cX9_bell 122 = .ok (.lload 14, 2) := by decide +kernel
theorem dX9_bell_124 : decode cX9_bell 124 = .ok (.lmul, 1) := by decide +kernel
theorem dX9_bell_125 : decode cX9_bell 125 = .ok (.ldc2_w 96, 3) := by decide +kernel
theorem dX9_bell_128 : decode cX9_bell 128 = .ok (.lload_n 1, 1) := by decide +kernel
theorem dX9_bell_129 : decode cX9_bell 129 = .ok (.lmul, 1) := by decide +kernel
theorem dX9_bell_130 : decode cX9_bell 130 = .ok (.lload_n 3, 1) := by decide +kernel
theorem dX9_bell_131 : decode cX9_bell 131 = .ok (.lmul, 1) := by decide +kernel
theorem dX9_bell_132 : decode cX9_bell 132 = .ok (.lload 5, 2) := by decide +kernel
theorem dX9_bell_134 : decode cX9_bell 134 = .ok (.lmul, 1) := by decide +kernel
theorem dX9_bell_135 : decode cX9_bell 135 = .ok (.lload 5, 2) := by decide +kernel
theorem dX9_bell_137 : decode cX9_bell 137 = .ok (.lmul, 1) := by decide +kernel
theorem dX9_bell_138 : decode cX9_bell 138 = .ok (.invokevirtual 120, 3) := by decide +kernel
theorem dX9_bell_141 : decode cX9_bell 141 = .ok (.iconst 1, 1) := by decide +kernel
theorem dX9_bell_142 : decode cX9_bell 142 = .ok (.if_icmp .ne 18, 3) := by decide +kernel
theorem dX9_bell_145 : decode cX9_bell 145 = .ok (.iload 13, 2) := by decide +kernel
theorem dX9_bell_147 : decode cX9_bell 147 = .ok (.iconst 1, 1) := by decide +kernel
theorem dX9_bell_148 : decode cX9_bell 148 = .ok (.if_icmp .ne 9, 3) := by decide +kernel
theorem dX9_bell_151 : decode cX9_bell 151 = .ok (.lload 11, 2) := by decide +kernel
theorem dX9_bell_153 : decode cX9_bell 153 = .ok (.lneg, 1) := by decide +kernel
theorem dX9_bell_154 : decode cX9_bell 154 = .ok (.goto 5, 3) := by decide +kernel
theorem dX9_bell_157 : decode cX9_bell 157 = .ok (.lload 11, 2) := by decide +kernel
theorem dX9_bell_159 : decode cX9_bell 159 = .ok (.lreturn, 1) := by decide +kernel
theorem dX9_bell_160 : decode cX9_bell 160 = .ok (.goto (-136), 3) := by decide +kernel
theorem dX9_bell_163 : decode cX9_bell 163 = .ok (.lconst 0, 1) := by decide +kernel
theorem dX9_bell_164 : decode cX9_bell 164 = .ok (.lreturn, 1) := by decide +kernel
theorem dX9_shuffle_0 : decode cX9_shuffle 0 = .ok (.aload_n 0, 1) := by decide +kernel
theorem dX9_shuffle_1 : decode cX9_shuffle 1 = .ok (.iload_n 1, 1) := by decide +kernel
theorem dX9_shuffle_2 : decode cX9_shuffle 2 = .ok (.putfield 123, 3) := by decide +kernel
theorem dX9_shuffle_5 : decode cX9_shuffle 5 = .ok (.iconst 0, 1) := by decide +kernel
theorem dX9_shuffle_6 : decode cX9_shuffle 6 = .ok (.istore_n 2, 1) := by decide +kernel
theorem dX9_shuffle_7 : decode cX9_shuffle 7 = .ok (.iload_n 2, 1) := by decide +kernel
theorem dX9_shuffle_8 : decode cX9_shuffle 8 = .ok (.iload_n 1, 1) := by decide +kernel
theorem dX9_shuffle_9 : decode cX9_shuffle 9 = .ok (.if_icmp .ge 16, 3) := by decide +kernel
theorem dX9_shuffle_12 : decode cX9_shuffle 12 = .ok (.aload_n 0, 1) := by decide +kernel
theorem dX9_shuffle_13 : decode cX9_shuffle 13 = .ok (.getfield 38, 3) := by decide +kernel
theorem dX9_shuffle_16 : decode cX9_shuffle 16 = .ok (.iload_n 2, 1) := by decide +kernel
theorem dX9_shuffle_17 : decode cX9_shuffle 17 = .ok (.iload_n 2, 1) := by decide +kernel
theorem dX9_shuffle_18 : decode cX9_shuffle 18 = .ok (.iastore, 1) := by decide +kernel
theorem dX9_shuffle_19 : decode cX9_shuffle 19 = .ok (.iinc 2 1, 3) := by decide +kernel
theorem dX9_shuffle_22 : decode cX9_shuffle 22 = .ok (.goto (-15), 3) := by decide +kernel
theorem dX9_shuffle_25 : decode cX9_shuffle 25 = .ok (.iload_n 1, 1) := by decide +kernel
theorem dX9_shuffle_26 : decode cX9_shuffle 26 = .ok (.iconst 1, 1) := by decide +kernel
