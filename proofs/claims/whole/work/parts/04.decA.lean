theorem dX0_init_0 : decode cX0_init 0 = .ok (.aload_n 0, 1) := by decide +kernel
theorem dX0_init_1 : decode cX0_init 1 = .ok (.invokespecial 3, 3) := by decide +kernel
theorem dX0_init_4 : decode cX0_init 4 = .ok (.aload_n 0, 1) := by decide +kernel
theorem dX0_init_5 : decode cX0_init 5 = .ok (.iconst 1, 1) := by decide +kernel
theorem dX0_init_6 : decode cX0_init 6 = .ok (.newarray .int, 2) := by decide +kernel
theorem dX0_init_8 : decode cX0_init 8 = .ok (.putfield 9, 3) := by decide +kernel
theorem dX0_init_11 : decode cX0_init 11 = .ok (.return_, 1) := by decide +kernel
theorem dX0_open_0 : decode cX0_open 0 = .ok (.aload_n 0, 1) := by decide +kernel
theorem dX0_open_1 : decode cX0_open 1 = .ok (.aload_n 1, 1) := by decide +kernel
theorem dX0_open_2 : decode cX0_open 2 = .ok (.putfield 9, 3) := by decide +kernel
theorem dX0_open_5 : decode cX0_open 5 = .ok (.aload_n 0, 1) := by decide +kernel
theorem dX0_open_6 : decode cX0_open 6 = .ok (.iload_n 2, 1) := by decide +kernel
theorem dX0_open_7 : decode cX0_open 7 = .ok (.putfield 15, 3) := by decide +kernel
theorem dX0_open_10 : decode cX0_open 10 = .ok (.aload_n 0, 1) := by decide +kernel
theorem dX0_open_11 : decode cX0_open 11 = .ok (.iload_n 2, 1) := by decide +kernel
theorem dX0_open_12 : decode cX0_open 12 = .ok (.putfield 19, 3) := by decide +kernel
theorem dX0_open_15 : decode cX0_open 15 = .ok (.aload_n 0, 1) := by decide +kernel
theorem dX0_open_16 : decode cX0_open 16 = .ok (.iload_n 3, 1) := by decide +kernel
theorem dX0_open_17 : decode cX0_open 17 = .ok (.aload_n 1, 1) := by decide +kernel
theorem dX0_open_18 : decode cX0_open 18 = .ok (.arraylength, 1) := by decide +kernel
theorem dX0_open_19 : decode cX0_open 19 = .ok (.bipush 32, 2) := by decide +kernel
theorem dX0_open_21 : decode cX0_open 21 = .ok (.imul, 1) := by decide +kernel
theorem dX0_open_22 : decode cX0_open 22 = .ok (.invokestatic 22, 3) := by decide +kernel
theorem dX0_open_25 : decode cX0_open 25 = .ok (.putfield 28, 3) := by decide +kernel
theorem dX0_open_28 : decode cX0_open 28 = .ok (.aload_n 0, 1) := by decide +kernel
theorem dX0_open_29 : decode cX0_open 29 = .ok (.iconst 0, 1) := by decide +kernel
theorem dX0_open_30 : decode cX0_open 30 = .ok (.putfield 31, 3) := by decide +kernel
theorem dX0_open_33 : decode cX0_open 33 = .ok (.return_, 1) := by decide +kernel
theorem dX0_bitsRead_0 : decode cX0_bitsRead 0 = .ok (.aload_n 0, 1) := by decide +kernel
theorem dX0_bitsRead_1 : decode cX0_bitsRead 1 = .ok (.getfield 19, 3) := by decide +kernel
theorem dX0_bitsRead_4 : decode cX0_bitsRead 4 = .ok (.aload_n 0, 1) := by decide +kernel
theorem dX0_bitsRead_5 : decode cX0_bitsRead 5 = .ok (.getfield 15, 3) := by decide +kernel
theorem dX0_bitsRead_8 : decode cX0_bitsRead 8 = .ok (.isub, 1) := by decide +kernel
theorem dX0_bitsRead_9 : decode cX0_bitsRead 9 = .ok (.ireturn, 1) := by decide +kernel
theorem dX0_nextBit_0 : decode cX0_nextBit 0 = .ok (.aload_n 0, 1) := by decide +kernel
theorem dX0_nextBit_1 : decode cX0_nextBit 1 = .ok (.getfield 19, 3) := by decide +kernel
theorem dX0_nextBit_4 : decode cX0_nextBit 4 = .ok (.ifCond .lt 14, 3) := by decide +kernel
theorem dX0_nextBit_7 : decode cX0_nextBit 7 = .ok (.aload_n 0, 1) := by decide +kernel
theorem dX0_nextBit_8 : decode cX0_nextBit 8 = .ok (.getfield 19, 3) := by decide +kernel
theorem dX0_nextBit_11 : decode cX0_nextBit 11 = .ok (.aload_n 0, 1) := by decide +kernel
theorem dX0_nextBit_12 : decode cX0_nextBit 12 = .ok (.getfield 28, 3) := by decide +kernel
theorem dX0_nextBit_15 : decode cX0_nextBit 15 = .ok (.if_icmp .lt 10, 3) := by decide +kernel
theorem dX0_nextBit_18 : decode cX0_nextBit 18 = .ok (.aload_n 0, 1) := by decide +kernel
theorem dX0_nextBit_19 : decode cX0_nextBit 19 = .ok (.iconst 1, 1) := by decide +kernel
theorem dX0_nextBit_20 : decode cX0_nextBit 20 = .ok (.putfield 31, 3) := by decide +kernel
theorem dX0_nextBit_23 : decode cX0_nextBit 23 = .ok (.iconst 0, 1) := by decide +kernel
theorem dX0_nextBit_24 : decode cX0_nextBit 24 = .ok (.ireturn, 1) := by decide +kernel
theorem dX0_nextBit_25 : decode cX0_nextBit 25 = .ok (.aload_n 0, 1) := by decide +kernel
theorem dX0_nextBit_26 : decode cX0_nextBit 26 = .ok (.getfield 9, 3) := by decide +kernel
theorem dX0_nextBit_29 : decode cX0_nextBit 29 = .ok (.aload_n 0, 1) := by decide +kernel
theorem dX0_nextBit_30 : decode cX0_nextBit 30 = .ok (.getfield 19, 3) := by decide +kernel
theorem dX0_nextBit_33 : decode cX0_nextBit 33 = .ok (.bipush 32, 2) := by decide +kernel
theorem dX0_nextBit_35 : decode cX0_nextBit 35 = .ok (.idiv, 1) := by decide +kernel
theorem dX0_nextBit_36 : decode cX0_nextBit 36 = .ok (.iaload, 1) := by decide +kernel
theorem dX0_nextBit_37 : decode cX0_nextBit 37 = .ok (.bipush 31, 2) := by decide +kernel
theorem dX0_nextBit_39 : decode cX0_nextBit 39 = .ok (.aload_n 0, 1) := by decide +kernel
theorem dX0_nextBit_40 : decode cX0_nextBit 40 = .ok (.getfield 19, 3) := by decide +kernel
theorem dX0_nextBit_43 : decode cX0_nextBit 43 = .ok (.bipush 32, 2) := by decide +kernel
theorem dX0_nextBit_45 : decode cX0_nextBit 45 = .ok (.irem, 1) := by decide +kernel
theorem dX0_nextBit_46 : decode cX0_nextBit 46 = .ok (.isub, 1) := by decide +kernel
theorem dX0_nextBit_47 : decode cX0_nextBit 47 = .ok (.iushr, 1) := by decide +kernel
theorem dX0_nextBit_48 : decode cX0_nextBit 48 = .ok (.iconst 1, 1) := by decide +kernel
theorem dX0_nextBit_49 : decode cX0_nextBit 49 = .ok (.iand, 1) := by decide +kernel
theorem dX0_nextBit_50 : decode cX0_nextBit 50 = .ok (.istore_n 1, 1) := by decide +kernel
theorem dX0_nextBit_51 : decode cX0_nextBit 51 = .ok (.aload_n 0, 1) := by decide +kernel
theorem dX0_nextBit_52 : decode cX0_nextBit 52 = .ok (.dup, 1) := by decide +kernel
theorem dX0_nextBit_53 : decode cX0_nextBit 53 = .ok (.getfield 19, 3) := by decide +kernel
theorem dX0_nextBit_56 : decode cX0_nextBit 56 = .ok (.iconst 1, 1) := by decide +kernel
theorem dX0_nextBit_57 : decode cX0_nextBit 57 = .ok (.iadd, 1) := by decide +kernel
theorem dX0_nextBit_58 : decode cX0_nextBit 58 = .ok (.putfield 19, 3) := by decide +kernel
theorem dX0_nextBit_61 : decode cX0_nextBit 61 = .ok (.iload_n 1, 1) := by decide +kernel
theorem dX0_nextBit_62 : decode cX0_nextBit 62 = .ok (.ireturn, 1) := by decide +kernel
theorem dX0_uniform_0 : decode cX0_uniform 0 = .ok (.lconst 1, 1) := by decide +kernel
theorem dX0_uniform_1 : decode cX0_uniform 1 = .ok (.lstore_n 3, 1) := by decide +kernel
theorem dX0_uniform_2 : decode cX0_uniform 2 = .ok (.lconst 0, 1) := by decide +kernel
theorem dX0_uniform_3 : decode cX0_uniform 3 = .ok (.lstore 5, 2) := by decide +kernel
theorem dX0_uniform_5 : decode cX0_uniform 5 = .ok (.iconst 0, 1) := by decide +kernel
theorem dX0_uniform_6 : decode cX0_uniform 6 = .ok (.istore 7, 2) := by decide +kernel
theorem dX0_uniform_8 : decode cX0_uniform 8 = .ok (.iload 7, 2) := by decide +kernel
theorem dX0_uniform_10 : decode cX0_uniform 10 = .ok (.ldc 35, 2) := by decide +kernel
theorem dX0_uniform_12 : decode cX0_uniform 12 = .ok (.if_icmp .ge 62, 3) := by decide +kernel
theorem dX0_uniform_15 : decode cX0_uniform 15 = .ok (.aload_n 0, 1) := by decide +kernel
theorem dX0_uniform_16 : decode cX0_uniform 16 = .ok (.getfield 31, 3) := by decide +kernel
theorem dX0_uniform_19 : decode cX0_uniform 19 = .ok (.ifCond .ne 55, 3) := by decide +kernel
theorem dX0_uniform_22 : decode cX0_uniform 22 = .ok (.lload_n 3, 1) := by decide +kernel
theorem dX0_uniform_23 : decode cX0_uniform 23 = .ok (.lload_n 1, 1) := by decide +kernel
theorem dX0_uniform_24 : decode cX0_uniform 24 = .ok (.lcmp, 1) := by decide +kernel
theorem dX0_uniform_25 : decode cX0_uniform 25 = .ok (.ifCond .ge 23, 3) := by decide +kernel
theorem dX0_uniform_28 : decode cX0_uniform 28 = .ok (.lload_n 3, 1) := by decide +kernel
theorem dX0_uniform_29 : decode cX0_uniform 29 = .ok (.lload_n 3, 1) := by decide +kernel
theorem dX0_uniform_30 : decode cX0_uniform 30 = .ok (.ladd, 1) := by decide +kernel
theorem dX0_uniform_31 : decode cX0_uniform 31 = .ok (.lstore_n 3, 1) := by decide +kernel
theorem dX0_uniform_32 : decode cX0_uniform 32 = .ok (.lload 5, 2) := by decide +kernel
theorem dX0_uniform_34 : decode cX0_uniform 34 = .ok (.lload 5, 2) := by decide +kernel
theorem dX0_uniform_36 : decode cX0_uniform 36 = .ok (.aload_n 0, 1) := by decide +kernel
theorem dX0_uniform_37 : decode cX0_uniform 37 = .ok (.invokevirtual 36, 3) := by decide +kernel
theorem dX0_uniform_40 : decode cX0_uniform 40 = .ok (.i2l, 1) := by decide +kernel
theorem dX0_uniform_41 : decode cX0_uniform 41 = .ok (.ladd, 1) := by decide +kernel
theorem dX0_uniform_42 : decode cX0_uniform 42 = .ok (.ladd, 1) := by decide +kernel
theorem dX0_uniform_43 : decode cX0_uniform 43 = .ok (.lstore 5, 2) := by decide +kernel
theorem dX0_uniform_45 : decode cX0_uniform 45 = .ok (.goto 23, 3) := by decide +kernel
theorem dX0_uniform_48 : decode cX0_uniform 48 = .ok (.lload 5, 2) := by decide +kernel
theorem dX0_uniform_50 : decode cX0_uniform 50 = .ok (.lload_n 1, 1) := by decide +kernel
theorem dX0_uniform_51 : decode cX0_uniform 51 = .ok (.lcmp, 1) := by decide +kernel
theorem dX0_uniform_52 : decode cX0_uniform 52 = .ok (.ifCond .ge 6, 3) := by decide +kernel
theorem dX0_uniform_55 : decode cX0_uniform 55 = .ok (.lload 5, 2) := by decide +kernel
theorem dX0_uniform_57 : decode cX0_uniform 57 = .ok (.lreturn, 1) := by decide +kernel
theorem dX0_uniform_58 : decode cX0_uniform 58 = .ok (.lload_n 3, 1) := by decide +kernel
theorem dX0_uniform_59 : decode cX0_uniform 59 = .ok (.lload_n 1, 1) := by decide +kernel
theorem dX0_uniform_60 : decode cX0_uniform 60 = .ok (.lsub, 1) := by decide +kernel
theorem dX0_uniform_61 : decode cX0_uniform 61 = .ok (.lstore_n 3, 1) := by decide +kernel
theorem dX0_uniform_62 : decode cX0_uniform 62 = .ok (.lload 5, 2) := by decide +kernel
theorem dX0_uniform_64 : decode cX0_uniform 64 = .ok (.lload_n 1, 1) := by decide +kernel
theorem dX0_uniform_65 : decode cX0_uniform 65 = .ok (.lsub, 1) := by decide +kernel
theorem dX0_uniform_66 : decode cX0_uniform 66 = .ok (.lstore 5, 2) := by decide +kernel
theorem dX0_uniform_68 : decode cX0_uniform 68 = .ok (.iinc 7 1, 3) := by decide +kernel
theorem dX0_uniform_71 : decode cX0_uniform 71 = .ok (.goto (-63), 3) := by decide +kernel
theorem dX0_uniform_74 : decode cX0_uniform 74 = .ok (.lconst 0, 1) := by decide +kernel
theorem dX0_uniform_75 : decode cX0_uniform 75 = .ok (.lreturn, 1) := by decide +kernel
theorem dX0_coin_0 : decode cX0_coin 0 = .ok (.lload_n 1, 1) := by decide +kernel
theorem dX0_coin_1 : decode cX0_coin 1 = .ok (.lconst 0, 1) := by decide +kernel
theorem dX0_coin_2 : decode cX0_coin 2 = .ok (.lcmp, 1) := by decide +kernel
theorem dX0_coin_3 : decode cX0_coin 3 = .ok (.ifCond .le 9, 3) := by decide +kernel
theorem dX0_coin_6 : decode cX0_coin 6 = .ok (.lload_n 1, 1) := by decide +kernel
theorem dX0_coin_7 : decode cX0_coin 7 = .ok (.lload_n 3, 1) := by decide +kernel
theorem dX0_coin_8 : decode cX0_coin 8 = .ok (.lcmp, 1) := by decide +kernel
theorem dX0_coin_9 : decode cX0_coin 9 = .ok (.ifCond .lt 15, 3) := by decide +kernel
theorem dX0_coin_12 : decode cX0_coin 12 = .ok (.lload_n 1, 1) := by decide +kernel
theorem dX0_coin_13 : decode cX0_coin 13 = .ok (.lconst 0, 1) := by decide +kernel
theorem dX0_coin_14 : decode cX0_coin 14 = .ok (.lcmp, 1) := by decide +kernel
theorem dX0_coin_15 : decode cX0_coin 15 = .ok (.ifCond .gt 7, 3) := by decide +kernel
theorem dX0_coin_18 : decode cX0_coin 18 = .ok (.iconst 0, 1) := by decide +kernel
theorem dX0_coin_19 : decode cX0_coin 19 = .ok (.goto 4, 3) := by decide +kernel
theorem dX0_coin_22 : decode cX0_coin 22 = .ok (.iconst 1, 1) := by decide +kernel
theorem dX0_coin_23 : decode cX0_coin 23 = .ok (.ireturn, 1) := by decide +kernel
theorem dX0_coin_24 : decode cX0_coin 24 = .ok (.lload_n 1, 1) := by decide +kernel
theorem dX0_coin_25 : decode cX0_coin 25 = .ok (.lstore 5, 2) := by decide +kernel
theorem dX0_coin_27 : decode cX0_coin 27 = .ok (.iconst 0, 1) := by decide +kernel
theorem dX0_coin_28 : decode cX0_coin 28 = .ok (.istore 7, 2) := by decide +kernel
theorem dX0_coin_30 : decode cX0_coin 30 = .ok (.iload 7, 2) := by decide +kernel
theorem dX0_coin_32 : decode cX0_coin 32 = .ok (.ldc 35, 2) := by decide +kernel
theorem dX0_coin_34 : decode cX0_coin 34 = .ok (.if_icmp .ge 74, 3) := by decide +kernel
theorem dX0_coin_37 : decode cX0_coin 37 = .ok (.lload 5, 2) := by decide +kernel
theorem dX0_coin_39 : decode cX0_coin 39 = .ok (.lload 5, 2) := by decide +kernel
theorem dX0_coin_41 : decode cX0_coin 41 = .ok (.ladd, 1) := by decide +kernel
theorem dX0_coin_42 : decode cX0_coin 42 = .ok (.lstore 5, 2) := by decide +kernel
theorem dX0_coin_44 : decode cX0_coin 44 = .ok (.lload 5, 2) := by decide +kernel
theorem dX0_coin_46 : decode cX0_coin 46 = .ok (.lload_n 3, 1) := by decide +kernel
theorem dX0_coin_47 : decode cX0_coin 47 = .ok (.lcmp, 1) := by decide +kernel
theorem dX0_coin_48 : decode cX0_coin 48 = .ok (.ifCond .lt 7, 3) := by decide +kernel
theorem dX0_coin_51 : decode cX0_coin 51 = .ok (.iconst 1, 1) := by decide +kernel
theorem dX0_coin_52 : decode cX0_coin 52 = .ok (.goto 4, 3) := by decide +kernel
theorem dX0_coin_55 : decode cX0_coin 55 = .ok (.iconst 0, 1) := by decide +kernel
theorem dX0_coin_56 : decode cX0_coin 56 = .ok (.istore 8, 2) := by decide +kernel
theorem dX0_coin_58 : decode cX0_coin 58 = .ok (.lload 5, 2) := by decide +kernel
theorem dX0_coin_60 : decode cX0_coin 60 = .ok (.iload 8, 2) := by decide +kernel
theorem dX0_coin_62 : decode cX0_coin 62 = .ok (.i2l, 1) := by decide +kernel
theorem dX0_coin_63 : decode cX0_coin 63 = .ok (.lload_n 3, 1) := by decide +kernel
theorem dX0_coin_64 : decode cX0_coin 64 = .ok (.lmul, 1) := by decide +kernel
theorem dX0_coin_65 : decode cX0_coin 65 = .ok (.lsub, 1) := by decide +kernel
theorem dX0_coin_66 : decode cX0_coin 66 = .ok (.lstore 5, 2) := by decide +kernel
theorem dX0_coin_68 : decode cX0_coin 68 = .ok (.aload_n 0, 1) := by decide +kernel
theorem dX0_coin_69 : decode cX0_coin 69 = .ok (.invokevirtual 36, 3) := by decide +kernel
theorem dX0_coin_72 : decode cX0_coin 72 = .ok (.istore 9, 2) := by decide +kernel
theorem dX0_coin_74 : decode cX0_coin 74 = .ok (.aload_n 0, 1) := by decide +kernel
theorem dX0_coin_75 : decode cX0_coin 75 = .ok (.getfield 31, 3) := by decide +kernel
theorem dX0_coin_78 : decode cX0_coin 78 = .ok (.ifCond .eq 5, 3) := by decide +kernel
theorem dX0_coin_81 : decode cX0_coin 81 = .ok (.iconst 0, 1) := by decide +kernel
theorem dX0_coin_82 : decode cX0_coin 82 = .ok (.ireturn, 1) := by decide +kernel
theorem dX0_coin_83 : decode cX0_coin 83 = .ok (.iload 9, 2) := by decide +kernel
theorem dX0_coin_85 : decode cX0_coin 85 = .ok (.iload 8, 2) := by decide +kernel
theorem dX0_coin_87 : decode cX0_coin 87 = .ok (.if_icmp .eq 6, 3) := by decide +kernel
theorem dX0_coin_90 : decode cX0_coin 90 = .ok (.iload 8, 2) := by decide +kernel
theorem dX0_coin_92 : decode cX0_coin 92 = .ok (.ireturn, 1) := by decide +kernel
theorem dX0_coin_93 : decode cX0_coin 93 = .ok (.lload 5, 2) := by decide +kernel
theorem dX0_coin_95 : decode cX0_coin 95 = .ok (.lconst 0, 1) := by decide +kernel
theorem dX0_coin_96 : decode cX0_coin 96 = .ok (.lcmp, 1) := by decide +kernel
theorem dX0_coin_97 : decode cX0_coin 97 = .ok (.ifCond .ne 5, 3) := by decide +kernel
theorem dX0_coin_100 : decode cX0_coin 100 = .ok (.iconst 0, 1) := by decide +kernel
theorem dX0_coin_101 : decode cX0_coin 101 = .ok (.ireturn, 1) := by decide +kernel
theorem dX0_coin_102 : decode cX0_coin 102 = .ok (.iinc 7 1, 3) := by decide +kernel
theorem dX0_coin_105 : decode cX0_coin 105 = .ok (.goto (-75), 3) := by decide +kernel
theorem dX0_coin_108 : decode cX0_coin 108 = .ok (.iconst 0, 1) := by decide +kernel
theorem dX0_coin_109 : decode cX0_coin 109 = .ok (.ireturn, 1) := by decide +kernel
theorem dX0_coinsInARow_0 : decode cX0_coinsInARow 0 = .ok (.iconst 0, 1) := by decide +kernel
theorem dX0_coinsInARow_1 : decode cX0_coinsInARow 1 = .ok (.istore 5, 2) := by decide +kernel
theorem dX0_coinsInARow_3 : decode cX0_coinsInARow 3 = .ok (.iload 5, 2) := by decide +kernel
theorem dX0_coinsInARow_5 : decode cX0_coinsInARow 5 = .ok (.ldc 35, 2) := by decide +kernel
theorem dX0_coinsInARow_7 : decode cX0_coinsInARow 7 = .ok (.if_icmp .ge 19, 3) := by decide +kernel
theorem dX0_coinsInARow_10 : decode cX0_coinsInARow 10 = .ok (.aload_n 0, 1) := by decide +kernel
theorem dX0_coinsInARow_11 : decode cX0_coinsInARow 11 = .ok (.lload_n 1, 1) := by decide +kernel
theorem dX0_coinsInARow_12 : decode cX0_coinsInARow 12 = .ok (.lload_n 3, 1) := by decide +kernel
theorem dX0_coinsInARow_13 : decode cX0_coinsInARow 13 = .ok (.invokevirtual 40, 3) := by decide +kernel
theorem dX0_coinsInARow_16 : decode cX0_coinsInARow 16 = .ok (.iconst 1, 1) := by decide +kernel
theorem dX0_coinsInARow_17 : decode cX0_coinsInARow 17 = .ok (.if_icmp .ne 9, 3) := by decide +kernel
theorem dX0_coinsInARow_20 : decode cX0_coinsInARow 20 = .ok (.iinc 5 1, 3) := by decide +kernel
theorem dX0_coinsInARow_23 : decode cX0_coinsInARow 23 = .ok (.goto (-20), 3) := by decide +kernel
theorem dX0_coinsInARow_26 : decode cX0_coinsInARow 26 = .ok (.iload 5, 2) := by decide +kernel
theorem dX0_coinsInARow_28 : decode cX0_coinsInARow 28 = .ok (.ireturn, 1) := by decide +kernel
theorem dX0_unitExponentialCoin_0 : decode cX0_unitExponentialCoin 0 = .ok (.iconst 1, 1) := by decide +kernel
theorem dX0_unitExponentialCoin_1 : decode cX0_unitExponentialCoin 1 = .ok (.istore 5, 2) := by decide +kernel
theorem dX0_unitExponentialCoin_3 : decode cX0_unitExponentialCoin 3 = .ok (.iload 5, 2) := by decide +kernel
theorem dX0_unitExponentialCoin_5 : decode cX0_unitExponentialCoin 5 = .ok (.ldc 35, 2) := by decide +kernel
theorem dX0_unitExponentialCoin_7 : decode cX0_unitExponentialCoin 7 = .ok (.if_icmp .ge 23, 3) := by decide +kernel
theorem dX0_unitExponentialCoin_10 : decode cX0_unitExponentialCoin 10 = .ok (.aload_n 0, 1) := by decide +kernel
theorem dX0_unitExponentialCoin_11 : decode cX0_unitExponentialCoin 11 = .ok (.lload_n 1, 1) := by decide +kernel
theorem dX0_unitExponentialCoin_12 : decode cX0_unitExponentialCoin 12 = .ok (.iload 5, 2) := by decide +kernel
theorem dX0_unitExponentialCoin_14 : decode cX0_unitExponentialCoin 14 = .ok (.i2l, 1) := by decide +kernel
theorem dX0_unitExponentialCoin_15 : decode cX0_unitExponentialCoin 15 = .ok (.lload_n 3, 1) := by decide +kernel
theorem dX0_unitExponentialCoin_16 : decode cX0_unitExponentialCoin 16 = .ok (.lmul, 1) := by decide +kernel
theorem dX0_unitExponentialCoin_17 : decode cX0_unitExponentialCoin 17 = .ok (.invokevirtual 40, 3) := by decide +kernel
theorem dX0_unitExponentialCoin_20 : decode cX0_unitExponentialCoin 20 = .ok (.iconst 1, 1) := by decide +kernel
theorem dX0_unitExponentialCoin_21 : decode cX0_unitExponentialCoin 21 = .ok (.if_icmp .ne 9, 3) := by decide +kernel
theorem dX0_unitExponentialCoin_24 : decode cX0_unitExponentialCoin 24 = .ok (.iinc 5 1, 3) := by decide +kernel
theorem dX0_unitExponentialCoin_27 : decode cX0_unitExponentialCoin 27 = .ok (.goto (-24), 3) := by decide +kernel
theorem dX0_unitExponentialCoin_30 : decode cX0_unitExponentialCoin 30 = .ok (.aload_n 0, 1) := by decide +kernel
theorem dX0_unitExponentialCoin_31 : decode cX0_unitExponentialCoin 31 = .ok (.getfield 31, 3) := by decide +kernel
theorem dX0_unitExponentialCoin_34 : decode cX0_unitExponentialCoin 34 = .ok (.ifCond .eq 7, 3) := by decide +kernel
theorem dX0_unitExponentialCoin_37 : decode cX0_unitExponentialCoin 37 = .ok (.iconst 0, 1) := by decide +kernel
theorem dX0_unitExponentialCoin_38 : decode cX0_unitExponentialCoin 38 = .ok (.goto 7, 3) := by decide +kernel
theorem dX0_unitExponentialCoin_41 : decode cX0_unitExponentialCoin 41 = .ok (.iload 5, 2) := by decide +kernel
theorem dX0_unitExponentialCoin_43 : decode cX0_unitExponentialCoin 43 = .ok (.iconst 2, 1) := by decide +kernel
theorem dX0_unitExponentialCoin_44 : decode cX0_unitExponentialCoin 44 = .ok (.irem, 1) := by decide +kernel
theorem dX0_unitExponentialCoin_45 : decode cX0_unitExponentialCoin 45 = .ok (.ireturn, 1) := by decide +kernel
theorem dX0_exponentialCoin_0 : decode cX0_exponentialCoin 0 = .ok (.lload_n 1, 1) := by decide +kernel
theorem dX0_exponentialCoin_1 : decode cX0_exponentialCoin 1 = .ok (.lstore 5, 2) := by decide +kernel
theorem dX0_exponentialCoin_3 : decode cX0_exponentialCoin 3 = .ok (.iconst 0, 1) := by decide +kernel
theorem dX0_exponentialCoin_4 : decode cX0_exponentialCoin 4 = .ok (.istore 7, 2) := by decide +kernel
theorem dX0_exponentialCoin_6 : decode cX0_exponentialCoin 6 = .ok (.iload 7, 2) := by decide +kernel
theorem dX0_exponentialCoin_8 : decode cX0_exponentialCoin 8 = .ok (.ldc 35, 2) := by decide +kernel
theorem dX0_exponentialCoin_10 : decode cX0_exponentialCoin 10 = .ok (.if_icmp .ge 33, 3) := by decide +kernel
theorem dX0_exponentialCoin_13 : decode cX0_exponentialCoin 13 = .ok (.lload 5, 2) := by decide +kernel
theorem dX0_exponentialCoin_15 : decode cX0_exponentialCoin 15 = .ok (.lload_n 3, 1) := by decide +kernel
theorem dX0_exponentialCoin_16 : decode cX0_exponentialCoin 16 = .ok (.lcmp, 1) := by decide +kernel
theorem dX0_exponentialCoin_17 : decode cX0_exponentialCoin 17 = .ok (.ifCond .lt 26, 3) := by decide +kernel
theorem dX0_exponentialCoin_20 : decode cX0_exponentialCoin 20 = .ok (.aload_n 0, 1) := by decide +kernel
theorem dX0_exponentialCoin_21 : decode cX0_exponentialCoin 21 = .ok (.lconst 1, 1) := by decide +kernel
theorem dX0_exponentialCoin_22 : decode cX0_exponentialCoin 22 = .ok (.lconst 1, 1) := by decide +kernel
theorem dX0_exponentialCoin_23 : decode cX0_exponentialCoin 23 = .ok (.invokevirtual 44, 3) := by decide +kernel
theorem dX0_exponentialCoin_26 : decode cX0_exponentialCoin 26 = .ok (.ifCond .ne 5, 3) := by decide +kernel
theorem dX0_exponentialCoin_29 : decode cX0_exponentialCoin 29 = .ok (.iconst 0, 1) := by decide +kernel
theorem dX0_exponentialCoin_30 : decode cX0_exponentialCoin 30 = .ok (.ireturn, 1) := by decide +kernel
theorem dX0_exponentialCoin_31 : decode cX0_exponentialCoin 31 = .ok (.lload 5, 2) := by decide +kernel
theorem dX0_exponentialCoin_33 : decode cX0_exponentialCoin 33 = .ok (.lload_n 3, 1) := by decide +kernel
theorem dX0_exponentialCoin_34 : decode cX0_exponentialCoin 34 = .ok (.lsub, 1) := by decide +kernel
theorem dX0_exponentialCoin_35 : decode cX0_exponentialCoin 35 = .ok (.lstore 5, 2) := by decide +kernel
theorem dX0_exponentialCoin_37 : decode cX0_exponentialCoin 37 = .ok (.iinc 7 1, 3) := by decide +kernel
theorem dX0_exponentialCoin_40 : decode cX0_exponentialCoin 40 = .ok (.goto (-34), 3) := by decide +kernel
theorem dX0_exponentialCoin_43 : decode cX0_exponentialCoin 43 = .ok (.aload_n 0, 1) := by decide +kernel
theorem dX0_exponentialCoin_44 : decode cX0_exponentialCoin 44 = .ok (.lload 5, 2) := by decide +kernel
theorem dX0_exponentialCoin_46 : decode cX0_exponentialCoin 46 = .ok (.lload_n 3, 1) := by decide +kernel
theorem dX0_exponentialCoin_47 : decode cX0_exponentialCoin 47 = .ok (.invokevirtual 44, 3) := by decide +kernel
theorem dX0_exponentialCoin_50 : decode cX0_exponentialCoin 50 = .ok (.ireturn, 1) := by decide +kernel
theorem dX1_init_0 : decode cX1_init 0 = .ok (.aload_n 0, 1) := by decide +kernel
theorem dX1_init_1 : decode cX1_init 1 = .ok (.invokespecial 3, 3) := by decide +kernel
theorem dX1_init_4 : decode cX1_init 4 = .ok (.aload_n 0, 1) := by decide +kernel
theorem dX1_init_5 : decode cX1_init 5 = .ok (.aload_n 1, 1) := by decide +kernel
theorem dX1_init_6 : decode cX1_init 6 = .ok (.putfield 9, 3) := by decide +kernel
theorem dX1_init_9 : decode cX1_init 9 = .ok (.return_, 1) := by decide +kernel
theorem dX1_binomial_0 : decode cX1_binomial 0 = .ok (.iconst 0, 1) := by decide +kernel
theorem dX1_binomial_1 : decode cX1_binomial 1 = .ok (.istore 4, 2) := by decide +kernel
theorem dX1_binomial_3 : decode cX1_binomial 3 = .ok (.iconst 0, 1) := by decide +kernel
theorem dX1_binomial_4 : decode cX1_binomial 4 = .ok (.istore 5, 2) := by decide +kernel
theorem dX1_binomial_6 : decode cX1_binomial 6 = .ok (.iload 5, 2) := by decide +kernel
theorem dX1_binomial_8 : decode cX1_binomial 8 = .ok (.iload_n 1, 1) := by decide +kernel
theorem dX1_binomial_9 : decode cX1_binomial 9 = .ok (.if_icmp .ge 35, 3) := by decide +kernel
theorem dX1_binomial_12 : decode cX1_binomial 12 = .ok (.aload_n 0, 1) := by decide +kernel
theorem dX1_binomial_13 : decode cX1_binomial 13 = .ok (.getfield 9, 3) := by decide +kernel
theorem dX1_binomial_16 : decode cX1_binomial 16 = .ok (.getfield 15, 3) := by decide +kernel
theorem dX1_binomial_19 : decode cX1_binomial 19 = .ok (.ifCond .ne 25, 3) := by decide +kernel
theorem dX1_binomial_22 : decode cX1_binomial 22 = .ok (.iload 4, 2) := by decide +kernel
theorem dX1_binomial_24 : decode cX1_binomial 24 = .ok (.aload_n 0, 1) := by decide +kernel
theorem dX1_binomial_25 : decode cX1_binomial 25 = .ok (.getfield 9, 3) := by decide +kernel
theorem dX1_binomial_28 : decode cX1_binomial 28 = .ok (.iload_n 2, 1) := by decide +kernel
theorem dX1_binomial_29 : decode cX1_binomial 29 = .ok (.i2l, 1) := by decide +kernel
theorem dX1_binomial_30 : decode cX1_binomial 30 = .ok (.iload_n 3, 1) := by decide +kernel
theorem dX1_binomial_31 : decode cX1_binomial 31 = .ok (.i2l, 1) := by decide +kernel
theorem dX1_binomial_32 : decode cX1_binomial 32 = .ok (.invokevirtual 21, 3) := by decide +kernel
theorem dX1_binomial_35 : decode cX1_binomial 35 = .ok (.iadd, 1) := by decide +kernel
theorem dX1_binomial_36 : decode cX1_binomial 36 = .ok (.istore 4, 2) := by decide +kernel
theorem dX1_binomial_38 : decode cX1_binomial 38 = .ok (.iinc 5 1, 3) := by decide +kernel
theorem dX1_binomial_41 : decode cX1_binomial 41 = .ok (.goto (-35), 3) := by decide +kernel
theorem dX1_binomial_44 : decode cX1_binomial 44 = .ok (.iload 4, 2) := by decide +kernel
theorem dX1_binomial_46 : decode cX1_binomial 46 = .ok (.ireturn, 1) := by decide +kernel
theorem dX1_geometric_0 : decode cX1_geometric 0 = .ok (.iload_n 1, 1) := by decide +kernel
theorem dX1_geometric_1 : decode cX1_geometric 1 = .ok (.ifCond .ne 5, 3) := by decide +kernel
theorem dX1_geometric_4 : decode cX1_geometric 4 = .ok (.iload_n 3, 1) := by decide +kernel
theorem dX1_geometric_5 : decode cX1_geometric 5 = .ok (.ireturn, 1) := by decide +kernel
theorem dX1_geometric_6 : decode cX1_geometric 6 = .ok (.iconst 0, 1) := by decide +kernel
theorem dX1_geometric_7 : decode cX1_geometric 7 = .ok (.istore 4, 2) := by decide +kernel
theorem dX1_geometric_9 : decode cX1_geometric 9 = .ok (.iload 4, 2) := by decide +kernel
theorem dX1_geometric_11 : decode cX1_geometric 11 = .ok (.iload_n 3, 1) := by decide +kernel
theorem dX1_geometric_12 : decode cX1_geometric 12 = .ok (.if_icmp .ge 33, 3) := by decide +kernel
theorem dX1_geometric_15 : decode cX1_geometric 15 = .ok (.aload_n 0, 1) := by decide +kernel
theorem dX1_geometric_16 : decode cX1_geometric 16 = .ok (.getfield 9, 3) := by decide +kernel
theorem dX1_geometric_19 : decode cX1_geometric 19 = .ok (.getfield 15, 3) := by decide +kernel
theorem dX1_geometric_22 : decode cX1_geometric 22 = .ok (.ifCond .ne 23, 3) := by decide +kernel
theorem dX1_geometric_25 : decode cX1_geometric 25 = .ok (.aload_n 0, 1) := by decide +kernel
theorem dX1_geometric_26 : decode cX1_geometric 26 = .ok (.getfield 9, 3) := by decide +kernel
theorem dX1_geometric_29 : decode cX1_geometric 29 = .ok (.iload_n 1, 1) := by decide +kernel
theorem dX1_geometric_30 : decode cX1_geometric 30 = .ok (.i2l, 1) := by decide +kernel
theorem dX1_geometric_31 : decode cX1_geometric 31 = .ok (.iload_n 2, 1) := by decide +kernel
theorem dX1_geometric_32 : decode cX1_geometric 32 = .ok (.i2l, 1) := by decide +kernel
theorem dX1_geometric_33 : decode cX1_geometric 33 = .ok (.invokevirtual 21, 3) := by decide +kernel
theorem dX1_geometric_36 : decode cX1_geometric 36 = .ok (.ifCond .ne 9, 3) := by decide +kernel
theorem dX1_geometric_39 : decode cX1_geometric 39 = .ok (.iinc 4 1, 3) := by decide +kernel
theorem dX1_geometric_42 : decode cX1_geometric 42 = .ok (.goto (-33), 3) := by decide +kernel
theorem dX1_geometric_45 : decode cX1_geometric 45 = .ok (.iload 4, 2) := by decide +kernel
theorem dX1_geometric_47 : decode cX1_geometric 47 = .ok (.ireturn, 1) := by decide +kernel
theorem dX1_hyper_0 : decode cX1_hyper 0 = .ok (.iload_n 1, 1) := by decide +kernel
theorem dX1_hyper_1 : decode cX1_hyper 1 = .ok (.istore 4, 2) := by decide +kernel
theorem dX1_hyper_3 : decode cX1_hyper 3 = .ok (.iload_n 2, 1) := by decide +kernel
theorem dX1_hyper_4 : decode cX1_hyper 4 = .ok (.istore 5, 2) := by decide +kernel
theorem dX1_hyper_6 : decode cX1_hyper 6 = .ok (.iconst 0, 1) := by decide +kernel
theorem dX1_hyper_7 : decode cX1_hyper 7 = .ok (.istore 6, 2) := by decide +kernel
theorem dX1_hyper_9 : decode cX1_hyper 9 = .ok (.iload_n 3, 1) := by decide +kernel
theorem dX1_hyper_10 : decode cX1_hyper 10 = .ok (.istore 7, 2) := by decide +kernel
theorem dX1_hyper_12 : decode cX1_hyper 12 = .ok (.iload 7, 2) := by decide +kernel
theorem dX1_hyper_14 : decode cX1_hyper 14 = .ok (.ifCond .le 77, 3) := by decide +kernel
theorem dX1_hyper_17 : decode cX1_hyper 17 = .ok (.aload_n 0, 1) := by decide +kernel
theorem dX1_hyper_18 : decode cX1_hyper 18 = .ok (.getfield 9, 3) := by decide +kernel
theorem dX1_hyper_21 : decode cX1_hyper 21 = .ok (.getfield 15, 3) := by decide +kernel
theorem dX1_hyper_24 : decode cX1_hyper 24 = .ok (.ifCond .ne 67, 3) := by decide +kernel
theorem dX1_hyper_27 : decode cX1_hyper 27 = .ok (.iload 4, 2) := by decide +kernel
theorem dX1_hyper_29 : decode cX1_hyper 29 = .ok (.ifCond .eq 8, 3) := by decide +kernel
theorem dX1_hyper_32 : decode cX1_hyper 32 = .ok (.iload 5, 2) := by decide +kernel
theorem dX1_hyper_34 : decode cX1_hyper 34 = .ok (.ifCond .ne 19, 3) := by decide +kernel
theorem dX1_hyper_37 : decode cX1_hyper 37 = .ok (.iload 4, 2) := by decide +kernel
theorem dX1_hyper_39 : decode cX1_hyper 39 = .ok (.ifCond .ne 8, 3) := by decide +kernel
theorem dX1_hyper_42 : decode cX1_hyper 42 = .ok (.iload 6, 2) := by decide +kernel
theorem dX1_hyper_44 : decode cX1_hyper 44 = .ok (.goto 8, 3) := by decide +kernel
theorem dX1_hyper_47 : decode cX1_hyper 47 = .ok (.iload 6, 2) := by decide +kernel
theorem dX1_hyper_49 : decode cX1_hyper 49 = .ok (.iload 7, 2) := by decide +kernel
theorem dX1_hyper_51 : decode cX1_hyper 51 = .ok (.iadd, 1) := by decide +kernel
theorem dX1_hyper_52 : decode cX1_hyper 52 = .ok (.ireturn, 1) := by decide +kernel
theorem dX1_hyper_53 : decode cX1_hyper 53 = .ok (.aload_n 0, 1) := by decide +kernel
theorem dX1_hyper_54 : decode cX1_hyper 54 = .ok (.getfield 9, 3) := by decide +kernel
theorem dX1_hyper_57 : decode cX1_hyper 57 = .ok (.iload 4, 2) := by decide +kernel
theorem dX1_hyper_59 : decode cX1_hyper 59 = .ok (.i2l, 1) := by decide +kernel
theorem dX1_hyper_60 : decode cX1_hyper 60 = .ok (.iload 4, 2) := by decide +kernel
theorem dX1_hyper_62 : decode cX1_hyper 62 = .ok (.iload 5, 2) := by decide +kernel
theorem dX1_hyper_64 : decode cX1_hyper 64 = .ok (.iadd, 1) := by decide +kernel
theorem dX1_hyper_65 : decode cX1_hyper 65 = .ok (.i2l, 1) := by decide +kernel
theorem dX1_hyper_66 : decode cX1_hyper 66 = .ok (.invokevirtual 21, 3) := by decide +kernel
theorem dX1_hyper_69 : decode cX1_hyper 69 = .ok (.iconst 1, 1) := by decide +kernel
theorem dX1_hyper_70 : decode cX1_hyper 70 = .ok (.if_icmp .ne 12, 3) := by decide +kernel
theorem dX1_hyper_73 : decode cX1_hyper 73 = .ok (.iinc 4 (-1), 3) := by decide +kernel
theorem dX1_hyper_76 : decode cX1_hyper 76 = .ok (.iinc 6 1, 3) := by decide +kernel
theorem dX1_hyper_79 : decode cX1_hyper 79 = .ok (.goto 6, 3) := by decide +kernel
theorem dX1_hyper_82 : decode cX1_hyper 82 = .ok (.iinc 5 (-1), 3) := by decide +kernel
theorem dX1_hyper_85 : decode cX1_hyper 85 = .ok (.iinc 7 (-1), 3) := by decide +kernel
theorem dX1_hyper_88 : decode cX1_hyper 88 = .ok (.goto (-76), 3) := by decide +kernel
theorem dX1_hyper_91 : decode cX1_hyper 91 = .ok (.iload 6, 2) := by decide +kernel
theorem dX1_hyper_93 : decode cX1_hyper 93 = .ok (.ireturn, 1) := by decide +kernel
theorem dX1_poisson_0 : decode cX1_poisson 0 = .ok (.iload_n 1, 1) := by decide +kernel
theorem dX1_poisson_1 : decode cX1_poisson 1 = .ok (.ifCond .eq 8, 3) := by decide +kernel
theorem dX1_poisson_4 : decode cX1_poisson 4 = .ok (.iload_n 2, 1) := by decide +kernel
theorem dX1_poisson_5 : decode cX1_poisson 5 = .ok (.iconst 1, 1) := by decide +kernel
theorem dX1_poisson_6 : decode cX1_poisson 6 = .ok (.if_icmp .ge 5, 3) := by decide +kernel
theorem dX1_poisson_9 : decode cX1_poisson 9 = .ok (.lconst 0, 1) := by decide +kernel
theorem dX1_poisson_10 : decode cX1_poisson 10 = .ok (.lreturn, 1) := by decide +kernel
theorem dX1_poisson_11 : decode cX1_poisson 11 = .ok (.ldc2_w 25, 3) := by decide +kernel
theorem dX1_poisson_14 : decode cX1_poisson 14 = .ok (.iload_n 1, 1) := by decide +kernel
theorem dX1_poisson_15 : decode cX1_poisson 15 = .ok (.i2l, 1) := by decide +kernel
theorem dX1_poisson_16 : decode cX1_poisson 16 = .ok (.lmul, 1) := by decide +kernel
theorem dX1_poisson_17 : decode cX1_poisson 17 = .ok (.iload_n 2, 1) := by decide +kernel
theorem dX1_poisson_18 : decode cX1_poisson 18 = .ok (.i2l, 1) := by decide +kernel
theorem dX1_poisson_19 : decode cX1_poisson 19 = .ok (.ladd, 1) := by decide +kernel
theorem dX1_poisson_20 : decode cX1_poisson 20 = .ok (.lconst 1, 1) := by decide +kernel
theorem dX1_poisson_21 : decode cX1_poisson 21 = .ok (.lsub, 1) := by decide +kernel
theorem dX1_poisson_22 : decode cX1_poisson 22 = .ok (.iload_n 2, 1) := by decide +kernel
theorem dX1_poisson_23 : decode cX1_poisson 23 = .ok (.i2l, 1) := by decide +kernel
theorem dX1_poisson_24 : decode cX1_poisson 24 = .ok (.ldiv, 1) := by decide +kernel
theorem dX1_poisson_25 : decode cX1_poisson 25 = .ok (.lstore_n 3, 1) := by decide +kernel
theorem dX1_poisson_26 : decode cX1_poisson 26 = .ok (.lconst 0, 1) := by decide +kernel
theorem dX1_poisson_27 : decode cX1_poisson 27 = .ok (.lstore 5, 2) := by decide +kernel
theorem dX1_poisson_29 : decode cX1_poisson 29 = .ok (.lconst 0, 1) := by decide +kernel
theorem dX1_poisson_30 : decode cX1_poisson 30 = .ok (.lstore 7, 2) := by decide +kernel
theorem dX1_poisson_32 : decode cX1_poisson 32 = .ok (.lload 7, 2) := by decide +kernel
theorem dX1_poisson_34 : decode cX1_poisson 34 = .ok (.lload_n 3, 1) := by decide +kernel
theorem dX1_poisson_35 : decode cX1_poisson 35 = .ok (.lcmp, 1) := by decide +kernel
theorem dX1_poisson_36 : decode cX1_poisson 36 = .ok (.ifCond .ge 38, 3) := by decide +kernel
theorem dX1_poisson_39 : decode cX1_poisson 39 = .ok (.aload_n 0, 1) := by decide +kernel
theorem dX1_poisson_40 : decode cX1_poisson 40 = .ok (.getfield 9, 3) := by decide +kernel
theorem dX1_poisson_43 : decode cX1_poisson 43 = .ok (.getfield 15, 3) := by decide +kernel
theorem dX1_poisson_46 : decode cX1_poisson 46 = .ok (.ifCond .ne 28, 3) := by decide +kernel
theorem dX1_poisson_49 : decode cX1_poisson 49 = .ok (.lload 5, 2) := by decide +kernel
theorem dX1_poisson_51 : decode cX1_poisson 51 = .ok (.aload_n 0, 1) := by decide +kernel
theorem dX1_poisson_52 : decode cX1_poisson 52 = .ok (.iload_n 1, 1) := by decide +kernel
theorem dX1_poisson_53 : decode cX1_poisson 53 = .ok (.i2l, 1) := by decide +kernel
theorem dX1_poisson_54 : decode cX1_poisson 54 = .ok (.lload_n 3, 1) := by decide +kernel
theorem dX1_poisson_55 : decode cX1_poisson 55 = .ok (.iload_n 2, 1) := by decide +kernel
theorem dX1_poisson_56 : decode cX1_poisson 56 = .ok (.i2l, 1) := by decide +kernel
theorem dX1_poisson_57 : decode cX1_poisson 57 = .ok (.lmul, 1) := by decide +kernel
theorem dX1_poisson_58 : decode cX1_poisson 58 = .ok (.invokevirtual 27, 3) := by decide +kernel
theorem dX1_poisson_61 : decode cX1_poisson 61 = .ok (.i2l, 1) := by decide +kernel
theorem dX1_poisson_62 : decode cX1_poisson 62 = .ok (.ladd, 1) := by decide +kernel
theorem dX1_poisson_63 : decode cX1_poisson 63 = .ok (.lstore 5, 2) := by decide +kernel
theorem dX1_poisson_65 : decode cX1_poisson 65 = .ok (.lload 7, 2) := by decide +kernel
theorem dX1_poisson_67 : decode cX1_poisson 67 = .ok (.lconst 1, 1) := by decide +kernel
theorem dX1_poisson_68 : decode cX1_poisson 68 = .ok (.ladd, 1) := by decide +kernel
theorem dX1_poisson_69 : decode cX1_poisson 69 = .ok (.lstore 7, 2) := by decide +kernel
theorem dX1_poisson_71 : decode cX1_poisson 71 = .ok (.goto (-39), 3) := by decide +kernel
theorem dX1_poisson_74 : decode cX1_poisson 74 = .ok (.lload 5, 2) := by decide +kernel
theorem dX1_poisson_76 : decode cX1_poisson 76 = .ok (.lreturn, 1) := by decide +kernel
theorem dX1_poissonPart_0 : decode cX1_poissonPart 0 = .ok (.iconst 0, 1) := by decide +kernel
theorem dX1_poissonPart_1 : decode cX1_poissonPart 1 = .ok (.istore 5, 2) := by decide +kernel
theorem dX1_poissonPart_3 : decode cX1_poissonPart 3 = .ok (.iload 5, 2) := by decide +kernel
theorem dX1_poissonPart_5 : decode cX1_poissonPart 5 = .ok (.ldc 30, 2) := by decide +kernel
theorem dX1_poissonPart_7 : decode cX1_poissonPart 7 = .ok (.if_icmp .ge 42, 3) := by decide +kernel
theorem dX1_poissonPart_10 : decode cX1_poissonPart 10 = .ok (.aload_n 0, 1) := by decide +kernel
theorem dX1_poissonPart_11 : decode cX1_poissonPart 11 = .ok (.getfield 9, 3) := by decide +kernel
theorem dX1_poissonPart_14 : decode cX1_poissonPart 14 = .ok (.getfield 15, 3) := by decide +kernel
theorem dX1_poissonPart_17 : decode cX1_poissonPart 17 = .ok (.ifCond .ne 32, 3) := by decide +kernel
theorem dX1_poissonPart_20 : decode cX1_poissonPart 20 = .ok (.aload_n 0, 1) := by decide +kernel
theorem dX1_poissonPart_21 : decode cX1_poissonPart 21 = .ok (.getfield 9, 3) := by decide +kernel
theorem dX1_poissonPart_24 : decode cX1_poissonPart 24 = .ok (.lload_n 1, 1) := by decide +kernel
theorem dX1_poissonPart_25 : decode cX1_poissonPart 25 = .ok (.lload_n 3, 1) := by decide +kernel
theorem dX1_poissonPart_26 : decode cX1_poissonPart 26 = .ok (.invokevirtual 31, 3) := by decide +kernel
theorem dX1_poissonPart_29 : decode cX1_poissonPart 29 = .ok (.istore 6, 2) := by decide +kernel
theorem dX1_poissonPart_31 : decode cX1_poissonPart 31 = .ok (.aload_n 0, 1) := by decide +kernel
theorem dX1_poissonPart_32 : decode cX1_poissonPart 32 = .ok (.iload 6, 2) := by decide +kernel
theorem dX1_poissonPart_34 : decode cX1_poissonPart 34 = .ok (.invokevirtual 34, 3) := by decide +kernel
theorem dX1_poissonPart_37 : decode cX1_poissonPart 37 = .ok (.ifCond .eq 6, 3) := by decide +kernel
theorem dX1_poissonPart_40 : decode cX1_poissonPart 40 = .ok (.iload 6, 2) := by decide +kernel
theorem dX1_poissonPart_42 : decode cX1_poissonPart 42 = .ok (.ireturn, 1) := by decide +kernel
theorem dX1_poissonPart_43 : decode cX1_poissonPart 43 = .ok (.iinc 5 1, 3) := by decide +kernel
theorem dX1_poissonPart_46 : decode cX1_poissonPart 46 = .ok (.goto (-43), 3) := by decide +kernel
theorem dX1_poissonPart_49 : decode cX1_poissonPart 49 = .ok (.iconst 0, 1) := by decide +kernel
theorem dX1_poissonPart_50 : decode cX1_poissonPart 50 = .ok (.ireturn, 1) := by decide +kernel
theorem dX1_areZero_0 : decode cX1_areZero 0 = .ok (.iconst 2, 1) := by decide +kernel
theorem dX1_areZero_1 : decode cX1_areZero 1 = .ok (.istore_n 2, 1) := by decide +kernel
theorem dX1_areZero_2 : decode cX1_areZero 2 = .ok (.iload_n 2, 1) := by decide +kernel
theorem dX1_areZero_3 : decode cX1_areZero 3 = .ok (.iload_n 1, 1) := by decide +kernel
theorem dX1_areZero_4 : decode cX1_areZero 4 = .ok (.if_icmp .gt 35, 3) := by decide +kernel
theorem dX1_areZero_7 : decode cX1_areZero 7 = .ok (.aload_n 0, 1) := by decide +kernel
theorem dX1_areZero_8 : decode cX1_areZero 8 = .ok (.getfield 9, 3) := by decide +kernel
theorem dX1_areZero_11 : decode cX1_areZero 11 = .ok (.iload_n 2, 1) := by decide +kernel
theorem dX1_areZero_12 : decode cX1_areZero 12 = .ok (.i2l, 1) := by decide +kernel
theorem dX1_areZero_13 : decode cX1_areZero 13 = .ok (.invokevirtual 38, 3) := by decide +kernel
theorem dX1_areZero_16 : decode cX1_areZero 16 = .ok (.lconst 0, 1) := by decide +kernel
theorem dX1_areZero_17 : decode cX1_areZero 17 = .ok (.lcmp, 1) := by decide +kernel
theorem dX1_areZero_18 : decode cX1_areZero 18 = .ok (.ifCond .ne 13, 3) := by decide +kernel
theorem dX1_areZero_21 : decode cX1_areZero 21 = .ok (.aload_n 0, 1) := by decide +kernel
theorem dX1_areZero_22 : decode cX1_areZero 22 = .ok (.getfield 9, 3) := by decide +kernel
theorem dX1_areZero_25 : decode cX1_areZero 25 = .ok (.getfield 15, 3) := by decide +kernel
theorem dX1_areZero_28 : decode cX1_areZero 28 = .ok (.ifCond .eq 5, 3) := by decide +kernel
theorem dX1_areZero_31 : decode cX1_areZero 31 = .ok (.iconst 0, 1) := by decide +kernel
theorem dX1_areZero_32 : decode cX1_areZero 32 = .ok (.ireturn, 1) := by decide +kernel
theorem dX1_areZero_33 : decode cX1_areZero 33 = .ok (.iinc 2 1, 3) := by decide +kernel
theorem dX1_areZero_36 : decode cX1_areZero 36 = .ok (.goto (-34), 3) := by decide +kernel
theorem dX1_areZero_39 : decode cX1_areZero 39 = .ok (.iconst 1, 1) := by decide +kernel
theorem dX1_areZero_40 : decode cX1_areZero 40 = .ok (.ireturn, 1) := by decide +kernel
theorem dX1_bell_0 : decode cX1_bell 0 = .ok (.lconst 1, 1) := by decide +kernel
theorem dX1_bell_1 : decode cX1_bell 1 = .ok (.lstore 5, 2) := by decide +kernel
theorem dX1_bell_3 : decode cX1_bell 3 = .ok (.lload 5, 2) := by decide +kernel
theorem dX1_bell_5 : decode cX1_bell 5 = .ok (.ldc2_w 42, 3) := by decide +kernel
theorem dX1_bell_8 : decode cX1_bell 8 = .ok (.lcmp, 1) := by decide +kernel
theorem dX1_bell_9 : decode cX1_bell 9 = .ok (.ifCond .ge 24, 3) := by decide +kernel
theorem dX1_bell_12 : decode cX1_bell 12 = .ok (.lload 5, 2) := by decide +kernel
theorem dX1_bell_14 : decode cX1_bell 14 = .ok (.lload 5, 2) := by decide +kernel
theorem dX1_bell_16 : decode cX1_bell 16 = .ok (.lmul, 1) := by decide +kernel
theorem dX1_bell_17 : decode cX1_bell 17 = .ok (.lload_n 3, 1) := by decide +kernel
theorem dX1_bell_18 : decode cX1_bell 18 = .ok (.lmul, 1) := by decide +kernel
theorem dX1_bell_19 : decode cX1_bell 19 = .ok (.lload_n 1, 1) := by decide +kernel
theorem dX1_bell_20 : decode cX1_bell 20 = .ok (.lcmp, 1) := by decide +kernel
theorem dX1_bell_21 : decode cX1_bell 21 = .ok (.ifCond .gt 12, 3) := by decide +kernel
theorem dX1_bell_24 : decode cX1_bell 24 = .ok (.lload 5, 2) := by decide +kernel
theorem dX1_bell_26 : decode cX1_bell 26 = .ok (.lconst 1, 1) := by decide +kernel
theorem dX1_bell_27 : decode cX1_bell 27 = .ok (.ladd, 1) := by decide +kernel
theorem dX1_bell_28 : decode cX1_bell 28 = .ok (.lstore 5, 2) := by decide +kernel
theorem dX1_bell_30 : decode cX1_bell 30 = .ok (.goto (-27), 3) := by decide +kernel
theorem dX1_bell_33 : decode cX1_bell 33 = .ok (.iconst 0, 1) := by decide +kernel
theorem dX1_bell_34 : decode cX1_bell 34 = .ok (.istore 7, 2) := by decide +kernel
theorem dX1_bell_36 : decode cX1_bell 36 = .ok (.iload 7, 2) := by decide +kernel
theorem dX1_bell_38 : decode cX1_bell 38 = .ok (.ldc 30, 2) := by decide +kernel
theorem dX1_bell_40 : decode cX1_bell 40 = .ok (.if_icmp .ge 147, 3) := by decide +kernel
theorem dX1_bell_43 : decode cX1_bell 43 = .ok (.aload_n 0, 1) := by decide +kernel
theorem dX1_bell_44 : decode cX1_bell 44 = .ok (.getfield 9, 3) := by decide +kernel
theorem dX1_bell_47 : decode cX1_bell 47 = .ok (.getfield 15, 3) := by decide +kernel
theorem dX1_bell_50 : decode cX1_bell 50 = .ok (.ifCond .ne 137, 3) := by decide +kernel
theorem dX1_bell_53 : decode cX1_bell 53 = .ok (.aload_n 0, 1) := by decide +kernel
theorem dX1_bell_54 : decode cX1_bell 54 = .ok (.getfield 9, 3) := by decide +kernel
theorem dX1_bell_57 : decode cX1_bell 57 = .ok (.lload 5, 2) := by decide +kernel
theorem dX1_bell_59 : decode cX1_bell 59 = .ok (.invokevirtual 38, 3) := by decide +kernel
theorem dX1_bell_62 : decode cX1_bell 62 = .ok (.lstore 8, 2) := by decide +kernel
theorem dX1_bell_64 : decode cX1_bell 64 = .ok (.aload_n 0, 1) := by decide +kernel
theorem dX1_bell_65 : decode cX1_bell 65 = .ok (.getfield 9, 3) := by decide +kernel
theorem dX1_bell_68 : decode cX1_bell 68 = .ok (.lload 8, 2) := by decide +kernel
theorem dX1_bell_70 : decode cX1_bell 70 = .ok (.lload 5, 2) := by decide +kernel
theorem dX1_bell_72 : decode cX1_bell 72 = .ok (.invokevirtual 44, 3) := by decide +kernel
theorem dX1_bell_75 : decode cX1_bell 75 = .ok (.ifCond .ne 6, 3) := by decide +kernel
theorem dX1_bell_78 : decode cX1_bell 78 = .ok (.goto 103, 3) := by decide +kernel
theorem dX1_bell_81 : decode cX1_bell 81 = .ok (.lload 8, 2) := by decide +kernel
theorem dX1_bell_83 : decode cX1_bell 83 = .ok (.lload 5, 2) := by decide +kernel
theorem dX1_bell_85 : decode cX1_bell 85 = .ok (.aload_n 0, 1) := by decide +kernel
theorem dX1_bell_86 : decode cX1_bell 86 = .ok (.invokevirtual 47, 3) := by decide +kernel
theorem dX1_bell_89 : decode cX1_bell 89 = .ok (.i2l, 1) := by decide +kernel
theorem dX1_bell_90 : decode cX1_bell 90 = .ok (.lmul, 1) := by decide +kernel
theorem dX1_bell_91 : decode cX1_bell 91 = .ok (.ladd, 1) := by decide +kernel
theorem dX1_bell_92 : decode cX1_bell 92 = .ok (.lstore 10, 2) := by decide +kernel
theorem dX1_bell_94 : decode cX1_bell 94 = .ok (.aload_n 0, 1) := by decide +kernel
theorem dX1_bell_95 : decode cX1_bell 95 = .ok (.getfield 9, 3) := by decide +kernel
theorem dX1_bell_98 : decode cX1_bell 98 = .ok (.invokevirtual 51, 3) := by decide +kernel
theorem dX1_bell_101 : decode cX1_bell 101 = .ok (.iconst 1, 1) := by decide +kernel
theorem dX1_bell_102 : decode cX1_bell 102 = .ok (.if_icmp .ne 7, 3) := by decide +kernel
theorem dX1_bell_105 : decode cX1_bell 105 = .ok (.iconst 1, 1) := by decide +kernel
theorem dX1_bell_106 : decode cX1_bell 106 = .ok (.goto 4, 3) := by decide +kernel
theorem dX1_bell_109 : decode cX1_bell 109 = .ok (.iconst 0, 1) := by decide +kernel
theorem dX1_bell_110 : decode cX1_bell 110 = .ok (.istore 12, 2) := by decide +kernel
theorem dX1_bell_112 : decode cX1_bell 112 = .ok (.lload 10, 2) := by decide +kernel
theorem dX1_bell_114 : decode cX1_bell 114 = .ok (.lconst 0, 1) := by decide +kernel
theorem dX1_bell_115 : decode cX1_bell 115 = .ok (.lcmp, 1) := by decide +kernel
theorem dX1_bell_116 : decode cX1_bell 116 = .ok (.ifCond .ne 11, 3) := by decide +kernel
theorem dX1_bell_119 : decode cX1_bell 119 = .ok (.iload 12, 2) := by decide +kernel
theorem dX1_bell_121 : decode cX1_bell 121 = .ok (.ifCond .eq 6, 3) := by decide +kernel
theorem dX1_bell_124 : decode cX1_bell 124 = .ok (.goto 57, 3) := by decide +kernel
theorem dX1_bell_127 : decode cX1_bell 127 = .ok (.lload 10, 2) := by decide +kernel
theorem dX1_bell_129 : decode cX1_bell 129 = .ok (.lload_n 3, 1) := by decide +kernel
theorem dX1_bell_130 : decode cX1_bell 130 = .ok (.lmul, 1) := by decide +kernel
theorem dX1_bell_131 : decode cX1_bell 131 = .ok (.lload 5, 2) := by decide +kernel
theorem dX1_bell_133 : decode cX1_bell 133 = .ok (.lmul, 1) := by decide +kernel
theorem dX1_bell_134 : decode cX1_bell 134 = .ok (.lload_n 1, 1) := by decide +kernel
theorem dX1_bell_135 : decode cX1_bell 135 = .ok (.lsub, 1) := by decide +kernel
theorem dX1_bell_136 : decode cX1_bell 136 = .ok (.lstore 13, 2) := by decide +kernel
theorem dX1_bell_138 : decode cX1_bell 138 = .ok (.aload_n 0, 1) := by decide +kernel
theorem dX1_bell_139 : decode cX1_bell 139 = .ok (.getfield 9, 3) := by decide +kernel
theorem dX1_bell_142 : decode cX1_bell 142 = .ok (.lload 13, 2) := by decide +kernel
theorem dX1_bell_144 : decode cX1_bell 144 = .ok (.lload 13, 2) := by decide +kernel
theorem dX1_bell_146 : decode cX1_bell 146 = .ok (.lmul, 1) := by decide +kernel
theorem dX1_bell_147 : decode cX1_bell 147 = .ok (.ldc2_w 25, 3) := by decide +kernel
theorem dX1_bell_150 : decode cX1_bell 150 = .ok (.lload_n 1, 1) := by decide +kernel
theorem dX1_bell_151 : decode cX1_bell 151 = .ok (.lmul, 1) := by decide +kernel
theorem dX1_bell_152 : decode cX1_bell 152 = .ok (.lload_n 3, 1) := by decide +kernel
theorem dX1_bell_153 : decode cX1_bell 153 = .ok (.lmul, 1) := by decide +kernel
theorem dX1_bell_154 : decode cX1_bell 154 = .ok (.lload 5, 2) := by decide +kernel
theorem dX1_bell_156 : decode cX1_bell 156 = .ok (.lmul, 1) := by decide +kernel
theorem dX1_bell_157 : decode cX1_bell 157 = .ok (.lload 5, 2) := by decide +kernel
theorem dX1_bell_159 : decode cX1_bell 159 = .ok (.lmul, 1) := by decide +kernel
theorem dX1_bell_160 : decode cX1_bell 160 = .ok (.invokevirtual 44, 3) := by decide +kernel
theorem dX1_bell_163 : decode cX1_bell 163 = .ok (.iconst 1, 1) := by decide +kernel
theorem dX1_bell_164 : decode cX1_bell 164 = .ok (.if_icmp .ne 17, 3) := by decide +kernel
theorem dX1_bell_167 : decode cX1_bell 167 = .ok (.iload 12, 2) := by decide +kernel
theorem dX1_bell_169 : decode cX1_bell 169 = .ok (.ifCond .eq 9, 3) := by decide +kernel
theorem dX1_bell_172 : decode cX1_bell 172 = .ok (.lload 10, 2) := by decide +kernel
theorem dX1_bell_174 : decode cX1_bell 174 = .ok (.lneg, 1) := by decide +kernel
theorem dX1_bell_175 : decode cX1_bell 175 = .ok (.goto 5, 3) := by decide +kernel
theorem dX1_bell_178 : decode cX1_bell 178 = .ok (.lload 10, 2) := by decide +kernel
theorem dX1_bell_180 : decode cX1_bell 180 = .ok (.lreturn, 1) := by decide +kernel
theorem dX1_bell_181 : decode cX1_bell 181 = .ok (.iinc 7 1, 3) := by decide +kernel
theorem dX1_bell_184 : decode cX1_bell 184 = .ok (.goto (-148), 3) := by decide +kernel
theorem dX1_bell_187 : decode cX1_bell 187 = .ok (.lconst 0, 1) := by decide +kernel
theorem dX1_bell_188 : decode cX1_bell 188 = .ok (.lreturn, 1) := by decide +kernel
theorem dX1_exponentialCoinsInARow_0 : decode cX1_exponentialCoinsInARow 0 = .ok (.iconst 0, 1) := by decide +kernel
theorem dX1_exponentialCoinsInARow_1 : decode cX1_exponentialCoinsInARow 1 = .ok (.istore_n 1, 1) := by decide +kernel
theorem dX1_exponentialCoinsInARow_2 : decode cX1_exponentialCoinsInARow 2 = .ok (.iload_n 1, 1) := by decide +kernel
theorem dX1_exponentialCoinsInARow_3 : decode cX1_exponentialCoinsInARow 3 = .ok (.ldc 30, 2) := by decide +kernel
theorem dX1_exponentialCoinsInARow_5 : decode cX1_exponentialCoinsInARow 5 = .ok (.if_icmp .ge 22, 3) := by decide +kernel
theorem dX1_exponentialCoinsInARow_8 : decode cX1_exponentialCoinsInARow 8 = .ok (.aload_n 0, 1) := by decide +kernel
theorem dX1_exponentialCoinsInARow_9 : decode cX1_exponentialCoinsInARow 9 = .ok (.getfield 9, 3) := by decide +kernel
theorem dX1_exponentialCoinsInARow_12 : decode cX1_exponentialCoinsInARow 12 = .ok (.lconst 1, 1) := by decide +kernel
theorem dX1_exponentialCoinsInARow_13 : decode cX1_exponentialCoinsInARow 13 = .ok (.lconst 1, 1) := by decide +kernel
theorem dX1_exponentialCoinsInARow_14 : decode cX1_exponentialCoinsInARow 14 = .ok (.invokevirtual 54, 3) := by decide +kernel
theorem dX1_exponentialCoinsInARow_17 : decode cX1_exponentialCoinsInARow 17 = .ok (.iconst 1, 1) := by decide +kernel
theorem dX1_exponentialCoinsInARow_18 : decode cX1_exponentialCoinsInARow 18 = .ok (.if_icmp .ne 9, 3) := by decide +kernel
theorem dX1_exponentialCoinsInARow_21 : decode cX1_exponentialCoinsInARow 21 = .ok (.iinc 1 1, 3) := by decide +kernel
theorem dX1_exponentialCoinsInARow_24 : decode cX1_exponentialCoinsInARow 24 = .ok (.goto (-22), 3) := by decide +kernel
theorem dX1_exponentialCoinsInARow_27 : decode cX1_exponentialCoinsInARow 27 = .ok (.iload_n 1, 1) := by decide +kernel
theorem dX1_exponentialCoinsInARow_28 : decode cX1_exponentialCoinsInARow 28 = .ok (.ireturn, 1) := by decide +kernel
theorem dX2_init_0 : decode cX2_init 0 = .ok (.aload_n 0, 1) := by decide +kernel
theorem dX2_init_1 : decode cX2_init 1 = .ok (.invokespecial 1, 3) := by decide +kernel
theorem dX2_init_4 : decode cX2_init 4 = .ok (.aload_n 0, 1) := by decide +kernel
theorem dX2_init_5 : decode cX2_init 5 = .ok (.sipush 800, 3) := by decide +kernel
theorem dX2_init_8 : decode cX2_init 8 = .ok (.newarray .long, 2) := by decide +kernel
theorem dX2_init_10 : decode cX2_init 10 = .ok (.putfield 9, 3) := by decide +kernel
theorem dX2_init_13 : decode cX2_init 13 = .ok (.aload_n 0, 1) := by decide +kernel
theorem dX2_init_14 : decode cX2_init 14 = .ok (.iconst 0, 1) := by decide +kernel
theorem dX2_init_15 : decode cX2_init 15 = .ok (.putfield 13, 3) := by decide +kernel
theorem dX2_init_18 : decode cX2_init 18 = .ok (.aload_n 0, 1) := by decide +kernel
theorem dX2_init_19 : decode cX2_init 19 = .ok (.iconst 0, 1) := by decide +kernel
theorem dX2_init_20 : decode cX2_init 20 = .ok (.putfield 17, 3) := by decide +kernel
theorem dX2_init_23 : decode cX2_init 23 = .ok (.aload_n 0, 1) := by decide +kernel
theorem dX2_init_24 : decode cX2_init 24 = .ok (.iconst 0, 1) := by decide +kernel
theorem dX2_init_25 : decode cX2_init 25 = .ok (.putfield 20, 3) := by decide +kernel
theorem dX2_init_28 : decode cX2_init 28 = .ok (.return_, 1) := by decide +kernel
theorem dX2_add_0 : decode cX2_add 0 = .ok (.aload_n 0, 1) := by decide +kernel
theorem dX2_add_1 : decode cX2_add 1 = .ok (.getfield 13, 3) := by decide +kernel
theorem dX2_add_4 : decode cX2_add 4 = .ok (.bipush 8, 2) := by decide +kernel
theorem dX2_add_6 : decode cX2_add 6 = .ok (.imul, 1) := by decide +kernel
theorem dX2_add_7 : decode cX2_add 7 = .ok (.istore 8, 2) := by decide +kernel
theorem dX2_add_9 : decode cX2_add 9 = .ok (.aload_n 0, 1) := by decide +kernel
theorem dX2_add_10 : decode cX2_add 10 = .ok (.getfield 9, 3) := by decide +kernel
theorem dX2_add_13 : decode cX2_add 13 = .ok (.iload 8, 2) := by decide +kernel
theorem dX2_add_15 : decode cX2_add 15 = .ok (.iconst 0, 1) := by decide +kernel
theorem dX2_add_16 : decode cX2_add 16 = .ok (.iadd, 1) := by decide +kernel
theorem dX2_add_17 : decode cX2_add 17 = .ok (.aload_n 1, 1) := by decide +kernel
theorem dX2_add_18 : decode cX2_add 18 = .ok (.getfield 23, 3) := by decide +kernel
theorem dX2_add_21 : decode cX2_add 21 = .ok (.i2l, 1) := by decide +kernel
theorem dX2_add_22 : decode cX2_add 22 = .ok (.lastore, 1) := by decide +kernel
theorem dX2_add_23 : decode cX2_add 23 = .ok (.aload_n 0, 1) := by decide +kernel
theorem dX2_add_24 : decode cX2_add 24 = .ok (.getfield 9, 3) := by decide +kernel
theorem dX2_add_27 : decode cX2_add 27 = .ok (.iload 8, 2) := by decide +kernel
theorem dX2_add_29 : decode cX2_add 29 = .ok (.iconst 1, 1) := by decide +kernel
theorem dX2_add_30 : decode cX2_add 30 = .ok (.iadd, 1) := by decide +kernel
theorem dX2_add_31 : decode cX2_add 31 = .ok (.aload_n 1, 1) := by decide +kernel
theorem dX2_add_32 : decode cX2_add 32 = .ok (.getfield 28, 3) := by decide +kernel
theorem dX2_add_35 : decode cX2_add 35 = .ok (.i2l, 1) := by decide +kernel
theorem dX2_add_36 : decode cX2_add 36 = .ok (.lastore, 1) := by decide +kernel
theorem dX2_add_37 : decode cX2_add 37 = .ok (.aload_n 0, 1) := by decide +kernel
theorem dX2_add_38 : decode cX2_add 38 = .ok (.getfield 9, 3) := by decide +kernel
theorem dX2_add_41 : decode cX2_add 41 = .ok (.iload 8, 2) := by decide +kernel
theorem dX2_add_43 : decode cX2_add 43 = .ok (.iconst 2, 1) := by decide +kernel
theorem dX2_add_44 : decode cX2_add 44 = .ok (.iadd, 1) := by decide +kernel
theorem dX2_add_45 : decode cX2_add 45 = .ok (.aload_n 1, 1) := by decide +kernel
theorem dX2_add_46 : decode cX2_add 46 = .ok (.getfield 31, 3) := by decide +kernel
theorem dX2_add_49 : decode cX2_add 49 = .ok (.i2l, 1) := by decide +kernel
theorem dX2_add_50 : decode cX2_add 50 = .ok (.lastore, 1) := by decide +kernel
theorem dX2_add_51 : decode cX2_add 51 = .ok (.aload_n 0, 1) := by decide +kernel
theorem dX2_add_52 : decode cX2_add 52 = .ok (.getfield 9, 3) := by decide +kernel
theorem dX2_add_55 : decode cX2_add 55 = .ok (.iload 8, 2) := by decide +kernel
theorem dX2_add_57 : decode cX2_add 57 = .ok (.iconst 3, 1) := by decide +kernel
theorem dX2_add_58 : decode cX2_add 58 = .ok (.iadd, 1) := by decide +kernel
theorem dX2_add_59 : decode cX2_add 59 = .ok (.aload_n 1, 1) := by decide +kernel
theorem dX2_add_60 : decode cX2_add 60 = .ok (.getfield 34, 3) := by decide +kernel
theorem dX2_add_63 : decode cX2_add 63 = .ok (.i2l, 1) := by decide +kernel
theorem dX2_add_64 : decode cX2_add 64 = .ok (.lastore, 1) := by decide +kernel
theorem dX2_add_65 : decode cX2_add 65 = .ok (.aload_n 0, 1) := by decide +kernel
theorem dX2_add_66 : decode cX2_add 66 = .ok (.getfield 9, 3) := by decide +kernel
theorem dX2_add_69 : decode cX2_add 69 = .ok (.iload 8, 2) := by decide +kernel
theorem dX2_add_71 : decode cX2_add 71 = .ok (.iconst 4, 1) := by decide +kernel
theorem dX2_add_72 : decode cX2_add 72 = .ok (.iadd, 1) := by decide +kernel
theorem dX2_add_73 : decode cX2_add 73 = .ok (.iload_n 2, 1) := by decide +kernel
theorem dX2_add_74 : decode cX2_add 74 = .ok (.i2l, 1) := by decide +kernel
theorem dX2_add_75 : decode cX2_add 75 = .ok (.lastore, 1) := by decide +kernel
theorem dX2_add_76 : decode cX2_add 76 = .ok (.aload_n 0, 1) := by decide +kernel
theorem dX2_add_77 : decode cX2_add 77 = .ok (.getfield 9, 3) := by decide +kernel
theorem dX2_add_80 : decode cX2_add 80 = .ok (.iload 8, 2) := by decide +kernel
theorem dX2_add_82 : decode cX2_add 82 = .ok (.iconst 5, 1) := by decide +kernel
theorem dX2_add_83 : decode cX2_add 83 = .ok (.iadd, 1) := by decide +kernel
theorem dX2_add_84 : decode cX2_add 84 = .ok (.iload_n 3, 1) := by decide +kernel
theorem dX2_add_85 : decode cX2_add 85 = .ok (.i2l, 1) := by decide +kernel
theorem dX2_add_86 : decode cX2_add 86 = .ok (.lastore, 1) := by decide +kernel
theorem dX2_add_87 : decode cX2_add 87 = .ok (.aload_n 0, 1) := by decide +kernel
theorem dX2_add_88 : decode cX2_add 88 = .ok (.getfield 9, 3) := by decide +kernel
theorem dX2_add_91 : decode cX2_add 91 = .ok (.iload 8, 2) := by decide +kernel
theorem dX2_add_93 : decode cX2_add 93 = .ok (.bipush 6, 2) := by decide +kernel
theorem dX2_add_95 : decode cX2_add 95 = .ok (.iadd, 1) := by decide +kernel
theorem dX2_add_96 : decode cX2_add 96 = .ok (.lload 4, 2) := by decide +kernel
theorem dX2_add_98 : decode cX2_add 98 = .ok (.lastore, 1) := by decide +kernel
theorem dX2_add_99 : decode cX2_add 99 = .ok (.aload_n 0, 1) := by decide +kernel
theorem dX2_add_100 : decode cX2_add 100 = .ok (.getfield 9, 3) := by decide +kernel
theorem dX2_add_103 : decode cX2_add 103 = .ok (.iload 8, 2) := by decide +kernel
theorem dX2_add_105 : decode cX2_add 105 = .ok (.bipush 7, 2) := by decide +kernel
theorem dX2_add_107 : decode cX2_add 107 = .ok (.iadd, 1) := by decide +kernel
theorem dX2_add_108 : decode cX2_add 108 = .ok (.lload 6, 2) := by decide +kernel
theorem dX2_add_110 : decode cX2_add 110 = .ok (.lastore, 1) := by decide +kernel
theorem dX2_add_111 : decode cX2_add 111 = .ok (.aload_n 0, 1) := by decide +kernel
theorem dX2_add_112 : decode cX2_add 112 = .ok (.aload_n 0, 1) := by decide +kernel
theorem dX2_add_113 : decode cX2_add 113 = .ok (.getfield 13, 3) := by decide +kernel
theorem dX2_add_116 : decode cX2_add 116 = .ok (.iconst 1, 1) := by decide +kernel
theorem dX2_add_117 : decode cX2_add 117 = .ok (.iadd, 1) := by decide +kernel
theorem dX2_add_118 : decode cX2_add 118 = .ok (.bipush 100, 2) := by decide +kernel
theorem dX2_add_120 : decode cX2_add 120 = .ok (.irem, 1) := by decide +kernel
theorem dX2_add_121 : decode cX2_add 121 = .ok (.putfield 13, 3) := by decide +kernel
theorem dX2_add_124 : decode cX2_add 124 = .ok (.aload_n 0, 1) := by decide +kernel
theorem dX2_add_125 : decode cX2_add 125 = .ok (.aload_n 0, 1) := by decide +kernel
theorem dX2_add_126 : decode cX2_add 126 = .ok (.getfield 17, 3) := by decide +kernel
theorem dX2_add_129 : decode cX2_add 129 = .ok (.iconst 1, 1) := by decide +kernel
theorem dX2_add_130 : decode cX2_add 130 = .ok (.iadd, 1) := by decide +kernel
theorem dX2_add_131 : decode cX2_add 131 = .ok (.bipush 100, 2) := by decide +kernel
theorem dX2_add_133 : decode cX2_add 133 = .ok (.invokestatic 37, 3) := by decide +kernel
theorem dX2_add_136 : decode cX2_add 136 = .ok (.putfield 17, 3) := by decide +kernel
theorem dX2_add_139 : decode cX2_add 139 = .ok (.aload_n 0, 1) := by decide +kernel
theorem dX2_add_140 : decode cX2_add 140 = .ok (.dup, 1) := by decide +kernel
theorem dX2_add_141 : decode cX2_add 141 = .ok (.getfield 20, 3) := by decide +kernel
theorem dX2_add_144 : decode cX2_add 144 = .ok (.iconst 1, 1) := by decide +kernel
theorem dX2_add_145 : decode cX2_add 145 = .ok (.iadd, 1) := by decide +kernel
theorem dX2_add_146 : decode cX2_add 146 = .ok (.putfield 20, 3) := by decide +kernel
theorem dX2_add_149 : decode cX2_add 149 = .ok (.return_, 1) := by decide +kernel
theorem dX2_cell_0 : decode cX2_cell 0 = .ok (.aload_n 0, 1) := by decide +kernel
theorem dX2_cell_1 : decode cX2_cell 1 = .ok (.getfield 13, 3) := by decide +kernel
theorem dX2_cell_4 : decode cX2_cell 4 = .ok (.bipush 100, 2) := by decide +kernel
theorem dX2_cell_6 : decode cX2_cell 6 = .ok (.iadd, 1) := by decide +kernel
theorem dX2_cell_7 : decode cX2_cell 7 = .ok (.aload_n 0, 1) := by decide +kernel
theorem dX2_cell_8 : decode cX2_cell 8 = .ok (.getfield 17, 3) := by decide +kernel
theorem dX2_cell_11 : decode cX2_cell 11 = .ok (.isub, 1) := by decide +kernel
theorem dX2_cell_12 : decode cX2_cell 12 = .ok (.iload_n 1, 1) := by decide +kernel
theorem dX2_cell_13 : decode cX2_cell 13 = .ok (.iadd, 1) := by decide +kernel
theorem dX2_cell_14 : decode cX2_cell 14 = .ok (.bipush 100, 2) := by decide +kernel
theorem dX2_cell_16 : decode cX2_cell 16 = .ok (.irem, 1) := by decide +kernel
theorem dX2_cell_17 : decode cX2_cell 17 = .ok (.istore_n 3, 1) := by decide +kernel
theorem dX2_cell_18 : decode cX2_cell 18 = .ok (.aload_n 0, 1) := by decide +kernel
theorem dX2_cell_19 : decode cX2_cell 19 = .ok (.getfield 9, 3) := by decide +kernel
theorem dX2_cell_22 : decode cX2_cell 22 = .ok (.iload_n 3, 1) := by decide +kernel
theorem dX2_cell_23 : decode cX2_cell 23 = .ok (.bipush 8, 2) := by decide +kernel
theorem dX2_cell_25 : decode cX2_cell 25 = .ok (.imul, 1) := by decide +kernel
theorem dX2_cell_26 : decode cX2_cell 26 = .ok (.iload_n 2, 1) := by decide +kernel
theorem dX2_cell_27 : decode cX2_cell 27 = .ok (.iadd, 1) := by decide +kernel
theorem dX2_cell_28 : decode cX2_cell 28 = .ok (.laload, 1) := by decide +kernel
theorem dX2_cell_29 : decode cX2_cell 29 = .ok (.lreturn, 1) := by decide +kernel
theorem dX3_init_0 : decode cX3_init 0 = .ok (.aload_n 0, 1) := by decide +kernel
theorem dX3_init_1 : decode cX3_init 1 = .ok (.invokespecial 3, 3) := by decide +kernel
theorem dX3_init_4 : decode cX3_init 4 = .ok (.return_, 1) := by decide +kernel
theorem dX3_set_0 : decode cX3_set 0 = .ok (.aload_n 0, 1) := by decide +kernel
theorem dX3_set_1 : decode cX3_set 1 = .ok (.iload_n 1, 1) := by decide +kernel
theorem dX3_set_2 : decode cX3_set 2 = .ok (.putfield 9, 3) := by decide +kernel
theorem dX3_set_5 : decode cX3_set 5 = .ok (.aload_n 0, 1) := by decide +kernel
theorem dX3_set_6 : decode cX3_set 6 = .ok (.iload_n 2, 1) := by decide +kernel
theorem dX3_set_7 : decode cX3_set 7 = .ok (.putfield 15, 3) := by decide +kernel
theorem dX3_set_10 : decode cX3_set 10 = .ok (.aload_n 0, 1) := by decide +kernel
theorem dX3_set_11 : decode cX3_set 11 = .ok (.iload_n 3, 1) := by decide +kernel
theorem dX3_set_12 : decode cX3_set 12 = .ok (.putfield 18, 3) := by decide +kernel
theorem dX3_set_15 : decode cX3_set 15 = .ok (.aload_n 0, 1) := by decide +kernel
theorem dX3_set_16 : decode cX3_set 16 = .ok (.iload 4, 2) := by decide +kernel
theorem dX3_set_18 : decode cX3_set 18 = .ok (.putfield 21, 3) := by decide +kernel
theorem dX3_set_21 : decode cX3_set 21 = .ok (.return_, 1) := by decide +kernel
theorem dX3_isAllowed_0 : decode cX3_isAllowed 0 = .ok (.aload_n 0, 1) := by decide +kernel
theorem dX3_isAllowed_1 : decode cX3_isAllowed 1 = .ok (.getfield 9, 3) := by decide +kernel
theorem dX3_isAllowed_4 : decode cX3_isAllowed 4 = .ok (.tableswitch 417 0 13 #[72, 82, 117, 130, 164, 197, 212, 261, 308, 323, 334, 367, 367, 378], 72) := by decide +kernel
theorem dX3_isAllowed_76 : decode cX3_isAllowed 76 = .ok (.aload_n 0, 1) := by decide +kernel
theorem dX3_isAllowed_77 : decode cX3_isAllowed 77 = .ok (.getfield 15, 3) := by decide +kernel
theorem dX3_isAllowed_80 : decode cX3_isAllowed 80 = .ok (.bipush 7, 2) := by decide +kernel
theorem dX3_isAllowed_82 : decode cX3_isAllowed 82 = .ok (.invokestatic 24, 3) := by decide +kernel
theorem dX3_isAllowed_85 : decode cX3_isAllowed 85 = .ok (.ireturn, 1) := by decide +kernel
theorem dX3_isAllowed_86 : decode cX3_isAllowed 86 = .ok (.aload_n 0, 1) := by decide +kernel
theorem dX3_isAllowed_87 : decode cX3_isAllowed 87 = .ok (.getfield 15, 3) := by decide +kernel
theorem dX3_isAllowed_90 : decode cX3_isAllowed 90 = .ok (.ifCond .lt 29, 3) := by decide +kernel
theorem dX3_isAllowed_93 : decode cX3_isAllowed 93 = .ok (.aload_n 0, 1) := by decide +kernel
theorem dX3_isAllowed_94 : decode cX3_isAllowed 94 = .ok (.getfield 18, 3) := by decide +kernel
theorem dX3_isAllowed_97 : decode cX3_isAllowed 97 = .ok (.sipush 511, 3) := by decide +kernel
theorem dX3_isAllowed_100 : decode cX3_isAllowed 100 = .ok (.invokestatic 24, 3) := by decide +kernel
theorem dX3_isAllowed_103 : decode cX3_isAllowed 103 = .ok (.ifCond .eq 16, 3) := by decide +kernel
theorem dX3_isAllowed_106 : decode cX3_isAllowed 106 = .ok (.aload_n 0, 1) := by decide +kernel
theorem dX3_isAllowed_107 : decode cX3_isAllowed 107 = .ok (.invokevirtual 28, 3) := by decide +kernel
theorem dX3_isAllowed_110 : decode cX3_isAllowed 110 = .ok (.lconst 1, 1) := by decide +kernel
theorem dX3_isAllowed_111 : decode cX3_isAllowed 111 = .ok (.lcmp, 1) := by decide +kernel
theorem dX3_isAllowed_112 : decode cX3_isAllowed 112 = .ok (.ifCond .lt 7, 3) := by decide +kernel
theorem dX3_isAllowed_115 : decode cX3_isAllowed 115 = .ok (.iconst 1, 1) := by decide +kernel
theorem dX3_isAllowed_116 : decode cX3_isAllowed 116 = .ok (.goto 4, 3) := by decide +kernel
theorem dX3_isAllowed_119 : decode cX3_isAllowed 119 = .ok (.iconst 0, 1) := by decide +kernel
theorem dX3_isAllowed_120 : decode cX3_isAllowed 120 = .ok (.ireturn, 1) := by decide +kernel
theorem dX3_isAllowed_121 : decode cX3_isAllowed 121 = .ok (.aload_n 0, 1) := by decide +kernel
theorem dX3_isAllowed_122 : decode cX3_isAllowed 122 = .ok (.getfield 15, 3) := by decide +kernel
theorem dX3_isAllowed_125 : decode cX3_isAllowed 125 = .ok (.aload_n 0, 1) := by decide +kernel
theorem dX3_isAllowed_126 : decode cX3_isAllowed 126 = .ok (.getfield 18, 3) := by decide +kernel
theorem dX3_isAllowed_129 : decode cX3_isAllowed 129 = .ok (.lconst 1, 1) := by decide +kernel
theorem dX3_isAllowed_130 : decode cX3_isAllowed 130 = .ok (.invokestatic 32, 3) := by decide +kernel
theorem dX3_isAllowed_133 : decode cX3_isAllowed 133 = .ok (.ireturn, 1) := by decide +kernel
theorem dX3_isAllowed_134 : decode cX3_isAllowed 134 = .ok (.aload_n 0, 1) := by decide +kernel
theorem dX3_isAllowed_135 : decode cX3_isAllowed 135 = .ok (.getfield 15, 3) := by decide +kernel
theorem dX3_isAllowed_138 : decode cX3_isAllowed 138 = .ok (.sipush 1000, 3) := by decide +kernel
theorem dX3_isAllowed_141 : decode cX3_isAllowed 141 = .ok (.invokestatic 24, 3) := by decide +kernel
theorem dX3_isAllowed_144 : decode cX3_isAllowed 144 = .ok (.ifCond .eq 22, 3) := by decide +kernel
theorem dX3_isAllowed_147 : decode cX3_isAllowed 147 = .ok (.aload_n 0, 1) := by decide +kernel
theorem dX3_isAllowed_148 : decode cX3_isAllowed 148 = .ok (.getfield 18, 3) := by decide +kernel
theorem dX3_isAllowed_151 : decode cX3_isAllowed 151 = .ok (.aload_n 0, 1) := by decide +kernel
theorem dX3_isAllowed_152 : decode cX3_isAllowed 152 = .ok (.getfield 21, 3) := by decide +kernel
theorem dX3_isAllowed_155 : decode cX3_isAllowed 155 = .ok (.lconst 1, 1) := by decide +kernel
theorem dX3_isAllowed_156 : decode cX3_isAllowed 156 = .ok (.invokestatic 32, 3) := by decide +kernel
theorem dX3_isAllowed_159 : decode cX3_isAllowed 159 = .ok (.ifCond .eq 7, 3) := by decide +kernel
theorem dX3_isAllowed_162 : decode cX3_isAllowed 162 = .ok (.iconst 1, 1) := by decide +kernel
theorem dX3_isAllowed_163 : decode cX3_isAllowed 163 = .ok (.goto 4, 3) := by decide +kernel
theorem dX3_isAllowed_166 : decode cX3_isAllowed 166 = .ok (.iconst 0, 1) := by decide +kernel
theorem dX3_isAllowed_167 : decode cX3_isAllowed 167 = .ok (.ireturn, 1) := by decide +kernel
theorem dX3_isAllowed_168 : decode cX3_isAllowed 168 = .ok (.aload_n 0, 1) := by decide +kernel
theorem dX3_isAllowed_169 : decode cX3_isAllowed 169 = .ok (.getfield 15, 3) := by decide +kernel
theorem dX3_isAllowed_172 : decode cX3_isAllowed 172 = .ok (.aload_n 0, 1) := by decide +kernel
theorem dX3_isAllowed_173 : decode cX3_isAllowed 173 = .ok (.getfield 18, 3) := by decide +kernel
theorem dX3_isAllowed_176 : decode cX3_isAllowed 176 = .ok (.lconst 1, 1) := by decide +kernel
theorem dX3_isAllowed_177 : decode cX3_isAllowed 177 = .ok (.invokestatic 32, 3) := by decide +kernel
theorem dX3_isAllowed_180 : decode cX3_isAllowed 180 = .ok (.ifCond .eq 19, 3) := by decide +kernel
theorem dX3_isAllowed_183 : decode cX3_isAllowed 183 = .ok (.aload_n 0, 1) := by decide +kernel
theorem dX3_isAllowed_184 : decode cX3_isAllowed 184 = .ok (.getfield 21, 3) := by decide +kernel
theorem dX3_isAllowed_187 : decode cX3_isAllowed 187 = .ok (.ldc 36, 2) := by decide +kernel
theorem dX3_isAllowed_189 : decode cX3_isAllowed 189 = .ok (.invokestatic 24, 3) := by decide +kernel
theorem dX3_isAllowed_192 : decode cX3_isAllowed 192 = .ok (.ifCond .eq 7, 3) := by decide +kernel
theorem dX3_isAllowed_195 : decode cX3_isAllowed 195 = .ok (.iconst 1, 1) := by decide +kernel
theorem dX3_isAllowed_196 : decode cX3_isAllowed 196 = .ok (.goto 4, 3) := by decide +kernel
theorem dX3_isAllowed_199 : decode cX3_isAllowed 199 = .ok (.iconst 0, 1) := by decide +kernel
theorem dX3_isAllowed_200 : decode cX3_isAllowed 200 = .ok (.ireturn, 1) := by decide +kernel
theorem dX3_isAllowed_201 : decode cX3_isAllowed 201 = .ok (.aload_n 0, 1) := by decide +kernel
theorem dX3_isAllowed_202 : decode cX3_isAllowed 202 = .ok (.getfield 15, 3) := by decide +kernel
theorem dX3_isAllowed_205 : decode cX3_isAllowed 205 = .ok (.aload_n 0, 1) := by decide +kernel
theorem dX3_isAllowed_206 : decode cX3_isAllowed 206 = .ok (.getfield 18, 3) := by decide +kernel
theorem dX3_isAllowed_209 : decode cX3_isAllowed 209 = .ok (.ldc2_w 37, 3) := by decide +kernel
theorem dX3_isAllowed_212 : decode cX3_isAllowed 212 = .ok (.invokestatic 32, 3) := by decide +kernel
theorem dX3_isAllowed_215 : decode cX3_isAllowed 215 = .ok (.ireturn, 1) := by decide +kernel
theorem dX3_isAllowed_216 : decode cX3_isAllowed 216 = .ok (.aload_n 0, 1) := by decide +kernel
theorem dX3_isAllowed_217 : decode cX3_isAllowed 217 = .ok (.getfield 15, 3) := by decide +kernel
theorem dX3_isAllowed_220 : decode cX3_isAllowed 220 = .ok (.ldc 36, 2) := by decide +kernel
theorem dX3_isAllowed_222 : decode cX3_isAllowed 222 = .ok (.invokestatic 24, 3) := by decide +kernel
theorem dX3_isAllowed_225 : decode cX3_isAllowed 225 = .ok (.ifCond .eq 38, 3) := by decide +kernel
theorem dX3_isAllowed_228 : decode cX3_isAllowed 228 = .ok (.aload_n 0, 1) := by decide +kernel
theorem dX3_isAllowed_229 : decode cX3_isAllowed 229 = .ok (.getfield 18, 3) := by decide +kernel
theorem dX3_isAllowed_232 : decode cX3_isAllowed 232 = .ok (.ldc 36, 2) := by decide +kernel
theorem dX3_isAllowed_234 : decode cX3_isAllowed 234 = .ok (.invokestatic 24, 3) := by decide +kernel
theorem dX3_isAllowed_237 : decode cX3_isAllowed 237 = .ok (.ifCond .eq 26, 3) := by decide +kernel
theorem dX3_isAllowed_240 : decode cX3_isAllowed 240 = .ok (.aload_n 0, 1) := by decide +kernel
theorem dX3_isAllowed_241 : decode cX3_isAllowed 241 = .ok (.getfield 21, 3) := by decide +kernel
theorem dX3_isAllowed_244 : decode cX3_isAllowed 244 = .ok (.aload_n 0, 1) := by decide +kernel
theorem dX3_isAllowed_245 : decode cX3_isAllowed 245 = .ok (.getfield 15, 3) := by decide +kernel
theorem dX3_isAllowed_248 : decode cX3_isAllowed 248 = .ok (.aload_n 0, 1) := by decide +kernel
theorem dX3_isAllowed_249 : decode cX3_isAllowed 249 = .ok (.getfield 18, 3) := by decide +kernel
theorem dX3_isAllowed_252 : decode cX3_isAllowed 252 = .ok (.iadd, 1) := by decide +kernel
theorem dX3_isAllowed_253 : decode cX3_isAllowed 253 = .ok (.invokestatic 24, 3) := by decide +kernel
theorem dX3_isAllowed_256 : decode cX3_isAllowed 256 = .ok (.ifCond .eq 7, 3) := by decide +kernel
theorem dX3_isAllowed_259 : decode cX3_isAllowed 259 = .ok (.iconst 1, 1) := by decide +kernel
theorem dX3_isAllowed_260 : decode cX3_isAllowed 260 = .ok (.goto 4, 3) := by decide +kernel
theorem dX3_isAllowed_263 : decode cX3_isAllowed 263 = .ok (.iconst 0, 1) := by decide +kernel
theorem dX3_isAllowed_264 : decode cX3_isAllowed 264 = .ok (.ireturn, 1) := by decide +kernel
theorem dX3_isAllowed_265 : decode cX3_isAllowed 265 = .ok (.aload_n 0, 1) := by decide +kernel
theorem dX3_isAllowed_266 : decode cX3_isAllowed 266 = .ok (.getfield 15, 3) := by decide +kernel
theorem dX3_isAllowed_269 : decode cX3_isAllowed 269 = .ok (.iconst 1, 1) := by decide +kernel
theorem dX3_isAllowed_270 : decode cX3_isAllowed 270 = .ok (.if_icmp .lt 40, 3) := by decide +kernel
theorem dX3_isAllowed_273 : decode cX3_isAllowed 273 = .ok (.aload_n 0, 1) := by decide +kernel
theorem dX3_isAllowed_274 : decode cX3_isAllowed 274 = .ok (.getfield 15, 3) := by decide +kernel
theorem dX3_isAllowed_277 : decode cX3_isAllowed 277 = .ok (.sipush 1000, 3) := by decide +kernel
theorem dX3_isAllowed_280 : decode cX3_isAllowed 280 = .ok (.invokestatic 24, 3) := by decide +kernel
theorem dX3_isAllowed_283 : decode cX3_isAllowed 283 = .ok (.ifCond .eq 27, 3) := by decide +kernel
theorem dX3_isAllowed_286 : decode cX3_isAllowed 286 = .ok (.aload_n 0, 1) := by decide +kernel
theorem dX3_isAllowed_287 : decode cX3_isAllowed 287 = .ok (.getfield 18, 3) := by decide +kernel
theorem dX3_isAllowed_290 : decode cX3_isAllowed 290 = .ok (.iconst 1, 1) := by decide +kernel
theorem dX3_isAllowed_291 : decode cX3_isAllowed 291 = .ok (.if_icmp .lt 19, 3) := by decide +kernel
theorem dX3_isAllowed_294 : decode cX3_isAllowed 294 = .ok (.aload_n 0, 1) := by decide +kernel
theorem dX3_isAllowed_295 : decode cX3_isAllowed 295 = .ok (.getfield 18, 3) := by decide +kernel
theorem dX3_isAllowed_298 : decode cX3_isAllowed 298 = .ok (.bipush 10, 2) := by decide +kernel
theorem dX3_isAllowed_300 : decode cX3_isAllowed 300 = .ok (.invokestatic 24, 3) := by decide +kernel
theorem dX3_isAllowed_303 : decode cX3_isAllowed 303 = .ok (.ifCond .eq 7, 3) := by decide +kernel
theorem dX3_isAllowed_306 : decode cX3_isAllowed 306 = .ok (.iconst 1, 1) := by decide +kernel
theorem dX3_isAllowed_307 : decode cX3_isAllowed 307 = .ok (.goto 4, 3) := by decide +kernel
theorem dX3_isAllowed_310 : decode cX3_isAllowed 310 = .ok (.iconst 0, 1) := by decide +kernel
theorem dX3_isAllowed_311 : decode cX3_isAllowed 311 = .ok (.ireturn, 1) := by decide +kernel
theorem dX3_isAllowed_312 : decode cX3_isAllowed 312 = .ok (.aload_n 0, 1) := by decide +kernel
theorem dX3_isAllowed_313 : decode cX3_isAllowed 313 = .ok (.getfield 15, 3) := by decide +kernel
theorem dX3_isAllowed_316 : decode cX3_isAllowed 316 = .ok (.aload_n 0, 1) := by decide +kernel
theorem dX3_isAllowed_317 : decode cX3_isAllowed 317 = .ok (.getfield 18, 3) := by decide +kernel
theorem dX3_isAllowed_320 : decode cX3_isAllowed 320 = .ok (.ldc2_w 39, 3) := by decide +kernel
theorem dX3_isAllowed_323 : decode cX3_isAllowed 323 = .ok (.invokestatic 32, 3) := by decide +kernel
theorem dX3_isAllowed_326 : decode cX3_isAllowed 326 = .ok (.ireturn, 1) := by decide +kernel
theorem dX3_isAllowed_327 : decode cX3_isAllowed 327 = .ok (.aload_n 0, 1) := by decide +kernel
theorem dX3_isAllowed_328 : decode cX3_isAllowed 328 = .ok (.getfield 15, 3) := by decide +kernel
theorem dX3_isAllowed_331 : decode cX3_isAllowed 331 = .ok (.sipush 256, 3) := by decide +kernel
theorem dX3_isAllowed_334 : decode cX3_isAllowed 334 = .ok (.invokestatic 24, 3) := by decide +kernel
theorem dX3_isAllowed_337 : decode cX3_isAllowed 337 = .ok (.ireturn, 1) := by decide +kernel
theorem dX3_isAllowed_338 : decode cX3_isAllowed 338 = .ok (.aload_n 0, 1) := by decide +kernel
theorem dX3_isAllowed_339 : decode cX3_isAllowed 339 = .ok (.getfield 15, 3) := by decide +kernel
theorem dX3_isAllowed_342 : decode cX3_isAllowed 342 = .ok (.sipush 256, 3) := by decide +kernel
theorem dX3_isAllowed_345 : decode cX3_isAllowed 345 = .ok (.invokestatic 24, 3) := by decide +kernel
theorem dX3_isAllowed_348 : decode cX3_isAllowed 348 = .ok (.ifCond .eq 21, 3) := by decide +kernel
theorem dX3_isAllowed_351 : decode cX3_isAllowed 351 = .ok (.aload_n 0, 1) := by decide +kernel
theorem dX3_isAllowed_352 : decode cX3_isAllowed 352 = .ok (.getfield 18, 3) := by decide +kernel
theorem dX3_isAllowed_355 : decode cX3_isAllowed 355 = .ok (.aload_n 0, 1) := by decide +kernel
theorem dX3_isAllowed_356 : decode cX3_isAllowed 356 = .ok (.getfield 15, 3) := by decide +kernel
theorem dX3_isAllowed_359 : decode cX3_isAllowed 359 = .ok (.invokestatic 24, 3) := by decide +kernel
theorem dX3_isAllowed_362 : decode cX3_isAllowed 362 = .ok (.ifCond .eq 7, 3) := by decide +kernel
theorem dX3_isAllowed_365 : decode cX3_isAllowed 365 = .ok (.iconst 1, 1) := by decide +kernel
theorem dX3_isAllowed_366 : decode cX3_isAllowed 366 = .ok (.goto 4, 3) := by decide +kernel
theorem dX3_isAllowed_369 : decode cX3_isAllowed 369 = .ok (.iconst 0, 1) := by decide +kernel
theorem dX3_isAllowed_370 : decode cX3_isAllowed 370 = .ok (.ireturn, 1) := by decide +kernel
theorem dX3_isAllowed_371 : decode cX3_isAllowed 371 = .ok (.aload_n 0, 1) := by decide +kernel
theorem dX3_isAllowed_372 : decode cX3_isAllowed 372 = .ok (.getfield 15, 3) := by decide +kernel
theorem dX3_isAllowed_375 : decode cX3_isAllowed 375 = .ok (.sipush 128, 3) := by decide +kernel
theorem dX3_isAllowed_378 : decode cX3_isAllowed 378 = .ok (.invokestatic 24, 3) := by decide +kernel
theorem dX3_isAllowed_381 : decode cX3_isAllowed 381 = .ok (.ireturn, 1) := by decide +kernel
theorem dX3_isAllowed_382 : decode cX3_isAllowed 382 = .ok (.aload_n 0, 1) := by decide +kernel
theorem dX3_isAllowed_383 : decode cX3_isAllowed 383 = .ok (.getfield 15, 3) := by decide +kernel
theorem dX3_isAllowed_386 : decode cX3_isAllowed 386 = .ok (.sipush 256, 3) := by decide +kernel
theorem dX3_isAllowed_389 : decode cX3_isAllowed 389 = .ok (.invokestatic 24, 3) := by decide +kernel
theorem dX3_isAllowed_392 : decode cX3_isAllowed 392 = .ok (.ifCond .eq 27, 3) := by decide +kernel
theorem dX3_isAllowed_395 : decode cX3_isAllowed 395 = .ok (.aload_n 0, 1) := by decide +kernel
theorem dX3_isAllowed_396 : decode cX3_isAllowed 396 = .ok (.getfield 18, 3) := by decide +kernel
theorem dX3_isAllowed_399 : decode cX3_isAllowed 399 = .ok (.iconst 1, 1) := by decide +kernel
theorem dX3_isAllowed_400 : decode cX3_isAllowed 400 = .ok (.if_icmp .lt 19, 3) := by decide +kernel
theorem dX3_isAllowed_403 : decode cX3_isAllowed 403 = .ok (.aload_n 0, 1) := by decide +kernel
theorem dX3_isAllowed_404 : decode cX3_isAllowed 404 = .ok (.getfield 15, 3) := by decide +kernel
theorem dX3_isAllowed_407 : decode cX3_isAllowed 407 = .ok (.aload_n 0, 1) := by decide +kernel
theorem dX3_isAllowed_408 : decode cX3_isAllowed 408 = .ok (.getfield 18, 3) := by decide +kernel
theorem dX3_isAllowed_411 : decode cX3_isAllowed 411 = .ok (.irem, 1) := by decide +kernel
theorem dX3_isAllowed_412 : decode cX3_isAllowed 412 = .ok (.ifCond .ne 7, 3) := by decide +kernel
theorem dX3_isAllowed_415 : decode cX3_isAllowed 415 = .ok (.iconst 1, 1) := by decide +kernel
theorem dX3_isAllowed_416 : decode cX3_isAllowed 416 = .ok (.goto 4, 3) := by decide +kernel
theorem dX3_isAllowed_419 : decode cX3_isAllowed 419 = .ok (.iconst 0, 1) := by decide +kernel
theorem dX3_isAllowed_420 : decode cX3_isAllowed 420 = .ok (.ireturn, 1) := by decide +kernel
theorem dX3_isAllowed_421 : decode cX3_isAllowed 421 = .ok (.iconst 0, 1) := by decide +kernel
theorem dX3_isAllowed_422 : decode cX3_isAllowed 422 = .ok (.ireturn, 1) := by decide +kernel
theorem dX3_width_0 : decode cX3_width 0 = .ok (.aload_n 0, 1) := by decide +kernel
theorem dX3_width_1 : decode cX3_width 1 = .ok (.getfield 15, 3) := by decide +kernel
theorem dX3_width_4 : decode cX3_width 4 = .ok (.i2l, 1) := by decide +kernel
theorem dX3_width_5 : decode cX3_width 5 = .ok (.ldc2_w 41, 3) := by decide +kernel
theorem dX3_width_8 : decode cX3_width 8 = .ok (.aload_n 0, 1) := by decide +kernel
theorem dX3_width_9 : decode cX3_width 9 = .ok (.getfield 18, 3) := by decide +kernel
theorem dX3_width_12 : decode cX3_width 12 = .ok (.i2l, 1) := by decide +kernel
theorem dX3_width_13 : decode cX3_width 13 = .ok (.lmul, 1) := by decide +kernel
theorem dX3_width_14 : decode cX3_width 14 = .ok (.ladd, 1) := by decide +kernel
theorem dX3_width_15 : decode cX3_width 15 = .ok (.lreturn, 1) := by decide +kernel
theorem dX3_isUpTo_0 : decode cX3_isUpTo 0 = .ok (.iload_n 0, 1) := by decide +kernel
theorem dX3_isUpTo_1 : decode cX3_isUpTo 1 = .ok (.ifCond .lt 12, 3) := by decide +kernel
theorem dX3_isUpTo_4 : decode cX3_isUpTo 4 = .ok (.iload_n 0, 1) := by decide +kernel
theorem dX3_isUpTo_5 : decode cX3_isUpTo 5 = .ok (.iload_n 1, 1) := by decide +kernel
theorem dX3_isUpTo_6 : decode cX3_isUpTo 6 = .ok (.if_icmp .gt 7, 3) := by decide +kernel
theorem dX3_isUpTo_9 : decode cX3_isUpTo 9 = .ok (.iconst 1, 1) := by decide +kernel
theorem dX3_isUpTo_10 : decode cX3_isUpTo 10 = .ok (.goto 4, 3) := by decide +kernel
theorem dX3_isUpTo_13 : decode cX3_isUpTo 13 = .ok (.iconst 0, 1) := by decide +kernel
theorem dX3_isUpTo_14 : decode cX3_isUpTo 14 = .ok (.ireturn, 1) := by decide +kernel
theorem dX3_isRatio_0 : decode cX3_isRatio 0 = .ok (.iload_n 0, 1) := by decide +kernel
theorem dX3_isRatio_1 : decode cX3_isRatio 1 = .ok (.ifCond .lt 22, 3) := by decide +kernel
theorem dX3_isRatio_4 : decode cX3_isRatio 4 = .ok (.iload_n 1, 1) := by decide +kernel
theorem dX3_isRatio_5 : decode cX3_isRatio 5 = .ok (.iconst 1, 1) := by decide +kernel
theorem dX3_isRatio_6 : decode cX3_isRatio 6 = .ok (.if_icmp .lt 17, 3) := by decide +kernel
theorem dX3_isRatio_9 : decode cX3_isRatio 9 = .ok (.iload_n 0, 1) := by decide +kernel
theorem dX3_isRatio_10 : decode cX3_isRatio 10 = .ok (.i2l, 1) := by decide +kernel
theorem dX3_isRatio_11 : decode cX3_isRatio 11 = .ok (.lload_n 2, 1) := by decide +kernel
theorem dX3_isRatio_12 : decode cX3_isRatio 12 = .ok (.iload_n 1, 1) := by decide +kernel
theorem dX3_isRatio_13 : decode cX3_isRatio 13 = .ok (.i2l, 1) := by decide +kernel
theorem dX3_isRatio_14 : decode cX3_isRatio 14 = .ok (.lmul, 1) := by decide +kernel
theorem dX3_isRatio_15 : decode cX3_isRatio 15 = .ok (.lcmp, 1) := by decide +kernel
theorem dX3_isRatio_16 : decode cX3_isRatio 16 = .ok (.ifCond .gt 7, 3) := by decide +kernel
theorem dX3_isRatio_19 : decode cX3_isRatio 19 = .ok (.iconst 1, 1) := by decide +kernel
theorem dX3_isRatio_20 : decode cX3_isRatio 20 = .ok (.goto 4, 3) := by decide +kernel
theorem dX3_isRatio_23 : decode cX3_isRatio 23 = .ok (.iconst 0, 1) := by decide +kernel
theorem dX3_isRatio_24 : decode cX3_isRatio 24 = .ok (.ireturn, 1) := by decide +kernel
theorem dX7_init_0 : decode cX7_init 0 = .ok (.aload_n 0, 1) := by decide +kernel
theorem dX7_init_1 : decode cX7_init 1 = .ok (.invokespecial 3, 3) := by decide +kernel
theorem dX7_init_4 : decode cX7_init 4 = .ok (.aload_n 0, 1) := by decide +kernel
theorem dX7_init_5 : decode cX7_init 5 = .ok (.sipush 512, 3) := by decide +kernel
theorem dX7_init_8 : decode cX7_init 8 = .ok (.newarray .int, 2) := by decide +kernel
theorem dX7_init_10 : decode cX7_init 10 = .ok (.putfield 9, 3) := by decide +kernel
theorem dX7_init_13 : decode cX7_init 13 = .ok (.aload_n 0, 1) := by decide +kernel
theorem dX7_init_14 : decode cX7_init 14 = .ok (.iconst 0, 1) := by decide +kernel
theorem dX7_init_15 : decode cX7_init 15 = .ok (.putfield 15, 3) := by decide +kernel
theorem dX7_init_18 : decode cX7_init 18 = .ok (.aload_n 0, 1) := by decide +kernel
theorem dX7_init_19 : decode cX7_init 19 = .ok (.iconst 0, 1) := by decide +kernel
theorem dX7_init_20 : decode cX7_init 20 = .ok (.putfield 19, 3) := by decide +kernel
theorem dX7_init_23 : decode cX7_init 23 = .ok (.return_, 1) := by decide +kernel
theorem dX7_append_0 : decode cX7_append 0 = .ok (.aload_n 0, 1) := by decide +kernel
theorem dX7_append_1 : decode cX7_append 1 = .ok (.getfield 15, 3) := by decide +kernel
theorem dX7_append_4 : decode cX7_append 4 = .ok (.bipush 32, 2) := by decide +kernel
theorem dX7_append_6 : decode cX7_append 6 = .ok (.idiv, 1) := by decide +kernel
theorem dX7_append_7 : decode cX7_append 7 = .ok (.istore_n 2, 1) := by decide +kernel
theorem dX7_append_8 : decode cX7_append 8 = .ok (.iload_n 2, 1) := by decide +kernel
theorem dX7_append_9 : decode cX7_append 9 = .ok (.aload_n 0, 1) := by decide +kernel
theorem dX7_append_10 : decode cX7_append 10 = .ok (.getfield 9, 3) := by decide +kernel
theorem dX7_append_13 : decode cX7_append 13 = .ok (.arraylength, 1) := by decide +kernel
theorem dX7_append_14 : decode cX7_append 14 = .ok (.if_icmp .ge 21, 3) := by decide +kernel
theorem dX7_append_17 : decode cX7_append 17 = .ok (.aload_n 0, 1) := by decide +kernel
theorem dX7_append_18 : decode cX7_append 18 = .ok (.getfield 9, 3) := by decide +kernel
theorem dX7_append_21 : decode cX7_append 21 = .ok (.iload_n 2, 1) := by decide +kernel
theorem dX7_append_22 : decode cX7_append 22 = .ok (.iload_n 1, 1) := by decide +kernel
theorem dX7_append_23 : decode cX7_append 23 = .ok (.iastore, 1) := by decide +kernel
theorem dX7_append_24 : decode cX7_append 24 = .ok (.aload_n 0, 1) := by decide +kernel
theorem dX7_append_25 : decode cX7_append 25 = .ok (.dup, 1) := by decide +kernel
theorem dX7_append_26 : decode cX7_append 26 = .ok (.getfield 15, 3) := by decide +kernel
theorem dX7_append_29 : decode cX7_append 29 = .ok (.bipush 32, 2) := by decide +kernel
theorem dX7_append_31 : decode cX7_append 31 = .ok (.iadd, 1) := by decide +kernel
theorem dX7_append_32 : decode cX7_append 32 = .ok (.putfield 15, 3) := by decide +kernel
theorem dX7_append_35 : decode cX7_append 35 = .ok (.return_, 1) := by decide +kernel
theorem dX7_exchange_0 : decode cX7_exchange 0 = .ok (.bipush 31, 2) := by decide +kernel
theorem dX7_exchange_2 : decode cX7_exchange 2 = .ok (.iload_n 1, 1) := by decide +kernel
theorem dX7_exchange_3 : decode cX7_exchange 3 = .ok (.bipush 32, 2) := by decide +kernel
theorem dX7_exchange_5 : decode cX7_exchange 5 = .ok (.irem, 1) := by decide +kernel
theorem dX7_exchange_6 : decode cX7_exchange 6 = .ok (.isub, 1) := by decide +kernel
theorem dX7_exchange_7 : decode cX7_exchange 7 = .ok (.istore_n 3, 1) := by decide +kernel
theorem dX7_exchange_8 : decode cX7_exchange 8 = .ok (.aload_n 0, 1) := by decide +kernel
theorem dX7_exchange_9 : decode cX7_exchange 9 = .ok (.getfield 9, 3) := by decide +kernel
theorem dX7_exchange_12 : decode cX7_exchange 12 = .ok (.iload_n 1, 1) := by decide +kernel
theorem dX7_exchange_13 : decode cX7_exchange 13 = .ok (.bipush 32, 2) := by decide +kernel
theorem dX7_exchange_15 : decode cX7_exchange 15 = .ok (.idiv, 1) := by decide +kernel
theorem dX7_exchange_16 : decode cX7_exchange 16 = .ok (.iaload, 1) := by decide +kernel
theorem dX7_exchange_17 : decode cX7_exchange 17 = .ok (.iload_n 3, 1) := by decide +kernel
theorem dX7_exchange_18 : decode cX7_exchange 18 = .ok (.iushr, 1) := by decide +kernel
theorem dX7_exchange_19 : decode cX7_exchange 19 = .ok (.iconst 1, 1) := by decide +kernel
theorem dX7_exchange_20 : decode cX7_exchange 20 = .ok (.iand, 1) := by decide +kernel
theorem dX7_exchange_21 : decode cX7_exchange 21 = .ok (.istore 4, 2) := by decide +kernel
theorem dX7_exchange_23 : decode cX7_exchange 23 = .ok (.aload_n 0, 1) := by decide +kernel
theorem dX7_exchange_24 : decode cX7_exchange 24 = .ok (.getfield 9, 3) := by decide +kernel
theorem dX7_exchange_27 : decode cX7_exchange 27 = .ok (.iload_n 1, 1) := by decide +kernel
theorem dX7_exchange_28 : decode cX7_exchange 28 = .ok (.bipush 32, 2) := by decide +kernel
theorem dX7_exchange_30 : decode cX7_exchange 30 = .ok (.idiv, 1) := by decide +kernel
theorem dX7_exchange_31 : decode cX7_exchange 31 = .ok (.dup2, 1) := by decide +kernel
theorem dX7_exchange_32 : decode cX7_exchange 32 = .ok (.iaload, 1) := by decide +kernel
theorem dX7_exchange_33 : decode cX7_exchange 33 = .ok (.iload 4, 2) := by decide +kernel
theorem dX7_exchange_35 : decode cX7_exchange 35 = .ok (.iload_n 2, 1) := by decide +kernel
theorem dX7_exchange_36 : decode cX7_exchange 36 = .ok (.ixor, 1) := by decide +kernel
theorem dX7_exchange_37 : decode cX7_exchange 37 = .ok (.iload_n 3, 1) := by decide +kernel
theorem dX7_exchange_38 : decode cX7_exchange 38 = .ok (.ishl, 1) := by decide +kernel
theorem dX7_exchange_39 : decode cX7_exchange 39 = .ok (.ixor, 1) := by decide +kernel
theorem dX7_exchange_40 : decode cX7_exchange 40 = .ok (.iastore, 1) := by decide +kernel
theorem dX7_exchange_41 : decode cX7_exchange 41 = .ok (.iload 4, 2) := by decide +kernel
theorem dX7_exchange_43 : decode cX7_exchange 43 = .ok (.ireturn, 1) := by decide +kernel
