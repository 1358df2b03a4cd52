theorem dX0_init_0 : decode cX0_init 0 = .ok (.aload_n 0, 1) := by decide +kernel
theorem dX0_init_1 : decode cX0_init 1 = .ok (.invokespecial 3, 3) := by decide +kernel
theorem dX0_init_4 : decode cX0_init 4 = .ok (.aload_n 0, 1) := by decide +kernel
theorem dX0_init_5 : decode cX0_init 5 = .ok (.bipush 80, 2) := by decide +kernel
theorem dX0_init_7 : decode cX0_init 7 = .ok (.newarray .int, 2) := by decide +kernel
theorem dX0_init_9 : decode cX0_init 9 = .ok (.putfield 9, 3) := by decide +kernel
theorem dX0_init_12 : decode cX0_init 12 = .ok (.aload_n 0, 1) := by decide +kernel
theorem dX0_init_13 : decode cX0_init 13 = .ok (.bipush 20, 2) := by decide +kernel
theorem dX0_init_15 : decode cX0_init 15 = .ok (.newarray .int, 2) := by decide +kernel
theorem dX0_init_17 : decode cX0_init 17 = .ok (.putfield 15, 3) := by decide +kernel
theorem dX0_init_20 : decode cX0_init 20 = .ok (.return_, 1) := by decide +kernel
theorem dX0_clear_0 : decode cX0_clear 0 = .ok (.aload_n 0, 1) := by decide +kernel
theorem dX0_clear_1 : decode cX0_clear 1 = .ok (.iconst 0, 1) := by decide +kernel
theorem dX0_clear_2 : decode cX0_clear 2 = .ok (.putfield 18, 3) := by decide +kernel
theorem dX0_clear_5 : decode cX0_clear 5 = .ok (.return_, 1) := by decide +kernel
theorem dX0_copyFrom_0 : decode cX0_copyFrom 0 = .ok (.aload_n 1, 1) := by decide +kernel
theorem dX0_copyFrom_1 : decode cX0_copyFrom 1 = .ok (.getfield 9, 3) := by decide +kernel
theorem dX0_copyFrom_4 : decode cX0_copyFrom 4 = .ok (.iconst 0, 1) := by decide +kernel
theorem dX0_copyFrom_5 : decode cX0_copyFrom 5 = .ok (.aload_n 0, 1) := by decide +kernel
theorem dX0_copyFrom_6 : decode cX0_copyFrom 6 = .ok (.getfield 9, 3) := by decide +kernel
theorem dX0_copyFrom_9 : decode cX0_copyFrom 9 = .ok (.iconst 0, 1) := by decide +kernel
theorem dX0_copyFrom_10 : decode cX0_copyFrom 10 = .ok (.aload_n 0, 1) := by decide +kernel
theorem dX0_copyFrom_11 : decode cX0_copyFrom 11 = .ok (.getfield 9, 3) := by decide +kernel
theorem dX0_copyFrom_14 : decode cX0_copyFrom 14 = .ok (.arraylength, 1) := by decide +kernel
theorem dX0_copyFrom_15 : decode cX0_copyFrom 15 = .ok (.invokestatic 22, 3) := by decide +kernel
theorem dX0_copyFrom_18 : decode cX0_copyFrom 18 = .ok (.aload_n 1, 1) := by decide +kernel
theorem dX0_copyFrom_19 : decode cX0_copyFrom 19 = .ok (.getfield 15, 3) := by decide +kernel
theorem dX0_copyFrom_22 : decode cX0_copyFrom 22 = .ok (.iconst 0, 1) := by decide +kernel
theorem dX0_copyFrom_23 : decode cX0_copyFrom 23 = .ok (.aload_n 0, 1) := by decide +kernel
theorem dX0_copyFrom_24 : decode cX0_copyFrom 24 = .ok (.getfield 15, 3) := by decide +kernel
theorem dX0_copyFrom_27 : decode cX0_copyFrom 27 = .ok (.iconst 0, 1) := by decide +kernel
theorem dX0_copyFrom_28 : decode cX0_copyFrom 28 = .ok (.aload_n 0, 1) := by decide +kernel
theorem dX0_copyFrom_29 : decode cX0_copyFrom 29 = .ok (.getfield 15, 3) := by decide +kernel
theorem dX0_copyFrom_32 : decode cX0_copyFrom 32 = .ok (.arraylength, 1) := by decide +kernel
theorem dX0_copyFrom_33 : decode cX0_copyFrom 33 = .ok (.invokestatic 22, 3) := by decide +kernel
theorem dX0_copyFrom_36 : decode cX0_copyFrom 36 = .ok (.aload_n 0, 1) := by decide +kernel
theorem dX0_copyFrom_37 : decode cX0_copyFrom 37 = .ok (.aload_n 1, 1) := by decide +kernel
theorem dX0_copyFrom_38 : decode cX0_copyFrom 38 = .ok (.getfield 18, 3) := by decide +kernel
theorem dX0_copyFrom_41 : decode cX0_copyFrom 41 = .ok (.putfield 18, 3) := by decide +kernel
theorem dX0_copyFrom_44 : decode cX0_copyFrom 44 = .ok (.return_, 1) := by decide +kernel
theorem dX0_cellAt_0 : decode cX0_cellAt 0 = .ok (.aload_n 0, 1) := by decide +kernel
theorem dX0_cellAt_1 : decode cX0_cellAt 1 = .ok (.getfield 9, 3) := by decide +kernel
theorem dX0_cellAt_4 : decode cX0_cellAt 4 = .ok (.iload_n 1, 1) := by decide +kernel
theorem dX0_cellAt_5 : decode cX0_cellAt 5 = .ok (.iconst 4, 1) := by decide +kernel
theorem dX0_cellAt_6 : decode cX0_cellAt 6 = .ok (.imul, 1) := by decide +kernel
theorem dX0_cellAt_7 : decode cX0_cellAt 7 = .ok (.iload_n 2, 1) := by decide +kernel
theorem dX0_cellAt_8 : decode cX0_cellAt 8 = .ok (.iadd, 1) := by decide +kernel
theorem dX0_cellAt_9 : decode cX0_cellAt 9 = .ok (.iaload, 1) := by decide +kernel
theorem dX0_cellAt_10 : decode cX0_cellAt 10 = .ok (.ireturn, 1) := by decide +kernel
theorem dX0_readRow_0 : decode cX0_readRow 0 = .ok (.aload_n 0, 1) := by decide +kernel
theorem dX0_readRow_1 : decode cX0_readRow 1 = .ok (.getfield 9, 3) := by decide +kernel
theorem dX0_readRow_4 : decode cX0_readRow 4 = .ok (.iload_n 1, 1) := by decide +kernel
theorem dX0_readRow_5 : decode cX0_readRow 5 = .ok (.iconst 4, 1) := by decide +kernel
theorem dX0_readRow_6 : decode cX0_readRow 6 = .ok (.imul, 1) := by decide +kernel
theorem dX0_readRow_7 : decode cX0_readRow 7 = .ok (.aload_n 2, 1) := by decide +kernel
theorem dX0_readRow_8 : decode cX0_readRow 8 = .ok (.iconst 0, 1) := by decide +kernel
theorem dX0_readRow_9 : decode cX0_readRow 9 = .ok (.iconst 4, 1) := by decide +kernel
theorem dX0_readRow_10 : decode cX0_readRow 10 = .ok (.invokestatic 22, 3) := by decide +kernel
theorem dX0_readRow_13 : decode cX0_readRow 13 = .ok (.return_, 1) := by decide +kernel
theorem dX0_allTimes_0 : decode cX0_allTimes 0 = .ok (.lconst 0, 1) := by decide +kernel
theorem dX0_allTimes_1 : decode cX0_allTimes 1 = .ok (.lstore_n 1, 1) := by decide +kernel
theorem dX0_allTimes_2 : decode cX0_allTimes 2 = .ok (.iconst 0, 1) := by decide +kernel
theorem dX0_allTimes_3 : decode cX0_allTimes 3 = .ok (.istore_n 3, 1) := by decide +kernel
theorem dX0_allTimes_4 : decode cX0_allTimes 4 = .ok (.iload_n 3, 1) := by decide +kernel
theorem dX0_allTimes_5 : decode cX0_allTimes 5 = .ok (.aload_n 0, 1) := by decide +kernel
theorem dX0_allTimes_6 : decode cX0_allTimes 6 = .ok (.getfield 18, 3) := by decide +kernel
theorem dX0_allTimes_9 : decode cX0_allTimes 9 = .ok (.if_icmp .ge 19, 3) := by decide +kernel
theorem dX0_allTimes_12 : decode cX0_allTimes 12 = .ok (.lload_n 1, 1) := by decide +kernel
theorem dX0_allTimes_13 : decode cX0_allTimes 13 = .ok (.aload_n 0, 1) := by decide +kernel
theorem dX0_allTimes_14 : decode cX0_allTimes 14 = .ok (.getfield 15, 3) := by decide +kernel
theorem dX0_allTimes_17 : decode cX0_allTimes 17 = .ok (.iload_n 3, 1) := by decide +kernel
theorem dX0_allTimes_18 : decode cX0_allTimes 18 = .ok (.iaload, 1) := by decide +kernel
theorem dX0_allTimes_19 : decode cX0_allTimes 19 = .ok (.i2l, 1) := by decide +kernel
theorem dX0_allTimes_20 : decode cX0_allTimes 20 = .ok (.ladd, 1) := by decide +kernel
theorem dX0_allTimes_21 : decode cX0_allTimes 21 = .ok (.lstore_n 1, 1) := by decide +kernel
theorem dX0_allTimes_22 : decode cX0_allTimes 22 = .ok (.iinc 3 1, 3) := by decide +kernel
theorem dX0_allTimes_25 : decode cX0_allTimes 25 = .ok (.goto (-21), 3) := by decide +kernel
theorem dX0_allTimes_28 : decode cX0_allTimes 28 = .ok (.lload_n 1, 1) := by decide +kernel
theorem dX0_allTimes_29 : decode cX0_allTimes 29 = .ok (.lreturn, 1) := by decide +kernel
theorem dX0_timesOf_0 : decode cX0_timesOf 0 = .ok (.aload_n 0, 1) := by decide +kernel
theorem dX0_timesOf_1 : decode cX0_timesOf 1 = .ok (.aload_n 1, 1) := by decide +kernel
theorem dX0_timesOf_2 : decode cX0_timesOf 2 = .ok (.invokevirtual 28, 3) := by decide +kernel
theorem dX0_timesOf_5 : decode cX0_timesOf 5 = .ok (.istore_n 2, 1) := by decide +kernel
theorem dX0_timesOf_6 : decode cX0_timesOf 6 = .ok (.aload_n 0, 1) := by decide +kernel
theorem dX0_timesOf_7 : decode cX0_timesOf 7 = .ok (.iload_n 2, 1) := by decide +kernel
theorem dX0_timesOf_8 : decode cX0_timesOf 8 = .ok (.iconst 1, 1) := by decide +kernel
theorem dX0_timesOf_9 : decode cX0_timesOf 9 = .ok (.isub, 1) := by decide +kernel
theorem dX0_timesOf_10 : decode cX0_timesOf 10 = .ok (.aload_n 1, 1) := by decide +kernel
theorem dX0_timesOf_11 : decode cX0_timesOf 11 = .ok (.invokevirtual 32, 3) := by decide +kernel
theorem dX0_timesOf_14 : decode cX0_timesOf 14 = .ok (.ifCond .eq 14, 3) := by decide +kernel
theorem dX0_timesOf_17 : decode cX0_timesOf 17 = .ok (.aload_n 0, 1) := by decide +kernel
theorem dX0_timesOf_18 : decode cX0_timesOf 18 = .ok (.getfield 15, 3) := by decide +kernel
theorem dX0_timesOf_21 : decode cX0_timesOf 21 = .ok (.iload_n 2, 1) := by decide +kernel
theorem dX0_timesOf_22 : decode cX0_timesOf 22 = .ok (.iconst 1, 1) := by decide +kernel
theorem dX0_timesOf_23 : decode cX0_timesOf 23 = .ok (.isub, 1) := by decide +kernel
theorem dX0_timesOf_24 : decode cX0_timesOf 24 = .ok (.iaload, 1) := by decide +kernel
theorem dX0_timesOf_25 : decode cX0_timesOf 25 = .ok (.goto 4, 3) := by decide +kernel
theorem dX0_timesOf_28 : decode cX0_timesOf 28 = .ok (.iconst 0, 1) := by decide +kernel
theorem dX0_timesOf_29 : decode cX0_timesOf 29 = .ok (.ireturn, 1) := by decide +kernel
theorem dX0_add_0 : decode cX0_add 0 = .ok (.aload_n 0, 1) := by decide +kernel
theorem dX0_add_1 : decode cX0_add 1 = .ok (.aload_n 1, 1) := by decide +kernel
theorem dX0_add_2 : decode cX0_add 2 = .ok (.invokevirtual 28, 3) := by decide +kernel
theorem dX0_add_5 : decode cX0_add 5 = .ok (.istore 4, 2) := by decide +kernel
theorem dX0_add_7 : decode cX0_add 7 = .ok (.aload_n 0, 1) := by decide +kernel
theorem dX0_add_8 : decode cX0_add 8 = .ok (.iload 4, 2) := by decide +kernel
theorem dX0_add_10 : decode cX0_add 10 = .ok (.iconst 1, 1) := by decide +kernel
theorem dX0_add_11 : decode cX0_add 11 = .ok (.isub, 1) := by decide +kernel
theorem dX0_add_12 : decode cX0_add 12 = .ok (.aload_n 1, 1) := by decide +kernel
theorem dX0_add_13 : decode cX0_add 13 = .ok (.invokevirtual 32, 3) := by decide +kernel
theorem dX0_add_16 : decode cX0_add 16 = .ok (.ifCond .eq 24, 3) := by decide +kernel
theorem dX0_add_19 : decode cX0_add 19 = .ok (.aload_n 0, 1) := by decide +kernel
theorem dX0_add_20 : decode cX0_add 20 = .ok (.iload 4, 2) := by decide +kernel
theorem dX0_add_22 : decode cX0_add 22 = .ok (.iconst 1, 1) := by decide +kernel
theorem dX0_add_23 : decode cX0_add 23 = .ok (.isub, 1) := by decide +kernel
theorem dX0_add_24 : decode cX0_add 24 = .ok (.aload_n 0, 1) := by decide +kernel
theorem dX0_add_25 : decode cX0_add 25 = .ok (.getfield 15, 3) := by decide +kernel
theorem dX0_add_28 : decode cX0_add 28 = .ok (.iload 4, 2) := by decide +kernel
theorem dX0_add_30 : decode cX0_add 30 = .ok (.iconst 1, 1) := by decide +kernel
theorem dX0_add_31 : decode cX0_add 31 = .ok (.isub, 1) := by decide +kernel
theorem dX0_add_32 : decode cX0_add 32 = .ok (.iaload, 1) := by decide +kernel
theorem dX0_add_33 : decode cX0_add 33 = .ok (.i2l, 1) := by decide +kernel
theorem dX0_add_34 : decode cX0_add 34 = .ok (.lload_n 2, 1) := by decide +kernel
theorem dX0_add_35 : decode cX0_add 35 = .ok (.ladd, 1) := by decide +kernel
theorem dX0_add_36 : decode cX0_add 36 = .ok (.invokevirtual 36, 3) := by decide +kernel
theorem dX0_add_39 : decode cX0_add 39 = .ok (.ireturn, 1) := by decide +kernel
theorem dX0_add_40 : decode cX0_add 40 = .ok (.lload_n 2, 1) := by decide +kernel
theorem dX0_add_41 : decode cX0_add 41 = .ok (.lconst 0, 1) := by decide +kernel
theorem dX0_add_42 : decode cX0_add 42 = .ok (.lcmp, 1) := by decide +kernel
theorem dX0_add_43 : decode cX0_add 43 = .ok (.ifCond .le 14, 3) := by decide +kernel
theorem dX0_add_46 : decode cX0_add 46 = .ok (.aload_n 0, 1) := by decide +kernel
theorem dX0_add_47 : decode cX0_add 47 = .ok (.iload 4, 2) := by decide +kernel
theorem dX0_add_49 : decode cX0_add 49 = .ok (.aload_n 1, 1) := by decide +kernel
theorem dX0_add_50 : decode cX0_add 50 = .ok (.lload_n 2, 1) := by decide +kernel
theorem dX0_add_51 : decode cX0_add 51 = .ok (.invokevirtual 40, 3) := by decide +kernel
theorem dX0_add_54 : decode cX0_add 54 = .ok (.ifCond .eq 7, 3) := by decide +kernel
theorem dX0_add_57 : decode cX0_add 57 = .ok (.iconst 1, 1) := by decide +kernel
theorem dX0_add_58 : decode cX0_add 58 = .ok (.goto 4, 3) := by decide +kernel
theorem dX0_add_61 : decode cX0_add 61 = .ok (.iconst 0, 1) := by decide +kernel
theorem dX0_add_62 : decode cX0_add 62 = .ok (.ireturn, 1) := by decide +kernel
theorem dX0_countDifferent_0 : decode cX0_countDifferent 0 = .ok (.iconst 0, 1) := by decide +kernel
theorem dX0_countDifferent_1 : decode cX0_countDifferent 1 = .ok (.istore_n 2, 1) := by decide +kernel
theorem dX0_countDifferent_2 : decode cX0_countDifferent 2 = .ok (.iconst 0, 1) := by decide +kernel
theorem dX0_countDifferent_3 : decode cX0_countDifferent 3 = .ok (.istore_n 3, 1) := by decide +kernel
theorem dX0_countDifferent_4 : decode cX0_countDifferent 4 = .ok (.iconst 0, 1) := by decide +kernel
theorem dX0_countDifferent_5 : decode cX0_countDifferent 5 = .ok (.istore 4, 2) := by decide +kernel
theorem dX0_countDifferent_7 : decode cX0_countDifferent 7 = .ok (.iload_n 3, 1) := by decide +kernel
theorem dX0_countDifferent_8 : decode cX0_countDifferent 8 = .ok (.aload_n 0, 1) := by decide +kernel
theorem dX0_countDifferent_9 : decode cX0_countDifferent 9 = .ok (.getfield 18, 3) := by decide +kernel
theorem dX0_countDifferent_12 : decode cX0_countDifferent 12 = .ok (.if_icmp .ge 70, 3) := by decide +kernel
theorem dX0_countDifferent_15 : decode cX0_countDifferent 15 = .ok (.iload 4, 2) := by decide +kernel
theorem dX0_countDifferent_17 : decode cX0_countDifferent 17 = .ok (.aload_n 1, 1) := by decide +kernel
theorem dX0_countDifferent_18 : decode cX0_countDifferent 18 = .ok (.getfield 18, 3) := by decide +kernel
theorem dX0_countDifferent_21 : decode cX0_countDifferent 21 = .ok (.if_icmp .ge 61, 3) := by decide +kernel
theorem dX0_countDifferent_24 : decode cX0_countDifferent 24 = .ok (.aload_n 0, 1) := by decide +kernel
theorem dX0_countDifferent_25 : decode cX0_countDifferent 25 = .ok (.iload_n 3, 1) := by decide +kernel
theorem dX0_countDifferent_26 : decode cX0_countDifferent 26 = .ok (.aload_n 1, 1) := by decide +kernel
theorem dX0_countDifferent_27 : decode cX0_countDifferent 27 = .ok (.getfield 9, 3) := by decide +kernel
theorem dX0_countDifferent_30 : decode cX0_countDifferent 30 = .ok (.iload 4, 2) := by decide +kernel
theorem dX0_countDifferent_32 : decode cX0_countDifferent 32 = .ok (.iconst 4, 1) := by decide +kernel
theorem dX0_countDifferent_33 : decode cX0_countDifferent 33 = .ok (.imul, 1) := by decide +kernel
theorem dX0_countDifferent_34 : decode cX0_countDifferent 34 = .ok (.invokevirtual 44, 3) := by decide +kernel
theorem dX0_countDifferent_37 : decode cX0_countDifferent 37 = .ok (.istore 5, 2) := by decide +kernel
theorem dX0_countDifferent_39 : decode cX0_countDifferent 39 = .ok (.iload 5, 2) := by decide +kernel
theorem dX0_countDifferent_41 : decode cX0_countDifferent 41 = .ok (.ifCond .ne 19, 3) := by decide +kernel
theorem dX0_countDifferent_44 : decode cX0_countDifferent 44 = .ok (.aload_n 0, 1) := by decide +kernel
theorem dX0_countDifferent_45 : decode cX0_countDifferent 45 = .ok (.getfield 15, 3) := by decide +kernel
theorem dX0_countDifferent_48 : decode cX0_countDifferent 48 = .ok (.iload_n 3, 1) := by decide +kernel
theorem dX0_countDifferent_49 : decode cX0_countDifferent 49 = .ok (.iaload, 1) := by decide +kernel
theorem dX0_countDifferent_50 : decode cX0_countDifferent 50 = .ok (.aload_n 1, 1) := by decide +kernel
theorem dX0_countDifferent_51 : decode cX0_countDifferent 51 = .ok (.getfield 15, 3) := by decide +kernel
theorem dX0_countDifferent_54 : decode cX0_countDifferent 54 = .ok (.iload 4, 2) := by decide +kernel
theorem dX0_countDifferent_56 : decode cX0_countDifferent 56 = .ok (.iaload, 1) := by decide +kernel
theorem dX0_countDifferent_57 : decode cX0_countDifferent 57 = .ok (.if_icmp .eq 6, 3) := by decide +kernel
theorem dX0_countDifferent_60 : decode cX0_countDifferent 60 = .ok (.iinc 2 1, 3) := by decide +kernel
theorem dX0_countDifferent_63 : decode cX0_countDifferent 63 = .ok (.iload 5, 2) := by decide +kernel
theorem dX0_countDifferent_65 : decode cX0_countDifferent 65 = .ok (.ifCond .gt 6, 3) := by decide +kernel
theorem dX0_countDifferent_68 : decode cX0_countDifferent 68 = .ok (.iinc 3 1, 3) := by decide +kernel
theorem dX0_countDifferent_71 : decode cX0_countDifferent 71 = .ok (.iload 5, 2) := by decide +kernel
theorem dX0_countDifferent_73 : decode cX0_countDifferent 73 = .ok (.ifCond .lt 6, 3) := by decide +kernel
theorem dX0_countDifferent_76 : decode cX0_countDifferent 76 = .ok (.iinc 4 1, 3) := by decide +kernel
theorem dX0_countDifferent_79 : decode cX0_countDifferent 79 = .ok (.goto (-72), 3) := by decide +kernel
theorem dX0_countDifferent_82 : decode cX0_countDifferent 82 = .ok (.iload_n 2, 1) := by decide +kernel
theorem dX0_countDifferent_83 : decode cX0_countDifferent 83 = .ok (.aload_n 0, 1) := by decide +kernel
theorem dX0_countDifferent_84 : decode cX0_countDifferent 84 = .ok (.getfield 18, 3) := by decide +kernel
theorem dX0_countDifferent_87 : decode cX0_countDifferent 87 = .ok (.iload_n 3, 1) := by decide +kernel
theorem dX0_countDifferent_88 : decode cX0_countDifferent 88 = .ok (.isub, 1) := by decide +kernel
theorem dX0_countDifferent_89 : decode cX0_countDifferent 89 = .ok (.iadd, 1) := by decide +kernel
theorem dX0_countDifferent_90 : decode cX0_countDifferent 90 = .ok (.aload_n 1, 1) := by decide +kernel
theorem dX0_countDifferent_91 : decode cX0_countDifferent 91 = .ok (.getfield 18, 3) := by decide +kernel
theorem dX0_countDifferent_94 : decode cX0_countDifferent 94 = .ok (.iload 4, 2) := by decide +kernel
theorem dX0_countDifferent_96 : decode cX0_countDifferent 96 = .ok (.isub, 1) := by decide +kernel
theorem dX0_countDifferent_97 : decode cX0_countDifferent 97 = .ok (.iadd, 1) := by decide +kernel
theorem dX0_countDifferent_98 : decode cX0_countDifferent 98 = .ok (.ireturn, 1) := by decide +kernel
theorem dX0_placeBehind_0 : decode cX0_placeBehind 0 = .ok (.aload_n 0, 1) := by decide +kernel
theorem dX0_placeBehind_1 : decode cX0_placeBehind 1 = .ok (.getfield 18, 3) := by decide +kernel
theorem dX0_placeBehind_4 : decode cX0_placeBehind 4 = .ok (.istore_n 2, 1) := by decide +kernel
theorem dX0_placeBehind_5 : decode cX0_placeBehind 5 = .ok (.iload_n 2, 1) := by decide +kernel
theorem dX0_placeBehind_6 : decode cX0_placeBehind 6 = .ok (.ifCond .le 21, 3) := by decide +kernel
theorem dX0_placeBehind_9 : decode cX0_placeBehind 9 = .ok (.aload_n 0, 1) := by decide +kernel
theorem dX0_placeBehind_10 : decode cX0_placeBehind 10 = .ok (.iload_n 2, 1) := by decide +kernel
theorem dX0_placeBehind_11 : decode cX0_placeBehind 11 = .ok (.iconst 1, 1) := by decide +kernel
theorem dX0_placeBehind_12 : decode cX0_placeBehind 12 = .ok (.isub, 1) := by decide +kernel
theorem dX0_placeBehind_13 : decode cX0_placeBehind 13 = .ok (.aload_n 1, 1) := by decide +kernel
theorem dX0_placeBehind_14 : decode cX0_placeBehind 14 = .ok (.iconst 0, 1) := by decide +kernel
theorem dX0_placeBehind_15 : decode cX0_placeBehind 15 = .ok (.invokevirtual 44, 3) := by decide +kernel
theorem dX0_placeBehind_18 : decode cX0_placeBehind 18 = .ok (.ifCond .le 9, 3) := by decide +kernel
theorem dX0_placeBehind_21 : decode cX0_placeBehind 21 = .ok (.iinc 2 (-1), 3) := by decide +kernel
theorem dX0_placeBehind_24 : decode cX0_placeBehind 24 = .ok (.goto (-19), 3) := by decide +kernel
theorem dX0_placeBehind_27 : decode cX0_placeBehind 27 = .ok (.iload_n 2, 1) := by decide +kernel
theorem dX0_placeBehind_28 : decode cX0_placeBehind 28 = .ok (.ireturn, 1) := by decide +kernel
theorem dX0_isAt_0 : decode cX0_isAt 0 = .ok (.iload_n 1, 1) := by decide +kernel
theorem dX0_isAt_1 : decode cX0_isAt 1 = .ok (.ifCond .lt 17, 3) := by decide +kernel
theorem dX0_isAt_4 : decode cX0_isAt 4 = .ok (.aload_n 0, 1) := by decide +kernel
theorem dX0_isAt_5 : decode cX0_isAt 5 = .ok (.iload_n 1, 1) := by decide +kernel
theorem dX0_isAt_6 : decode cX0_isAt 6 = .ok (.aload_n 2, 1) := by decide +kernel
theorem dX0_isAt_7 : decode cX0_isAt 7 = .ok (.iconst 0, 1) := by decide +kernel
theorem dX0_isAt_8 : decode cX0_isAt 8 = .ok (.invokevirtual 44, 3) := by decide +kernel
theorem dX0_isAt_11 : decode cX0_isAt 11 = .ok (.ifCond .ne 7, 3) := by decide +kernel
theorem dX0_isAt_14 : decode cX0_isAt 14 = .ok (.iconst 1, 1) := by decide +kernel
theorem dX0_isAt_15 : decode cX0_isAt 15 = .ok (.goto 4, 3) := by decide +kernel
theorem dX0_isAt_18 : decode cX0_isAt 18 = .ok (.iconst 0, 1) := by decide +kernel
theorem dX0_isAt_19 : decode cX0_isAt 19 = .ok (.ireturn, 1) := by decide +kernel
theorem dX0_compareRow_0 : decode cX0_compareRow 0 = .ok (.iconst 0, 1) := by decide +kernel
theorem dX0_compareRow_1 : decode cX0_compareRow 1 = .ok (.istore 4, 2) := by decide +kernel
theorem dX0_compareRow_3 : decode cX0_compareRow 3 = .ok (.iload 4, 2) := by decide +kernel
theorem dX0_compareRow_5 : decode cX0_compareRow 5 = .ok (.iconst 4, 1) := by decide +kernel
theorem dX0_compareRow_6 : decode cX0_compareRow 6 = .ok (.if_icmp .ge 50, 3) := by decide +kernel
theorem dX0_compareRow_9 : decode cX0_compareRow 9 = .ok (.aload_n 0, 1) := by decide +kernel
theorem dX0_compareRow_10 : decode cX0_compareRow 10 = .ok (.getfield 9, 3) := by decide +kernel
theorem dX0_compareRow_13 : decode cX0_compareRow 13 = .ok (.iload_n 1, 1) := by decide +kernel
theorem dX0_compareRow_14 : decode cX0_compareRow 14 = .ok (.iconst 4, 1) := by decide +kernel
theorem dX0_compareRow_15 : decode cX0_compareRow 15 = .ok (.imul, 1) := by decide +kernel
theorem dX0_compareRow_16 : decode cX0_compareRow 16 = .ok (.iload 4, 2) := by decide +kernel
theorem dX0_compareRow_18 : decode cX0_compareRow 18 = .ok (.iadd, 1) := by decide +kernel
theorem dX0_compareRow_19 : decode cX0_compareRow 19 = .ok (.iaload, 1) := by decide +kernel
theorem dX0_compareRow_20 : decode cX0_compareRow 20 = .ok (.istore 5, 2) := by decide +kernel
theorem dX0_compareRow_22 : decode cX0_compareRow 22 = .ok (.aload_n 2, 1) := by decide +kernel
theorem dX0_compareRow_23 : decode cX0_compareRow 23 = .ok (.iload_n 3, 1) := by decide +kernel
theorem dX0_compareRow_24 : decode cX0_compareRow 24 = .ok (.iload 4, 2) := by decide +kernel
theorem dX0_compareRow_26 : decode cX0_compareRow 26 = .ok (.iadd, 1) := by decide +kernel
theorem dX0_compareRow_27 : decode cX0_compareRow 27 = .ok (.iaload, 1) := by decide +kernel
theorem dX0_compareRow_28 : decode cX0_compareRow 28 = .ok (.istore 6, 2) := by decide +kernel
theorem dX0_compareRow_30 : decode cX0_compareRow 30 = .ok (.iload 5, 2) := by decide +kernel
theorem dX0_compareRow_32 : decode cX0_compareRow 32 = .ok (.iload 6, 2) := by decide +kernel
theorem dX0_compareRow_34 : decode cX0_compareRow 34 = .ok (.if_icmp .eq 16, 3) := by decide +kernel
theorem dX0_compareRow_37 : decode cX0_compareRow 37 = .ok (.iload 5, 2) := by decide +kernel
theorem dX0_compareRow_39 : decode cX0_compareRow 39 = .ok (.iload 6, 2) := by decide +kernel
theorem dX0_compareRow_41 : decode cX0_compareRow 41 = .ok (.if_icmp .ge 7, 3) := by decide +kernel
theorem dX0_compareRow_44 : decode cX0_compareRow 44 = .ok (.iconst (-1), 1) := by decide +kernel
theorem dX0_compareRow_45 : decode cX0_compareRow 45 = .ok (.goto 4, 3) := by decide +kernel
theorem dX0_compareRow_48 : decode cX0_compareRow 48 = .ok (.iconst 1, 1) := by decide +kernel
theorem dX0_compareRow_49 : decode cX0_compareRow 49 = .ok (.ireturn, 1) := by decide +kernel
theorem dX0_compareRow_50 : decode cX0_compareRow 50 = .ok (.iinc 4 1, 3) := by decide +kernel
theorem dX0_compareRow_53 : decode cX0_compareRow 53 = .ok (.goto (-50), 3) := by decide +kernel
theorem dX0_compareRow_56 : decode cX0_compareRow 56 = .ok (.iconst 0, 1) := by decide +kernel
theorem dX0_compareRow_57 : decode cX0_compareRow 57 = .ok (.ireturn, 1) := by decide +kernel
theorem dX0_setTimes_0 : decode cX0_setTimes 0 = .ok (.lload_n 2, 1) := by decide +kernel
theorem dX0_setTimes_1 : decode cX0_setTimes 1 = .ok (.ldc2_w 48, 3) := by decide +kernel
theorem dX0_setTimes_4 : decode cX0_setTimes 4 = .ok (.lcmp, 1) := by decide +kernel
theorem dX0_setTimes_5 : decode cX0_setTimes 5 = .ok (.ifCond .le 5, 3) := by decide +kernel
theorem dX0_setTimes_8 : decode cX0_setTimes 8 = .ok (.iconst 0, 1) := by decide +kernel
theorem dX0_setTimes_9 : decode cX0_setTimes 9 = .ok (.ireturn, 1) := by decide +kernel
theorem dX0_setTimes_10 : decode cX0_setTimes 10 = .ok (.lload_n 2, 1) := by decide +kernel
theorem dX0_setTimes_11 : decode cX0_setTimes 11 = .ok (.lconst 0, 1) := by decide +kernel
theorem dX0_setTimes_12 : decode cX0_setTimes 12 = .ok (.lcmp, 1) := by decide +kernel
theorem dX0_setTimes_13 : decode cX0_setTimes 13 = .ok (.ifCond .gt 11, 3) := by decide +kernel
theorem dX0_setTimes_16 : decode cX0_setTimes 16 = .ok (.aload_n 0, 1) := by decide +kernel
theorem dX0_setTimes_17 : decode cX0_setTimes 17 = .ok (.iload_n 1, 1) := by decide +kernel
theorem dX0_setTimes_18 : decode cX0_setTimes 18 = .ok (.invokevirtual 50, 3) := by decide +kernel
theorem dX0_setTimes_21 : decode cX0_setTimes 21 = .ok (.goto 11, 3) := by decide +kernel
theorem dX0_setTimes_24 : decode cX0_setTimes 24 = .ok (.aload_n 0, 1) := by decide +kernel
theorem dX0_setTimes_25 : decode cX0_setTimes 25 = .ok (.getfield 15, 3) := by decide +kernel
theorem dX0_setTimes_28 : decode cX0_setTimes 28 = .ok (.iload_n 1, 1) := by decide +kernel
theorem dX0_setTimes_29 : decode cX0_setTimes 29 = .ok (.lload_n 2, 1) := by decide +kernel
theorem dX0_setTimes_30 : decode cX0_setTimes 30 = .ok (.l2i, 1) := by decide +kernel
theorem dX0_setTimes_31 : decode cX0_setTimes 31 = .ok (.iastore, 1) := by decide +kernel
theorem dX0_setTimes_32 : decode cX0_setTimes 32 = .ok (.iconst 1, 1) := by decide +kernel
theorem dX0_setTimes_33 : decode cX0_setTimes 33 = .ok (.ireturn, 1) := by decide +kernel
theorem dX0_insert_0 : decode cX0_insert 0 = .ok (.aload_n 0, 1) := by decide +kernel
theorem dX0_insert_1 : decode cX0_insert 1 = .ok (.getfield 18, 3) := by decide +kernel
theorem dX0_insert_4 : decode cX0_insert 4 = .ok (.bipush 20, 2) := by decide +kernel
theorem dX0_insert_6 : decode cX0_insert 6 = .ok (.if_icmp .ge 11, 3) := by decide +kernel
theorem dX0_insert_9 : decode cX0_insert 9 = .ok (.lload_n 3, 1) := by decide +kernel
theorem dX0_insert_10 : decode cX0_insert 10 = .ok (.ldc2_w 48, 3) := by decide +kernel
theorem dX0_insert_13 : decode cX0_insert 13 = .ok (.lcmp, 1) := by decide +kernel
theorem dX0_insert_14 : decode cX0_insert 14 = .ok (.ifCond .le 5, 3) := by decide +kernel
theorem dX0_insert_17 : decode cX0_insert 17 = .ok (.iconst 0, 1) := by decide +kernel
theorem dX0_insert_18 : decode cX0_insert 18 = .ok (.ireturn, 1) := by decide +kernel
theorem dX0_insert_19 : decode cX0_insert 19 = .ok (.aload_n 0, 1) := by decide +kernel
theorem dX0_insert_20 : decode cX0_insert 20 = .ok (.getfield 18, 3) := by decide +kernel
theorem dX0_insert_23 : decode cX0_insert 23 = .ok (.iload_n 1, 1) := by decide +kernel
theorem dX0_insert_24 : decode cX0_insert 24 = .ok (.isub, 1) := by decide +kernel
theorem dX0_insert_25 : decode cX0_insert 25 = .ok (.istore 5, 2) := by decide +kernel
theorem dX0_insert_27 : decode cX0_insert 27 = .ok (.iload_n 1, 1) := by decide +kernel
theorem dX0_insert_28 : decode cX0_insert 28 = .ok (.iconst 4, 1) := by decide +kernel
theorem dX0_insert_29 : decode cX0_insert 29 = .ok (.imul, 1) := by decide +kernel
theorem dX0_insert_30 : decode cX0_insert 30 = .ok (.istore 6, 2) := by decide +kernel
theorem dX0_insert_32 : decode cX0_insert 32 = .ok (.aload_n 0, 1) := by decide +kernel
theorem dX0_insert_33 : decode cX0_insert 33 = .ok (.getfield 9, 3) := by decide +kernel
theorem dX0_insert_36 : decode cX0_insert 36 = .ok (.iload 6, 2) := by decide +kernel
theorem dX0_insert_38 : decode cX0_insert 38 = .ok (.aload_n 0, 1) := by decide +kernel
theorem dX0_insert_39 : decode cX0_insert 39 = .ok (.getfield 9, 3) := by decide +kernel
theorem dX0_insert_42 : decode cX0_insert 42 = .ok (.iload 6, 2) := by decide +kernel
theorem dX0_insert_44 : decode cX0_insert 44 = .ok (.iconst 4, 1) := by decide +kernel
theorem dX0_insert_45 : decode cX0_insert 45 = .ok (.iadd, 1) := by decide +kernel
theorem dX0_insert_46 : decode cX0_insert 46 = .ok (.iload 5, 2) := by decide +kernel
theorem dX0_insert_48 : decode cX0_insert 48 = .ok (.iconst 4, 1) := by decide +kernel
theorem dX0_insert_49 : decode cX0_insert 49 = .ok (.imul, 1) := by decide +kernel
theorem dX0_insert_50 : decode cX0_insert 50 = .ok (.invokestatic 22, 3) := by decide +kernel
theorem dX0_insert_53 : decode cX0_insert 53 = .ok (.aload_n 0, 1) := by decide +kernel
theorem dX0_insert_54 : decode cX0_insert 54 = .ok (.getfield 15, 3) := by decide +kernel
theorem dX0_insert_57 : decode cX0_insert 57 = .ok (.iload_n 1, 1) := by decide +kernel
theorem dX0_insert_58 : decode cX0_insert 58 = .ok (.aload_n 0, 1) := by decide +kernel
theorem dX0_insert_59 : decode cX0_insert 59 = .ok (.getfield 15, 3) := by decide +kernel
theorem dX0_insert_62 : decode cX0_insert 62 = .ok (.iload_n 1, 1) := by decide +kernel
theorem dX0_insert_63 : decode cX0_insert 63 = .ok (.iconst 1, 1) := by decide +kernel
theorem dX0_insert_64 : decode cX0_insert 64 = .ok (.iadd, 1) := by decide +kernel
theorem dX0_insert_65 : decode cX0_insert 65 = .ok (.iload 5, 2) := by decide +kernel
theorem dX0_insert_67 : decode cX0_insert 67 = .ok (.invokestatic 22, 3) := by decide +kernel
theorem dX0_insert_70 : decode cX0_insert 70 = .ok (.aload_n 2, 1) := by decide +kernel
theorem dX0_insert_71 : decode cX0_insert 71 = .ok (.iconst 0, 1) := by decide +kernel
theorem dX0_insert_72 : decode cX0_insert 72 = .ok (.aload_n 0, 1) := by decide +kernel
theorem dX0_insert_73 : decode cX0_insert 73 = .ok (.getfield 9, 3) := by decide +kernel
theorem dX0_insert_76 : decode cX0_insert 76 = .ok (.iload 6, 2) := by decide +kernel
theorem dX0_insert_78 : decode cX0_insert 78 = .ok (.iconst 4, 1) := by decide +kernel
theorem dX0_insert_79 : decode cX0_insert 79 = .ok (.invokestatic 22, 3) := by decide +kernel
theorem dX0_insert_82 : decode cX0_insert 82 = .ok (.aload_n 0, 1) := by decide +kernel
theorem dX0_insert_83 : decode cX0_insert 83 = .ok (.getfield 15, 3) := by decide +kernel
theorem dX0_insert_86 : decode cX0_insert 86 = .ok (.iload_n 1, 1) := by decide +kernel
theorem dX0_insert_87 : decode cX0_insert 87 = .ok (.lload_n 3, 1) := by decide +kernel
theorem dX0_insert_88 : decode cX0_insert 88 = .ok (.l2i, 1) := by decide +kernel
theorem dX0_insert_89 : decode cX0_insert 89 = .ok (.iastore, 1) := by decide +kernel
theorem dX0_insert_90 : decode cX0_insert 90 = .ok (.aload_n 0, 1) := by decide +kernel
theorem dX0_insert_91 : decode cX0_insert 91 = .ok (.dup, 1) := by decide +kernel
theorem dX0_insert_92 : decode cX0_insert 92 = .ok (.getfield 18, 3) := by decide +kernel
theorem dX0_insert_95 : decode cX0_insert 95 = .ok (.iconst 1, 1) := by decide +kernel
theorem dX0_insert_96 : decode cX0_insert 96 = .ok (.iadd, 1) := by decide +kernel
theorem dX0_insert_97 : decode cX0_insert 97 = .ok (.putfield 18, 3) := by decide +kernel
theorem dX0_insert_100 : decode cX0_insert 100 = .ok (.iconst 1, 1) := by decide +kernel
theorem dX0_insert_101 : decode cX0_insert 101 = .ok (.ireturn, 1) := by decide +kernel
theorem dX0_remove_0 : decode cX0_remove 0 = .ok (.aload_n 0, 1) := by decide +kernel
theorem dX0_remove_1 : decode cX0_remove 1 = .ok (.getfield 18, 3) := by decide +kernel
theorem dX0_remove_4 : decode cX0_remove 4 = .ok (.iload_n 1, 1) := by decide +kernel
theorem dX0_remove_5 : decode cX0_remove 5 = .ok (.isub, 1) := by decide +kernel
theorem dX0_remove_6 : decode cX0_remove 6 = .ok (.iconst 1, 1) := by decide +kernel
theorem dX0_remove_7 : decode cX0_remove 7 = .ok (.isub, 1) := by decide +kernel
theorem dX0_remove_8 : decode cX0_remove 8 = .ok (.istore_n 2, 1) := by decide +kernel
theorem dX0_remove_9 : decode cX0_remove 9 = .ok (.iload_n 1, 1) := by decide +kernel
theorem dX0_remove_10 : decode cX0_remove 10 = .ok (.iconst 4, 1) := by decide +kernel
theorem dX0_remove_11 : decode cX0_remove 11 = .ok (.imul, 1) := by decide +kernel
theorem dX0_remove_12 : decode cX0_remove 12 = .ok (.istore_n 3, 1) := by decide +kernel
theorem dX0_remove_13 : decode cX0_remove 13 = .ok (.aload_n 0, 1) := by decide +kernel
theorem dX0_remove_14 : decode cX0_remove 14 = .ok (.getfield 9, 3) := by decide +kernel
theorem dX0_remove_17 : decode cX0_remove 17 = .ok (.iload_n 3, 1) := by decide +kernel
theorem dX0_remove_18 : decode cX0_remove 18 = .ok (.iconst 4, 1) := by decide +kernel
theorem dX0_remove_19 : decode cX0_remove 19 = .ok (.iadd, 1) := by decide +kernel
theorem dX0_remove_20 : decode cX0_remove 20 = .ok (.aload_n 0, 1) := by decide +kernel
theorem dX0_remove_21 : decode cX0_remove 21 = .ok (.getfield 9, 3) := by decide +kernel
theorem dX0_remove_24 : decode cX0_remove 24 = .ok (.iload_n 3, 1) := by decide +kernel
theorem dX0_remove_25 : decode cX0_remove 25 = .ok (.iload_n 2, 1) := by decide +kernel
theorem dX0_remove_26 : decode cX0_remove 26 = .ok (.iconst 4, 1) := by decide +kernel
theorem dX0_remove_27 : decode cX0_remove 27 = .ok (.imul, 1) := by decide +kernel
theorem dX0_remove_28 : decode cX0_remove 28 = .ok (.invokestatic 22, 3) := by decide +kernel
theorem dX0_remove_31 : decode cX0_remove 31 = .ok (.aload_n 0, 1) := by decide +kernel
theorem dX0_remove_32 : decode cX0_remove 32 = .ok (.getfield 15, 3) := by decide +kernel
theorem dX0_remove_35 : decode cX0_remove 35 = .ok (.iload_n 1, 1) := by decide +kernel
theorem dX0_remove_36 : decode cX0_remove 36 = .ok (.iconst 1, 1) := by decide +kernel
theorem dX0_remove_37 : decode cX0_remove 37 = .ok (.iadd, 1) := by decide +kernel
theorem dX0_remove_38 : decode cX0_remove 38 = .ok (.aload_n 0, 1) := by decide +kernel
theorem dX0_remove_39 : decode cX0_remove 39 = .ok (.getfield 15, 3) := by decide +kernel
theorem dX0_remove_42 : decode cX0_remove 42 = .ok (.iload_n 1, 1) := by decide +kernel
theorem dX0_remove_43 : decode cX0_remove 43 = .ok (.iload_n 2, 1) := by decide +kernel
theorem dX0_remove_44 : decode cX0_remove 44 = .ok (.invokestatic 22, 3) := by decide +kernel
theorem dX0_remove_47 : decode cX0_remove 47 = .ok (.aload_n 0, 1) := by decide +kernel
theorem dX0_remove_48 : decode cX0_remove 48 = .ok (.dup, 1) := by decide +kernel
theorem dX0_remove_49 : decode cX0_remove 49 = .ok (.getfield 18, 3) := by decide +kernel
theorem dX0_remove_52 : decode cX0_remove 52 = .ok (.iconst 1, 1) := by decide +kernel
theorem dX0_remove_53 : decode cX0_remove 53 = .ok (.isub, 1) := by decide +kernel
theorem dX0_remove_54 : decode cX0_remove 54 = .ok (.putfield 18, 3) := by decide +kernel
theorem dX0_remove_57 : decode cX0_remove 57 = .ok (.return_, 1) := by decide +kernel
theorem dX6_init_0 : decode cX6_init 0 = .ok (.aload_n 0, 1) := by decide +kernel
theorem dX6_init_1 : decode cX6_init 1 = .ok (.invokespecial 1, 3) := by decide +kernel
theorem dX6_init_4 : decode cX6_init 4 = .ok (.aload_n 0, 1) := by decide +kernel
theorem dX6_init_5 : decode cX6_init 5 = .ok (.new 7, 3) := by decide +kernel
theorem dX6_init_8 : decode cX6_init 8 = .ok (.dup, 1) := by decide +kernel
theorem dX6_init_9 : decode cX6_init 9 = .ok (.invokespecial 9, 3) := by decide +kernel
theorem dX6_init_12 : decode cX6_init 12 = .ok (.putfield 10, 3) := by decide +kernel
theorem dX6_init_15 : decode cX6_init 15 = .ok (.aload_n 0, 1) := by decide +kernel
theorem dX6_init_16 : decode cX6_init 16 = .ok (.new 7, 3) := by decide +kernel
theorem dX6_init_19 : decode cX6_init 19 = .ok (.dup, 1) := by decide +kernel
theorem dX6_init_20 : decode cX6_init 20 = .ok (.invokespecial 9, 3) := by decide +kernel
theorem dX6_init_23 : decode cX6_init 23 = .ok (.putfield 16, 3) := by decide +kernel
theorem dX6_init_26 : decode cX6_init 26 = .ok (.aload_n 0, 1) := by decide +kernel
theorem dX6_init_27 : decode cX6_init 27 = .ok (.aconst_null, 1) := by decide +kernel
theorem dX6_init_28 : decode cX6_init 28 = .ok (.putfield 19, 3) := by decide +kernel
theorem dX6_init_31 : decode cX6_init 31 = .ok (.aload_n 0, 1) := by decide +kernel
theorem dX6_init_32 : decode cX6_init 32 = .ok (.iconst 0, 1) := by decide +kernel
theorem dX6_init_33 : decode cX6_init 33 = .ok (.putfield 23, 3) := by decide +kernel
theorem dX6_init_36 : decode cX6_init 36 = .ok (.aload_n 0, 1) := by decide +kernel
theorem dX6_init_37 : decode cX6_init 37 = .ok (.iconst 0, 1) := by decide +kernel
theorem dX6_init_38 : decode cX6_init 38 = .ok (.putfield 27, 3) := by decide +kernel
theorem dX6_init_41 : decode cX6_init 41 = .ok (.aload_n 0, 1) := by decide +kernel
theorem dX6_init_42 : decode cX6_init 42 = .ok (.iconst 0, 1) := by decide +kernel
theorem dX6_init_43 : decode cX6_init 43 = .ok (.putfield 30, 3) := by decide +kernel
theorem dX6_init_46 : decode cX6_init 46 = .ok (.return_, 1) := by decide +kernel
theorem dX6_begin_0 : decode cX6_begin 0 = .ok (.aload_n 0, 1) := by decide +kernel
theorem dX6_begin_1 : decode cX6_begin 1 = .ok (.iload_n 1, 1) := by decide +kernel
theorem dX6_begin_2 : decode cX6_begin 2 = .ok (.putfield 23, 3) := by decide +kernel
theorem dX6_begin_5 : decode cX6_begin 5 = .ok (.aload_n 0, 1) := by decide +kernel
theorem dX6_begin_6 : decode cX6_begin 6 = .ok (.aload_n 2, 1) := by decide +kernel
theorem dX6_begin_7 : decode cX6_begin 7 = .ok (.putfield 19, 3) := by decide +kernel
theorem dX6_begin_10 : decode cX6_begin 10 = .ok (.aload_n 0, 1) := by decide +kernel
theorem dX6_begin_11 : decode cX6_begin 11 = .ok (.iconst 0, 1) := by decide +kernel
theorem dX6_begin_12 : decode cX6_begin 12 = .ok (.putfield 30, 3) := by decide +kernel
theorem dX6_begin_15 : decode cX6_begin 15 = .ok (.return_, 1) := by decide +kernel
theorem dX6_end_0 : decode cX6_end 0 = .ok (.aload_n 0, 1) := by decide +kernel
theorem dX6_end_1 : decode cX6_end 1 = .ok (.iconst 0, 1) := by decide +kernel
theorem dX6_end_2 : decode cX6_end 2 = .ok (.putfield 23, 3) := by decide +kernel
theorem dX6_end_5 : decode cX6_end 5 = .ok (.aload_n 0, 1) := by decide +kernel
theorem dX6_end_6 : decode cX6_end 6 = .ok (.aconst_null, 1) := by decide +kernel
theorem dX6_end_7 : decode cX6_end 7 = .ok (.putfield 19, 3) := by decide +kernel
theorem dX6_end_10 : decode cX6_end 10 = .ok (.return_, 1) := by decide +kernel
theorem dX6_isThere_0 : decode cX6_isThere 0 = .ok (.aload_n 0, 1) := by decide +kernel
theorem dX6_isThere_1 : decode cX6_isThere 1 = .ok (.getfield 23, 3) := by decide +kernel
theorem dX6_isThere_4 : decode cX6_isThere 4 = .ok (.ifCond .le 7, 3) := by decide +kernel
theorem dX6_isThere_7 : decode cX6_isThere 7 = .ok (.iconst 1, 1) := by decide +kernel
theorem dX6_isThere_8 : decode cX6_isThere 8 = .ok (.goto 4, 3) := by decide +kernel
theorem dX6_isThere_11 : decode cX6_isThere 11 = .ok (.iconst 0, 1) := by decide +kernel
theorem dX6_isThere_12 : decode cX6_isThere 12 = .ok (.ireturn, 1) := by decide +kernel
theorem dX6_isOf_0 : decode cX6_isOf 0 = .ok (.aload_n 0, 1) := by decide +kernel
theorem dX6_isOf_1 : decode cX6_isOf 1 = .ok (.getfield 19, 3) := by decide +kernel
theorem dX6_isOf_4 : decode cX6_isOf 4 = .ok (.ifnull 29, 3) := by decide +kernel
theorem dX6_isOf_7 : decode cX6_isOf 7 = .ok (.aload_n 0, 1) := by decide +kernel
theorem dX6_isOf_8 : decode cX6_isOf 8 = .ok (.getfield 19, 3) := by decide +kernel
theorem dX6_isOf_11 : decode cX6_isOf 11 = .ok (.getfield 33, 3) := by decide +kernel
theorem dX6_isOf_14 : decode cX6_isOf 14 = .ok (.aload_n 1, 1) := by decide +kernel
theorem dX6_isOf_15 : decode cX6_isOf 15 = .ok (.if_acmp .eq 14, 3) := by decide +kernel
theorem dX6_isOf_18 : decode cX6_isOf 18 = .ok (.aload_n 0, 1) := by decide +kernel
theorem dX6_isOf_19 : decode cX6_isOf 19 = .ok (.getfield 19, 3) := by decide +kernel
theorem dX6_isOf_22 : decode cX6_isOf 22 = .ok (.getfield 39, 3) := by decide +kernel
theorem dX6_isOf_25 : decode cX6_isOf 25 = .ok (.aload_n 1, 1) := by decide +kernel
theorem dX6_isOf_26 : decode cX6_isOf 26 = .ok (.if_acmp .ne 7, 3) := by decide +kernel
theorem dX6_isOf_29 : decode cX6_isOf 29 = .ok (.iconst 1, 1) := by decide +kernel
theorem dX6_isOf_30 : decode cX6_isOf 30 = .ok (.goto 4, 3) := by decide +kernel
theorem dX6_isOf_33 : decode cX6_isOf 33 = .ok (.iconst 0, 1) := by decide +kernel
theorem dX6_isOf_34 : decode cX6_isOf 34 = .ok (.ireturn, 1) := by decide +kernel
theorem dX6_depth_0 : decode cX6_depth 0 = .ok (.aload_n 0, 1) := by decide +kernel
theorem dX6_depth_1 : decode cX6_depth 1 = .ok (.getfield 19, 3) := by decide +kernel
theorem dX6_depth_4 : decode cX6_depth 4 = .ok (.ifnonnull 7, 3) := by decide +kernel
theorem dX6_depth_7 : decode cX6_depth 7 = .ok (.iconst 0, 1) := by decide +kernel
theorem dX6_depth_8 : decode cX6_depth 8 = .ok (.goto 10, 3) := by decide +kernel
theorem dX6_depth_11 : decode cX6_depth 11 = .ok (.aload_n 0, 1) := by decide +kernel
theorem dX6_depth_12 : decode cX6_depth 12 = .ok (.getfield 19, 3) := by decide +kernel
theorem dX6_depth_15 : decode cX6_depth 15 = .ok (.getfield 42, 3) := by decide +kernel
theorem dX6_depth_18 : decode cX6_depth 18 = .ok (.ireturn, 1) := by decide +kernel
theorem dX6_latest_0 : decode cX6_latest 0 = .ok (.aload_n 0, 1) := by decide +kernel
theorem dX6_latest_1 : decode cX6_latest 1 = .ok (.getfield 27, 3) := by decide +kernel
theorem dX6_latest_4 : decode cX6_latest 4 = .ok (.ifCond .le 10, 3) := by decide +kernel
theorem dX6_latest_7 : decode cX6_latest 7 = .ok (.aload_n 0, 1) := by decide +kernel
theorem dX6_latest_8 : decode cX6_latest 8 = .ok (.getfield 16, 3) := by decide +kernel
theorem dX6_latest_11 : decode cX6_latest 11 = .ok (.goto 7, 3) := by decide +kernel
theorem dX6_latest_14 : decode cX6_latest 14 = .ok (.aload_n 0, 1) := by decide +kernel
theorem dX6_latest_15 : decode cX6_latest 15 = .ok (.getfield 10, 3) := by decide +kernel
theorem dX6_latest_18 : decode cX6_latest 18 = .ok (.areturn, 1) := by decide +kernel
theorem dX6_remake_0 : decode cX6_remake 0 = .ok (.aload_n 0, 1) := by decide +kernel
theorem dX6_remake_1 : decode cX6_remake 1 = .ok (.getfield 19, 3) := by decide +kernel
theorem dX6_remake_4 : decode cX6_remake 4 = .ok (.ifnull 13, 3) := by decide +kernel
theorem dX6_remake_7 : decode cX6_remake 7 = .ok (.aload_n 0, 1) := by decide +kernel
theorem dX6_remake_8 : decode cX6_remake 8 = .ok (.getfield 19, 3) := by decide +kernel
theorem dX6_remake_11 : decode cX6_remake 11 = .ok (.invokevirtual 45, 3) := by decide +kernel
theorem dX6_remake_14 : decode cX6_remake 14 = .ok (.ifCond .ne 5, 3) := by decide +kernel
theorem dX6_remake_17 : decode cX6_remake 17 = .ok (.iconst 1, 1) := by decide +kernel
theorem dX6_remake_18 : decode cX6_remake 18 = .ok (.ireturn, 1) := by decide +kernel
theorem dX6_remake_19 : decode cX6_remake 19 = .ok (.aload_n 0, 1) := by decide +kernel
theorem dX6_remake_20 : decode cX6_remake 20 = .ok (.getfield 16, 3) := by decide +kernel
theorem dX6_remake_23 : decode cX6_remake 23 = .ok (.invokevirtual 49, 3) := by decide +kernel
theorem dX6_remake_26 : decode cX6_remake 26 = .ok (.aload_n 0, 1) := by decide +kernel
theorem dX6_remake_27 : decode cX6_remake 27 = .ok (.getfield 19, 3) := by decide +kernel
theorem dX6_remake_30 : decode cX6_remake 30 = .ok (.aload_n 0, 1) := by decide +kernel
theorem dX6_remake_31 : decode cX6_remake 31 = .ok (.getfield 16, 3) := by decide +kernel
theorem dX6_remake_34 : decode cX6_remake 34 = .ok (.invokevirtual 52, 3) := by decide +kernel
theorem dX6_remake_37 : decode cX6_remake 37 = .ok (.ifCond .ne 5, 3) := by decide +kernel
theorem dX6_remake_40 : decode cX6_remake 40 = .ok (.iconst 0, 1) := by decide +kernel
theorem dX6_remake_41 : decode cX6_remake 41 = .ok (.ireturn, 1) := by decide +kernel
theorem dX6_remake_42 : decode cX6_remake 42 = .ok (.aload_n 0, 1) := by decide +kernel
theorem dX6_remake_43 : decode cX6_remake 43 = .ok (.aload_n 0, 1) := by decide +kernel
theorem dX6_remake_44 : decode cX6_remake 44 = .ok (.getfield 16, 3) := by decide +kernel
theorem dX6_remake_47 : decode cX6_remake 47 = .ok (.aload_n 0, 1) := by decide +kernel
theorem dX6_remake_48 : decode cX6_remake 48 = .ok (.getfield 10, 3) := by decide +kernel
theorem dX6_remake_51 : decode cX6_remake 51 = .ok (.invokevirtual 56, 3) := by decide +kernel
theorem dX6_remake_54 : decode cX6_remake 54 = .ok (.putfield 27, 3) := by decide +kernel
theorem dX6_remake_57 : decode cX6_remake 57 = .ok (.iconst 1, 1) := by decide +kernel
theorem dX6_remake_58 : decode cX6_remake 58 = .ok (.ireturn, 1) := by decide +kernel
theorem dX6_settle_0 : decode cX6_settle 0 = .ok (.iload_n 1, 1) := by decide +kernel
theorem dX6_settle_1 : decode cX6_settle 1 = .ok (.ifCond .eq 11, 3) := by decide +kernel
theorem dX6_settle_4 : decode cX6_settle 4 = .ok (.aload_n 0, 1) := by decide +kernel
theorem dX6_settle_5 : decode cX6_settle 5 = .ok (.aload_n 0, 1) := by decide +kernel
theorem dX6_settle_6 : decode cX6_settle 6 = .ok (.getfield 27, 3) := by decide +kernel
theorem dX6_settle_9 : decode cX6_settle 9 = .ok (.putfield 30, 3) := by decide +kernel
theorem dX6_settle_12 : decode cX6_settle 12 = .ok (.iload_n 1, 1) := by decide +kernel
theorem dX6_settle_13 : decode cX6_settle 13 = .ok (.ifCond .eq 28, 3) := by decide +kernel
theorem dX6_settle_16 : decode cX6_settle 16 = .ok (.aload_n 0, 1) := by decide +kernel
theorem dX6_settle_17 : decode cX6_settle 17 = .ok (.getfield 27, 3) := by decide +kernel
theorem dX6_settle_20 : decode cX6_settle 20 = .ok (.ifCond .le 21, 3) := by decide +kernel
theorem dX6_settle_23 : decode cX6_settle 23 = .ok (.aload_n 0, 1) := by decide +kernel
theorem dX6_settle_24 : decode cX6_settle 24 = .ok (.getfield 10, 3) := by decide +kernel
theorem dX6_settle_27 : decode cX6_settle 27 = .ok (.astore_n 2, 1) := by decide +kernel
theorem dX6_settle_28 : decode cX6_settle 28 = .ok (.aload_n 0, 1) := by decide +kernel
theorem dX6_settle_29 : decode cX6_settle 29 = .ok (.aload_n 0, 1) := by decide +kernel
theorem dX6_settle_30 : decode cX6_settle 30 = .ok (.getfield 16, 3) := by decide +kernel
theorem dX6_settle_33 : decode cX6_settle 33 = .ok (.putfield 10, 3) := by decide +kernel
theorem dX6_settle_36 : decode cX6_settle 36 = .ok (.aload_n 0, 1) := by decide +kernel
theorem dX6_settle_37 : decode cX6_settle 37 = .ok (.aload_n 2, 1) := by decide +kernel
theorem dX6_settle_38 : decode cX6_settle 38 = .ok (.putfield 16, 3) := by decide +kernel
theorem dX6_settle_41 : decode cX6_settle 41 = .ok (.aload_n 0, 1) := by decide +kernel
theorem dX6_settle_42 : decode cX6_settle 42 = .ok (.iconst 0, 1) := by decide +kernel
theorem dX6_settle_43 : decode cX6_settle 43 = .ok (.putfield 27, 3) := by decide +kernel
theorem dX6_settle_46 : decode cX6_settle 46 = .ok (.return_, 1) := by decide +kernel
theorem dX9_init_0 : decode cX9_init 0 = .ok (.aload_n 0, 1) := by decide +kernel
theorem dX9_init_1 : decode cX9_init 1 = .ok (.invokespecial 3, 3) := by decide +kernel
theorem dX9_init_4 : decode cX9_init 4 = .ok (.aload_n 0, 1) := by decide +kernel
theorem dX9_init_5 : decode cX9_init 5 = .ok (.iconst 4, 1) := by decide +kernel
theorem dX9_init_6 : decode cX9_init 6 = .ok (.newarray .int, 2) := by decide +kernel
theorem dX9_init_8 : decode cX9_init 8 = .ok (.putfield 9, 3) := by decide +kernel
theorem dX9_init_11 : decode cX9_init 11 = .ok (.aload_n 0, 1) := by decide +kernel
theorem dX9_init_12 : decode cX9_init 12 = .ok (.aload_n 1, 1) := by decide +kernel
theorem dX9_init_13 : decode cX9_init 13 = .ok (.putfield 15, 3) := by decide +kernel
theorem dX9_init_16 : decode cX9_init 16 = .ok (.aload_n 0, 1) := by decide +kernel
theorem dX9_init_17 : decode cX9_init 17 = .ok (.aload_n 2, 1) := by decide +kernel
theorem dX9_init_18 : decode cX9_init 18 = .ok (.putfield 19, 3) := by decide +kernel
theorem dX9_init_21 : decode cX9_init 21 = .ok (.aload_n 0, 1) := by decide +kernel
theorem dX9_init_22 : decode cX9_init 22 = .ok (.iconst 1, 1) := by decide +kernel
theorem dX9_init_23 : decode cX9_init 23 = .ok (.aload_n 1, 1) := by decide +kernel
theorem dX9_init_24 : decode cX9_init 24 = .ok (.invokevirtual 22, 3) := by decide +kernel
theorem dX9_init_27 : decode cX9_init 27 = .ok (.aload_n 2, 1) := by decide +kernel
theorem dX9_init_28 : decode cX9_init 28 = .ok (.invokevirtual 22, 3) := by decide +kernel
theorem dX9_init_31 : decode cX9_init 31 = .ok (.invokestatic 28, 3) := by decide +kernel
theorem dX9_init_34 : decode cX9_init 34 = .ok (.iadd, 1) := by decide +kernel
theorem dX9_init_35 : decode cX9_init 35 = .ok (.putfield 34, 3) := by decide +kernel
theorem dX9_init_38 : decode cX9_init 38 = .ok (.return_, 1) := by decide +kernel
theorem dX9_isTouched_0 : decode cX9_isTouched 0 = .ok (.aload_n 0, 1) := by decide +kernel
theorem dX9_isTouched_1 : decode cX9_isTouched 1 = .ok (.getfield 15, 3) := by decide +kernel
theorem dX9_isTouched_4 : decode cX9_isTouched 4 = .ok (.getfield 37, 3) := by decide +kernel
theorem dX9_isTouched_7 : decode cX9_isTouched 7 = .ok (.ifCond .gt 13, 3) := by decide +kernel
theorem dX9_isTouched_10 : decode cX9_isTouched 10 = .ok (.aload_n 0, 1) := by decide +kernel
theorem dX9_isTouched_11 : decode cX9_isTouched 11 = .ok (.getfield 19, 3) := by decide +kernel
theorem dX9_isTouched_14 : decode cX9_isTouched 14 = .ok (.getfield 37, 3) := by decide +kernel
theorem dX9_isTouched_17 : decode cX9_isTouched 17 = .ok (.ifCond .le 7, 3) := by decide +kernel
theorem dX9_isTouched_20 : decode cX9_isTouched 20 = .ok (.iconst 1, 1) := by decide +kernel
theorem dX9_isTouched_21 : decode cX9_isTouched 21 = .ok (.goto 4, 3) := by decide +kernel
theorem dX9_isTouched_24 : decode cX9_isTouched 24 = .ok (.iconst 0, 1) := by decide +kernel
theorem dX9_isTouched_25 : decode cX9_isTouched 25 = .ok (.ireturn, 1) := by decide +kernel
