theorem dX1_init_0 : decode cX1_init 0 = .ok (.aload_n 0, 1) := by decide +kernel
theorem dX1_init_1 : decode cX1_init 1 = .ok (.aload_n 1, 1) := by decide +kernel
theorem dX1_init_2 : decode cX1_init 2 = .ok (.aload_n 1, 1) := by decide +kernel
theorem dX1_init_3 : decode cX1_init 3 = .ok (.invokespecial 3, 3) := by decide +kernel
theorem dX1_init_6 : decode cX1_init 6 = .ok (.aload_n 0, 1) := by decide +kernel
theorem dX1_init_7 : decode cX1_init 7 = .ok (.aload_n 2, 1) := by decide +kernel
theorem dX1_init_8 : decode cX1_init 8 = .ok (.putfield 9, 3) := by decide +kernel
theorem dX1_init_11 : decode cX1_init 11 = .ok (.return_, 1) := by decide +kernel
theorem dX1_makeInto_0 : decode cX1_makeInto 0 = .ok (.aload_n 0, 1) := by decide +kernel
theorem dX1_makeInto_1 : decode cX1_makeInto 1 = .ok (.getfield 15, 3) := by decide +kernel
theorem dX1_makeInto_4 : decode cX1_makeInto 4 = .ok (.invokevirtual 19, 3) := by decide +kernel
theorem dX1_makeInto_7 : decode cX1_makeInto 7 = .ok (.astore_n 2, 1) := by decide +kernel
theorem dX1_makeInto_8 : decode cX1_makeInto 8 = .ok (.iconst 1, 1) := by decide +kernel
theorem dX1_makeInto_9 : decode cX1_makeInto 9 = .ok (.istore_n 3, 1) := by decide +kernel
theorem dX1_makeInto_10 : decode cX1_makeInto 10 = .ok (.iconst 0, 1) := by decide +kernel
theorem dX1_makeInto_11 : decode cX1_makeInto 11 = .ok (.istore 4, 2) := by decide +kernel
theorem dX1_makeInto_13 : decode cX1_makeInto 13 = .ok (.iload 4, 2) := by decide +kernel
theorem dX1_makeInto_15 : decode cX1_makeInto 15 = .ok (.aload_n 2, 1) := by decide +kernel
theorem dX1_makeInto_16 : decode cX1_makeInto 16 = .ok (.getfield 25, 3) := by decide +kernel
theorem dX1_makeInto_19 : decode cX1_makeInto 19 = .ok (.if_icmp .ge 80, 3) := by decide +kernel
theorem dX1_makeInto_22 : decode cX1_makeInto 22 = .ok (.iload_n 3, 1) := by decide +kernel
theorem dX1_makeInto_23 : decode cX1_makeInto 23 = .ok (.ifCond .eq 76, 3) := by decide +kernel
theorem dX1_makeInto_26 : decode cX1_makeInto 26 = .ok (.iconst 0, 1) := by decide +kernel
theorem dX1_makeInto_27 : decode cX1_makeInto 27 = .ok (.istore 5, 2) := by decide +kernel
theorem dX1_makeInto_29 : decode cX1_makeInto 29 = .ok (.iload 5, 2) := by decide +kernel
theorem dX1_makeInto_31 : decode cX1_makeInto 31 = .ok (.iconst 4, 1) := by decide +kernel
theorem dX1_makeInto_32 : decode cX1_makeInto 32 = .ok (.if_icmp .ge 44, 3) := by decide +kernel
theorem dX1_makeInto_35 : decode cX1_makeInto 35 = .ok (.aload_n 0, 1) := by decide +kernel
theorem dX1_makeInto_36 : decode cX1_makeInto 36 = .ok (.getfield 31, 3) := by decide +kernel
theorem dX1_makeInto_39 : decode cX1_makeInto 39 = .ok (.iload 5, 2) := by decide +kernel
theorem dX1_makeInto_41 : decode cX1_makeInto 41 = .ok (.aload_n 0, 1) := by decide +kernel
theorem dX1_makeInto_42 : decode cX1_makeInto 42 = .ok (.getfield 9, 3) := by decide +kernel
theorem dX1_makeInto_45 : decode cX1_makeInto 45 = .ok (.iload 5, 2) := by decide +kernel
theorem dX1_makeInto_47 : decode cX1_makeInto 47 = .ok (.iaload, 1) := by decide +kernel
theorem dX1_makeInto_48 : decode cX1_makeInto 48 = .ok (.iconst (-1), 1) := by decide +kernel
theorem dX1_makeInto_49 : decode cX1_makeInto 49 = .ok (.if_icmp .ne 7, 3) := by decide +kernel
theorem dX1_makeInto_52 : decode cX1_makeInto 52 = .ok (.iconst 0, 1) := by decide +kernel
theorem dX1_makeInto_53 : decode cX1_makeInto 53 = .ok (.goto 16, 3) := by decide +kernel
theorem dX1_makeInto_56 : decode cX1_makeInto 56 = .ok (.aload_n 2, 1) := by decide +kernel
theorem dX1_makeInto_57 : decode cX1_makeInto 57 = .ok (.iload 4, 2) := by decide +kernel
theorem dX1_makeInto_59 : decode cX1_makeInto 59 = .ok (.aload_n 0, 1) := by decide +kernel
theorem dX1_makeInto_60 : decode cX1_makeInto 60 = .ok (.getfield 9, 3) := by decide +kernel
theorem dX1_makeInto_63 : decode cX1_makeInto 63 = .ok (.iload 5, 2) := by decide +kernel
theorem dX1_makeInto_65 : decode cX1_makeInto 65 = .ok (.iaload, 1) := by decide +kernel
theorem dX1_makeInto_66 : decode cX1_makeInto 66 = .ok (.invokevirtual 34, 3) := by decide +kernel
theorem dX1_makeInto_69 : decode cX1_makeInto 69 = .ok (.iastore, 1) := by decide +kernel
theorem dX1_makeInto_70 : decode cX1_makeInto 70 = .ok (.iinc 5 1, 3) := by decide +kernel
theorem dX1_makeInto_73 : decode cX1_makeInto 73 = .ok (.goto (-44), 3) := by decide +kernel
theorem dX1_makeInto_76 : decode cX1_makeInto 76 = .ok (.aload_n 1, 1) := by decide +kernel
theorem dX1_makeInto_77 : decode cX1_makeInto 77 = .ok (.aload_n 0, 1) := by decide +kernel
theorem dX1_makeInto_78 : decode cX1_makeInto 78 = .ok (.getfield 31, 3) := by decide +kernel
theorem dX1_makeInto_81 : decode cX1_makeInto 81 = .ok (.aload_n 2, 1) := by decide +kernel
theorem dX1_makeInto_82 : decode cX1_makeInto 82 = .ok (.getfield 38, 3) := by decide +kernel
theorem dX1_makeInto_85 : decode cX1_makeInto 85 = .ok (.iload 4, 2) := by decide +kernel
theorem dX1_makeInto_87 : decode cX1_makeInto 87 = .ok (.iaload, 1) := by decide +kernel
theorem dX1_makeInto_88 : decode cX1_makeInto 88 = .ok (.i2l, 1) := by decide +kernel
theorem dX1_makeInto_89 : decode cX1_makeInto 89 = .ok (.invokevirtual 41, 3) := by decide +kernel
theorem dX1_makeInto_92 : decode cX1_makeInto 92 = .ok (.istore_n 3, 1) := by decide +kernel
theorem dX1_makeInto_93 : decode cX1_makeInto 93 = .ok (.iinc 4 1, 3) := by decide +kernel
theorem dX1_makeInto_96 : decode cX1_makeInto 96 = .ok (.goto (-83), 3) := by decide +kernel
theorem dX1_makeInto_99 : decode cX1_makeInto 99 = .ok (.iload_n 3, 1) := by decide +kernel
theorem dX1_makeInto_100 : decode cX1_makeInto 100 = .ok (.ireturn, 1) := by decide +kernel
theorem dX2_init_0 : decode cX2_init 0 = .ok (.aload_n 0, 1) := by decide +kernel
theorem dX2_init_1 : decode cX2_init 1 = .ok (.aload_n 1, 1) := by decide +kernel
theorem dX2_init_2 : decode cX2_init 2 = .ok (.aload_n 2, 1) := by decide +kernel
theorem dX2_init_3 : decode cX2_init 3 = .ok (.invokespecial 1, 3) := by decide +kernel
theorem dX2_init_6 : decode cX2_init 6 = .ok (.return_, 1) := by decide +kernel
theorem dX2_makeInto_0 : decode cX2_makeInto 0 = .ok (.aload_n 0, 1) := by decide +kernel
theorem dX2_makeInto_1 : decode cX2_makeInto 1 = .ok (.getfield 7, 3) := by decide +kernel
theorem dX2_makeInto_4 : decode cX2_makeInto 4 = .ok (.invokevirtual 13, 3) := by decide +kernel
theorem dX2_makeInto_7 : decode cX2_makeInto 7 = .ok (.astore_n 2, 1) := by decide +kernel
theorem dX2_makeInto_8 : decode cX2_makeInto 8 = .ok (.aload_n 0, 1) := by decide +kernel
theorem dX2_makeInto_9 : decode cX2_makeInto 9 = .ok (.getfield 19, 3) := by decide +kernel
theorem dX2_makeInto_12 : decode cX2_makeInto 12 = .ok (.invokevirtual 13, 3) := by decide +kernel
theorem dX2_makeInto_15 : decode cX2_makeInto 15 = .ok (.astore_n 3, 1) := by decide +kernel
theorem dX2_makeInto_16 : decode cX2_makeInto 16 = .ok (.iconst 1, 1) := by decide +kernel
theorem dX2_makeInto_17 : decode cX2_makeInto 17 = .ok (.istore 4, 2) := by decide +kernel
theorem dX2_makeInto_19 : decode cX2_makeInto 19 = .ok (.iconst 0, 1) := by decide +kernel
theorem dX2_makeInto_20 : decode cX2_makeInto 20 = .ok (.istore 5, 2) := by decide +kernel
theorem dX2_makeInto_22 : decode cX2_makeInto 22 = .ok (.iload 5, 2) := by decide +kernel
theorem dX2_makeInto_24 : decode cX2_makeInto 24 = .ok (.aload_n 2, 1) := by decide +kernel
theorem dX2_makeInto_25 : decode cX2_makeInto 25 = .ok (.getfield 22, 3) := by decide +kernel
theorem dX2_makeInto_28 : decode cX2_makeInto 28 = .ok (.if_icmp .ge 51, 3) := by decide +kernel
theorem dX2_makeInto_31 : decode cX2_makeInto 31 = .ok (.iload 4, 2) := by decide +kernel
theorem dX2_makeInto_33 : decode cX2_makeInto 33 = .ok (.ifCond .eq 46, 3) := by decide +kernel
theorem dX2_makeInto_36 : decode cX2_makeInto 36 = .ok (.aload_n 2, 1) := by decide +kernel
theorem dX2_makeInto_37 : decode cX2_makeInto 37 = .ok (.iload 5, 2) := by decide +kernel
theorem dX2_makeInto_39 : decode cX2_makeInto 39 = .ok (.aload_n 0, 1) := by decide +kernel
theorem dX2_makeInto_40 : decode cX2_makeInto 40 = .ok (.getfield 28, 3) := by decide +kernel
theorem dX2_makeInto_43 : decode cX2_makeInto 43 = .ok (.invokevirtual 32, 3) := by decide +kernel
theorem dX2_makeInto_46 : decode cX2_makeInto 46 = .ok (.aload_n 1, 1) := by decide +kernel
theorem dX2_makeInto_47 : decode cX2_makeInto 47 = .ok (.aload_n 0, 1) := by decide +kernel
theorem dX2_makeInto_48 : decode cX2_makeInto 48 = .ok (.getfield 28, 3) := by decide +kernel
theorem dX2_makeInto_51 : decode cX2_makeInto 51 = .ok (.aload_n 2, 1) := by decide +kernel
theorem dX2_makeInto_52 : decode cX2_makeInto 52 = .ok (.getfield 36, 3) := by decide +kernel
theorem dX2_makeInto_55 : decode cX2_makeInto 55 = .ok (.iload 5, 2) := by decide +kernel
theorem dX2_makeInto_57 : decode cX2_makeInto 57 = .ok (.iaload, 1) := by decide +kernel
theorem dX2_makeInto_58 : decode cX2_makeInto 58 = .ok (.aload_n 3, 1) := by decide +kernel
theorem dX2_makeInto_59 : decode cX2_makeInto 59 = .ok (.aload_n 0, 1) := by decide +kernel
theorem dX2_makeInto_60 : decode cX2_makeInto 60 = .ok (.getfield 28, 3) := by decide +kernel
theorem dX2_makeInto_63 : decode cX2_makeInto 63 = .ok (.invokevirtual 39, 3) := by decide +kernel
theorem dX2_makeInto_66 : decode cX2_makeInto 66 = .ok (.isub, 1) := by decide +kernel
theorem dX2_makeInto_67 : decode cX2_makeInto 67 = .ok (.i2l, 1) := by decide +kernel
theorem dX2_makeInto_68 : decode cX2_makeInto 68 = .ok (.invokevirtual 43, 3) := by decide +kernel
theorem dX2_makeInto_71 : decode cX2_makeInto 71 = .ok (.istore 4, 2) := by decide +kernel
theorem dX2_makeInto_73 : decode cX2_makeInto 73 = .ok (.iinc 5 1, 3) := by decide +kernel
theorem dX2_makeInto_76 : decode cX2_makeInto 76 = .ok (.goto (-54), 3) := by decide +kernel
theorem dX2_makeInto_79 : decode cX2_makeInto 79 = .ok (.iload 4, 2) := by decide +kernel
theorem dX2_makeInto_81 : decode cX2_makeInto 81 = .ok (.ireturn, 1) := by decide +kernel
theorem dX3_init_0 : decode cX3_init 0 = .ok (.aload_n 0, 1) := by decide +kernel
theorem dX3_init_1 : decode cX3_init 1 = .ok (.aload_n 1, 1) := by decide +kernel
theorem dX3_init_2 : decode cX3_init 2 = .ok (.aload_n 1, 1) := by decide +kernel
theorem dX3_init_3 : decode cX3_init 3 = .ok (.invokespecial 3, 3) := by decide +kernel
theorem dX3_init_6 : decode cX3_init 6 = .ok (.aload_n 0, 1) := by decide +kernel
theorem dX3_init_7 : decode cX3_init 7 = .ok (.iload_n 2, 1) := by decide +kernel
theorem dX3_init_8 : decode cX3_init 8 = .ok (.putfield 9, 3) := by decide +kernel
theorem dX3_init_11 : decode cX3_init 11 = .ok (.aload_n 0, 1) := by decide +kernel
theorem dX3_init_12 : decode cX3_init 12 = .ok (.iload_n 3, 1) := by decide +kernel
theorem dX3_init_13 : decode cX3_init 13 = .ok (.putfield 15, 3) := by decide +kernel
theorem dX3_init_16 : decode cX3_init 16 = .ok (.aload_n 0, 1) := by decide +kernel
theorem dX3_init_17 : decode cX3_init 17 = .ok (.iload 4, 2) := by decide +kernel
theorem dX3_init_19 : decode cX3_init 19 = .ok (.putfield 18, 3) := by decide +kernel
theorem dX3_init_22 : decode cX3_init 22 = .ok (.return_, 1) := by decide +kernel
theorem dX3_makeInto_0 : decode cX3_makeInto 0 = .ok (.aload_n 0, 1) := by decide +kernel
theorem dX3_makeInto_1 : decode cX3_makeInto 1 = .ok (.getfield 21, 3) := by decide +kernel
theorem dX3_makeInto_4 : decode cX3_makeInto 4 = .ok (.invokevirtual 25, 3) := by decide +kernel
theorem dX3_makeInto_7 : decode cX3_makeInto 7 = .ok (.astore_n 2, 1) := by decide +kernel
theorem dX3_makeInto_8 : decode cX3_makeInto 8 = .ok (.iconst 1, 1) := by decide +kernel
theorem dX3_makeInto_9 : decode cX3_makeInto 9 = .ok (.istore_n 3, 1) := by decide +kernel
theorem dX3_makeInto_10 : decode cX3_makeInto 10 = .ok (.iconst 0, 1) := by decide +kernel
theorem dX3_makeInto_11 : decode cX3_makeInto 11 = .ok (.istore 4, 2) := by decide +kernel
theorem dX3_makeInto_13 : decode cX3_makeInto 13 = .ok (.iload 4, 2) := by decide +kernel
theorem dX3_makeInto_15 : decode cX3_makeInto 15 = .ok (.aload_n 2, 1) := by decide +kernel
theorem dX3_makeInto_16 : decode cX3_makeInto 16 = .ok (.getfield 31, 3) := by decide +kernel
theorem dX3_makeInto_19 : decode cX3_makeInto 19 = .ok (.if_icmp .ge 86, 3) := by decide +kernel
theorem dX3_makeInto_22 : decode cX3_makeInto 22 = .ok (.iload_n 3, 1) := by decide +kernel
theorem dX3_makeInto_23 : decode cX3_makeInto 23 = .ok (.ifCond .eq 82, 3) := by decide +kernel
theorem dX3_makeInto_26 : decode cX3_makeInto 26 = .ok (.aload_n 0, 1) := by decide +kernel
theorem dX3_makeInto_27 : decode cX3_makeInto 27 = .ok (.aload_n 2, 1) := by decide +kernel
theorem dX3_makeInto_28 : decode cX3_makeInto 28 = .ok (.iload 4, 2) := by decide +kernel
theorem dX3_makeInto_30 : decode cX3_makeInto 30 = .ok (.invokevirtual 36, 3) := by decide +kernel
theorem dX3_makeInto_33 : decode cX3_makeInto 33 = .ok (.ifCond .eq 66, 3) := by decide +kernel
theorem dX3_makeInto_36 : decode cX3_makeInto 36 = .ok (.aload_n 0, 1) := by decide +kernel
theorem dX3_makeInto_37 : decode cX3_makeInto 37 = .ok (.getfield 40, 3) := by decide +kernel
theorem dX3_makeInto_40 : decode cX3_makeInto 40 = .ok (.iconst 0, 1) := by decide +kernel
theorem dX3_makeInto_41 : decode cX3_makeInto 41 = .ok (.aload_n 0, 1) := by decide +kernel
theorem dX3_makeInto_42 : decode cX3_makeInto 42 = .ok (.getfield 9, 3) := by decide +kernel
theorem dX3_makeInto_45 : decode cX3_makeInto 45 = .ok (.iconst (-1), 1) := by decide +kernel
theorem dX3_makeInto_46 : decode cX3_makeInto 46 = .ok (.if_icmp .ne 7, 3) := by decide +kernel
theorem dX3_makeInto_49 : decode cX3_makeInto 49 = .ok (.iconst 0, 1) := by decide +kernel
theorem dX3_makeInto_50 : decode cX3_makeInto 50 = .ok (.goto 13, 3) := by decide +kernel
theorem dX3_makeInto_53 : decode cX3_makeInto 53 = .ok (.aload_n 2, 1) := by decide +kernel
theorem dX3_makeInto_54 : decode cX3_makeInto 54 = .ok (.iload 4, 2) := by decide +kernel
theorem dX3_makeInto_56 : decode cX3_makeInto 56 = .ok (.aload_n 0, 1) := by decide +kernel
theorem dX3_makeInto_57 : decode cX3_makeInto 57 = .ok (.getfield 9, 3) := by decide +kernel
theorem dX3_makeInto_60 : decode cX3_makeInto 60 = .ok (.invokevirtual 44, 3) := by decide +kernel
theorem dX3_makeInto_63 : decode cX3_makeInto 63 = .ok (.iastore, 1) := by decide +kernel
theorem dX3_makeInto_64 : decode cX3_makeInto 64 = .ok (.aload_n 0, 1) := by decide +kernel
theorem dX3_makeInto_65 : decode cX3_makeInto 65 = .ok (.getfield 40, 3) := by decide +kernel
theorem dX3_makeInto_68 : decode cX3_makeInto 68 = .ok (.aload_n 0, 1) := by decide +kernel
theorem dX3_makeInto_69 : decode cX3_makeInto 69 = .ok (.getfield 9, 3) := by decide +kernel
theorem dX3_makeInto_72 : decode cX3_makeInto 72 = .ok (.iconst (-1), 1) := by decide +kernel
theorem dX3_makeInto_73 : decode cX3_makeInto 73 = .ok (.if_icmp .ne 7, 3) := by decide +kernel
theorem dX3_makeInto_76 : decode cX3_makeInto 76 = .ok (.iconst 0, 1) := by decide +kernel
theorem dX3_makeInto_77 : decode cX3_makeInto 77 = .ok (.goto 4, 3) := by decide +kernel
theorem dX3_makeInto_80 : decode cX3_makeInto 80 = .ok (.iconst 1, 1) := by decide +kernel
theorem dX3_makeInto_81 : decode cX3_makeInto 81 = .ok (.aload_n 0, 1) := by decide +kernel
theorem dX3_makeInto_82 : decode cX3_makeInto 82 = .ok (.aload_n 2, 1) := by decide +kernel
theorem dX3_makeInto_83 : decode cX3_makeInto 83 = .ok (.iload 4, 2) := by decide +kernel
theorem dX3_makeInto_85 : decode cX3_makeInto 85 = .ok (.invokevirtual 48, 3) := by decide +kernel
theorem dX3_makeInto_88 : decode cX3_makeInto 88 = .ok (.iastore, 1) := by decide +kernel
theorem dX3_makeInto_89 : decode cX3_makeInto 89 = .ok (.aload_n 1, 1) := by decide +kernel
theorem dX3_makeInto_90 : decode cX3_makeInto 90 = .ok (.aload_n 0, 1) := by decide +kernel
theorem dX3_makeInto_91 : decode cX3_makeInto 91 = .ok (.getfield 40, 3) := by decide +kernel
theorem dX3_makeInto_94 : decode cX3_makeInto 94 = .ok (.lconst 1, 1) := by decide +kernel
theorem dX3_makeInto_95 : decode cX3_makeInto 95 = .ok (.invokevirtual 52, 3) := by decide +kernel
theorem dX3_makeInto_98 : decode cX3_makeInto 98 = .ok (.istore_n 3, 1) := by decide +kernel
theorem dX3_makeInto_99 : decode cX3_makeInto 99 = .ok (.iinc 4 1, 3) := by decide +kernel
theorem dX3_makeInto_102 : decode cX3_makeInto 102 = .ok (.goto (-89), 3) := by decide +kernel
theorem dX3_makeInto_105 : decode cX3_makeInto 105 = .ok (.iload_n 3, 1) := by decide +kernel
theorem dX3_makeInto_106 : decode cX3_makeInto 106 = .ok (.ireturn, 1) := by decide +kernel
theorem dX3_isFirst_0 : decode cX3_isFirst 0 = .ok (.iconst 0, 1) := by decide +kernel
theorem dX3_isFirst_1 : decode cX3_isFirst 1 = .ok (.istore_n 3, 1) := by decide +kernel
theorem dX3_isFirst_2 : decode cX3_isFirst 2 = .ok (.iload_n 3, 1) := by decide +kernel
theorem dX3_isFirst_3 : decode cX3_isFirst 3 = .ok (.iload_n 2, 1) := by decide +kernel
theorem dX3_isFirst_4 : decode cX3_isFirst 4 = .ok (.if_icmp .ge 21, 3) := by decide +kernel
theorem dX3_isFirst_7 : decode cX3_isFirst 7 = .ok (.aload_n 0, 1) := by decide +kernel
theorem dX3_isFirst_8 : decode cX3_isFirst 8 = .ok (.aload_n 1, 1) := by decide +kernel
theorem dX3_isFirst_9 : decode cX3_isFirst 9 = .ok (.iload_n 3, 1) := by decide +kernel
theorem dX3_isFirst_10 : decode cX3_isFirst 10 = .ok (.iload_n 2, 1) := by decide +kernel
theorem dX3_isFirst_11 : decode cX3_isFirst 11 = .ok (.invokevirtual 56, 3) := by decide +kernel
theorem dX3_isFirst_14 : decode cX3_isFirst 14 = .ok (.ifCond .eq 5, 3) := by decide +kernel
theorem dX3_isFirst_17 : decode cX3_isFirst 17 = .ok (.iconst 0, 1) := by decide +kernel
theorem dX3_isFirst_18 : decode cX3_isFirst 18 = .ok (.ireturn, 1) := by decide +kernel
theorem dX3_isFirst_19 : decode cX3_isFirst 19 = .ok (.iinc 3 1, 3) := by decide +kernel
theorem dX3_isFirst_22 : decode cX3_isFirst 22 = .ok (.goto (-20), 3) := by decide +kernel
theorem dX3_isFirst_25 : decode cX3_isFirst 25 = .ok (.iconst 1, 1) := by decide +kernel
theorem dX3_isFirst_26 : decode cX3_isFirst 26 = .ok (.ireturn, 1) := by decide +kernel
theorem dX3_isTogether_0 : decode cX3_isTogether 0 = .ok (.aload_n 0, 1) := by decide +kernel
theorem dX3_isTogether_1 : decode cX3_isTogether 1 = .ok (.getfield 9, 3) := by decide +kernel
theorem dX3_isTogether_4 : decode cX3_isTogether 4 = .ok (.iconst (-1), 1) := by decide +kernel
theorem dX3_isTogether_5 : decode cX3_isTogether 5 = .ok (.if_icmp .eq 24, 3) := by decide +kernel
theorem dX3_isTogether_8 : decode cX3_isTogether 8 = .ok (.aload_n 1, 1) := by decide +kernel
theorem dX3_isTogether_9 : decode cX3_isTogether 9 = .ok (.iload_n 2, 1) := by decide +kernel
theorem dX3_isTogether_10 : decode cX3_isTogether 10 = .ok (.aload_n 0, 1) := by decide +kernel
theorem dX3_isTogether_11 : decode cX3_isTogether 11 = .ok (.getfield 9, 3) := by decide +kernel
theorem dX3_isTogether_14 : decode cX3_isTogether 14 = .ok (.invokevirtual 44, 3) := by decide +kernel
theorem dX3_isTogether_17 : decode cX3_isTogether 17 = .ok (.aload_n 1, 1) := by decide +kernel
theorem dX3_isTogether_18 : decode cX3_isTogether 18 = .ok (.iload_n 3, 1) := by decide +kernel
theorem dX3_isTogether_19 : decode cX3_isTogether 19 = .ok (.aload_n 0, 1) := by decide +kernel
theorem dX3_isTogether_20 : decode cX3_isTogether 20 = .ok (.getfield 9, 3) := by decide +kernel
theorem dX3_isTogether_23 : decode cX3_isTogether 23 = .ok (.invokevirtual 44, 3) := by decide +kernel
theorem dX3_isTogether_26 : decode cX3_isTogether 26 = .ok (.if_icmp .ne 7, 3) := by decide +kernel
theorem dX3_isTogether_29 : decode cX3_isTogether 29 = .ok (.iconst 1, 1) := by decide +kernel
theorem dX3_isTogether_30 : decode cX3_isTogether 30 = .ok (.goto 4, 3) := by decide +kernel
theorem dX3_isTogether_33 : decode cX3_isTogether 33 = .ok (.iconst 0, 1) := by decide +kernel
theorem dX3_isTogether_34 : decode cX3_isTogether 34 = .ok (.ireturn, 1) := by decide +kernel
theorem dX3_valueFrom_0 : decode cX3_valueFrom 0 = .ok (.aload_n 0, 1) := by decide +kernel
theorem dX3_valueFrom_1 : decode cX3_valueFrom 1 = .ok (.getfield 15, 3) := by decide +kernel
theorem dX3_valueFrom_4 : decode cX3_valueFrom 4 = .ok (.ifCond .eq 11, 3) := by decide +kernel
theorem dX3_valueFrom_7 : decode cX3_valueFrom 7 = .ok (.aload_n 0, 1) := by decide +kernel
theorem dX3_valueFrom_8 : decode cX3_valueFrom 8 = .ok (.getfield 15, 3) := by decide +kernel
theorem dX3_valueFrom_11 : decode cX3_valueFrom 11 = .ok (.iconst 1, 1) := by decide +kernel
theorem dX3_valueFrom_12 : decode cX3_valueFrom 12 = .ok (.if_icmp .ne 7, 3) := by decide +kernel
theorem dX3_valueFrom_15 : decode cX3_valueFrom 15 = .ok (.iconst 0, 1) := by decide +kernel
theorem dX3_valueFrom_16 : decode cX3_valueFrom 16 = .ok (.goto 12, 3) := by decide +kernel
theorem dX3_valueFrom_19 : decode cX3_valueFrom 19 = .ok (.aload_n 1, 1) := by decide +kernel
theorem dX3_valueFrom_20 : decode cX3_valueFrom 20 = .ok (.iload_n 2, 1) := by decide +kernel
theorem dX3_valueFrom_21 : decode cX3_valueFrom 21 = .ok (.aload_n 0, 1) := by decide +kernel
theorem dX3_valueFrom_22 : decode cX3_valueFrom 22 = .ok (.getfield 18, 3) := by decide +kernel
theorem dX3_valueFrom_25 : decode cX3_valueFrom 25 = .ok (.invokevirtual 44, 3) := by decide +kernel
theorem dX3_valueFrom_28 : decode cX3_valueFrom 28 = .ok (.istore_n 3, 1) := by decide +kernel
theorem dX3_valueFrom_29 : decode cX3_valueFrom 29 = .ok (.iload_n 2, 1) := by decide +kernel
theorem dX3_valueFrom_30 : decode cX3_valueFrom 30 = .ok (.istore 4, 2) := by decide +kernel
theorem dX3_valueFrom_32 : decode cX3_valueFrom 32 = .ok (.iload 4, 2) := by decide +kernel
theorem dX3_valueFrom_34 : decode cX3_valueFrom 34 = .ok (.aload_n 1, 1) := by decide +kernel
theorem dX3_valueFrom_35 : decode cX3_valueFrom 35 = .ok (.getfield 31, 3) := by decide +kernel
theorem dX3_valueFrom_38 : decode cX3_valueFrom 38 = .ok (.if_icmp .ge 43, 3) := by decide +kernel
theorem dX3_valueFrom_41 : decode cX3_valueFrom 41 = .ok (.aload_n 0, 1) := by decide +kernel
theorem dX3_valueFrom_42 : decode cX3_valueFrom 42 = .ok (.aload_n 1, 1) := by decide +kernel
theorem dX3_valueFrom_43 : decode cX3_valueFrom 43 = .ok (.iload_n 2, 1) := by decide +kernel
theorem dX3_valueFrom_44 : decode cX3_valueFrom 44 = .ok (.iload 4, 2) := by decide +kernel
theorem dX3_valueFrom_46 : decode cX3_valueFrom 46 = .ok (.invokevirtual 56, 3) := by decide +kernel
theorem dX3_valueFrom_49 : decode cX3_valueFrom 49 = .ok (.ifCond .eq 26, 3) := by decide +kernel
theorem dX3_valueFrom_52 : decode cX3_valueFrom 52 = .ok (.aload_n 0, 1) := by decide +kernel
theorem dX3_valueFrom_53 : decode cX3_valueFrom 53 = .ok (.iload_n 3, 1) := by decide +kernel
theorem dX3_valueFrom_54 : decode cX3_valueFrom 54 = .ok (.aload_n 1, 1) := by decide +kernel
theorem dX3_valueFrom_55 : decode cX3_valueFrom 55 = .ok (.iload 4, 2) := by decide +kernel
theorem dX3_valueFrom_57 : decode cX3_valueFrom 57 = .ok (.aload_n 0, 1) := by decide +kernel
theorem dX3_valueFrom_58 : decode cX3_valueFrom 58 = .ok (.getfield 18, 3) := by decide +kernel
theorem dX3_valueFrom_61 : decode cX3_valueFrom 61 = .ok (.invokevirtual 44, 3) := by decide +kernel
theorem dX3_valueFrom_64 : decode cX3_valueFrom 64 = .ok (.aload_n 1, 1) := by decide +kernel
theorem dX3_valueFrom_65 : decode cX3_valueFrom 65 = .ok (.getfield 60, 3) := by decide +kernel
theorem dX3_valueFrom_68 : decode cX3_valueFrom 68 = .ok (.iload 4, 2) := by decide +kernel
theorem dX3_valueFrom_70 : decode cX3_valueFrom 70 = .ok (.iaload, 1) := by decide +kernel
theorem dX3_valueFrom_71 : decode cX3_valueFrom 71 = .ok (.invokevirtual 63, 3) := by decide +kernel
theorem dX3_valueFrom_74 : decode cX3_valueFrom 74 = .ok (.istore_n 3, 1) := by decide +kernel
theorem dX3_valueFrom_75 : decode cX3_valueFrom 75 = .ok (.iinc 4 1, 3) := by decide +kernel
theorem dX3_valueFrom_78 : decode cX3_valueFrom 78 = .ok (.goto (-46), 3) := by decide +kernel
theorem dX3_valueFrom_81 : decode cX3_valueFrom 81 = .ok (.iload_n 3, 1) := by decide +kernel
theorem dX3_valueFrom_82 : decode cX3_valueFrom 82 = .ok (.ireturn, 1) := by decide +kernel
theorem dX3_withRow_0 : decode cX3_withRow 0 = .ok (.aload_n 0, 1) := by decide +kernel
theorem dX3_withRow_1 : decode cX3_withRow 1 = .ok (.getfield 15, 3) := by decide +kernel
theorem dX3_withRow_4 : decode cX3_withRow 4 = .ok (.tableswitch 44 0 2 #[28, 32, 38], 28) := by decide +kernel
theorem dX3_withRow_32 : decode cX3_withRow 32 = .ok (.iload_n 1, 1) := by decide +kernel
theorem dX3_withRow_33 : decode cX3_withRow 33 = .ok (.iload_n 3, 1) := by decide +kernel
theorem dX3_withRow_34 : decode cX3_withRow 34 = .ok (.iadd, 1) := by decide +kernel
theorem dX3_withRow_35 : decode cX3_withRow 35 = .ok (.ireturn, 1) := by decide +kernel
theorem dX3_withRow_36 : decode cX3_withRow 36 = .ok (.iload_n 1, 1) := by decide +kernel
theorem dX3_withRow_37 : decode cX3_withRow 37 = .ok (.iload_n 2, 1) := by decide +kernel
theorem dX3_withRow_38 : decode cX3_withRow 38 = .ok (.iload_n 3, 1) := by decide +kernel
theorem dX3_withRow_39 : decode cX3_withRow 39 = .ok (.imul, 1) := by decide +kernel
theorem dX3_withRow_40 : decode cX3_withRow 40 = .ok (.iadd, 1) := by decide +kernel
theorem dX3_withRow_41 : decode cX3_withRow 41 = .ok (.ireturn, 1) := by decide +kernel
theorem dX3_withRow_42 : decode cX3_withRow 42 = .ok (.iload_n 1, 1) := by decide +kernel
theorem dX3_withRow_43 : decode cX3_withRow 43 = .ok (.iload_n 2, 1) := by decide +kernel
theorem dX3_withRow_44 : decode cX3_withRow 44 = .ok (.invokestatic 67, 3) := by decide +kernel
theorem dX3_withRow_47 : decode cX3_withRow 47 = .ok (.ireturn, 1) := by decide +kernel
theorem dX3_withRow_48 : decode cX3_withRow 48 = .ok (.iload_n 1, 1) := by decide +kernel
theorem dX3_withRow_49 : decode cX3_withRow 49 = .ok (.iload_n 2, 1) := by decide +kernel
theorem dX3_withRow_50 : decode cX3_withRow 50 = .ok (.invokestatic 72, 3) := by decide +kernel
theorem dX3_withRow_53 : decode cX3_withRow 53 = .ok (.ireturn, 1) := by decide +kernel
theorem dX4_init_0 : decode cX4_init 0 = .ok (.aload_n 0, 1) := by decide +kernel
theorem dX4_init_1 : decode cX4_init 1 = .ok (.aload_n 1, 1) := by decide +kernel
theorem dX4_init_2 : decode cX4_init 2 = .ok (.aload_n 2, 1) := by decide +kernel
theorem dX4_init_3 : decode cX4_init 3 = .ok (.invokespecial 3, 3) := by decide +kernel
theorem dX4_init_6 : decode cX4_init 6 = .ok (.aload_n 0, 1) := by decide +kernel
theorem dX4_init_7 : decode cX4_init 7 = .ok (.iload_n 3, 1) := by decide +kernel
theorem dX4_init_8 : decode cX4_init 8 = .ok (.putfield 9, 3) := by decide +kernel
theorem dX4_init_11 : decode cX4_init 11 = .ok (.aload_n 0, 1) := by decide +kernel
theorem dX4_init_12 : decode cX4_init 12 = .ok (.iload 4, 2) := by decide +kernel
theorem dX4_init_14 : decode cX4_init 14 = .ok (.putfield 15, 3) := by decide +kernel
theorem dX4_init_17 : decode cX4_init 17 = .ok (.return_, 1) := by decide +kernel
theorem dX4_makeInto_0 : decode cX4_makeInto 0 = .ok (.aload_n 0, 1) := by decide +kernel
theorem dX4_makeInto_1 : decode cX4_makeInto 1 = .ok (.getfield 18, 3) := by decide +kernel
theorem dX4_makeInto_4 : decode cX4_makeInto 4 = .ok (.invokevirtual 22, 3) := by decide +kernel
theorem dX4_makeInto_7 : decode cX4_makeInto 7 = .ok (.astore_n 2, 1) := by decide +kernel
theorem dX4_makeInto_8 : decode cX4_makeInto 8 = .ok (.aload_n 0, 1) := by decide +kernel
theorem dX4_makeInto_9 : decode cX4_makeInto 9 = .ok (.getfield 28, 3) := by decide +kernel
theorem dX4_makeInto_12 : decode cX4_makeInto 12 = .ok (.invokevirtual 22, 3) := by decide +kernel
theorem dX4_makeInto_15 : decode cX4_makeInto 15 = .ok (.astore_n 3, 1) := by decide +kernel
theorem dX4_makeInto_16 : decode cX4_makeInto 16 = .ok (.iconst 0, 1) := by decide +kernel
theorem dX4_makeInto_17 : decode cX4_makeInto 17 = .ok (.istore 4, 2) := by decide +kernel
theorem dX4_makeInto_19 : decode cX4_makeInto 19 = .ok (.iload 4, 2) := by decide +kernel
theorem dX4_makeInto_21 : decode cX4_makeInto 21 = .ok (.aload_n 2, 1) := by decide +kernel
theorem dX4_makeInto_22 : decode cX4_makeInto 22 = .ok (.getfield 31, 3) := by decide +kernel
theorem dX4_makeInto_25 : decode cX4_makeInto 25 = .ok (.if_icmp .ge 90, 3) := by decide +kernel
theorem dX4_makeInto_28 : decode cX4_makeInto 28 = .ok (.iconst 0, 1) := by decide +kernel
theorem dX4_makeInto_29 : decode cX4_makeInto 29 = .ok (.istore 5, 2) := by decide +kernel
theorem dX4_makeInto_31 : decode cX4_makeInto 31 = .ok (.iload 5, 2) := by decide +kernel
theorem dX4_makeInto_33 : decode cX4_makeInto 33 = .ok (.aload_n 3, 1) := by decide +kernel
theorem dX4_makeInto_34 : decode cX4_makeInto 34 = .ok (.getfield 31, 3) := by decide +kernel
theorem dX4_makeInto_37 : decode cX4_makeInto 37 = .ok (.if_icmp .ge 72, 3) := by decide +kernel
theorem dX4_makeInto_40 : decode cX4_makeInto 40 = .ok (.aload_n 2, 1) := by decide +kernel
theorem dX4_makeInto_41 : decode cX4_makeInto 41 = .ok (.iload 4, 2) := by decide +kernel
theorem dX4_makeInto_43 : decode cX4_makeInto 43 = .ok (.aload_n 0, 1) := by decide +kernel
theorem dX4_makeInto_44 : decode cX4_makeInto 44 = .ok (.getfield 9, 3) := by decide +kernel
theorem dX4_makeInto_47 : decode cX4_makeInto 47 = .ok (.invokevirtual 36, 3) := by decide +kernel
theorem dX4_makeInto_50 : decode cX4_makeInto 50 = .ok (.aload_n 3, 1) := by decide +kernel
theorem dX4_makeInto_51 : decode cX4_makeInto 51 = .ok (.iload 5, 2) := by decide +kernel
theorem dX4_makeInto_53 : decode cX4_makeInto 53 = .ok (.aload_n 0, 1) := by decide +kernel
theorem dX4_makeInto_54 : decode cX4_makeInto 54 = .ok (.getfield 15, 3) := by decide +kernel
theorem dX4_makeInto_57 : decode cX4_makeInto 57 = .ok (.invokevirtual 36, 3) := by decide +kernel
theorem dX4_makeInto_60 : decode cX4_makeInto 60 = .ok (.if_icmp .ne 43, 3) := by decide +kernel
theorem dX4_makeInto_63 : decode cX4_makeInto 63 = .ok (.aload_n 0, 1) := by decide +kernel
theorem dX4_makeInto_64 : decode cX4_makeInto 64 = .ok (.aload_n 2, 1) := by decide +kernel
theorem dX4_makeInto_65 : decode cX4_makeInto 65 = .ok (.iload 4, 2) := by decide +kernel
theorem dX4_makeInto_67 : decode cX4_makeInto 67 = .ok (.aload_n 3, 1) := by decide +kernel
theorem dX4_makeInto_68 : decode cX4_makeInto 68 = .ok (.iload 5, 2) := by decide +kernel
theorem dX4_makeInto_70 : decode cX4_makeInto 70 = .ok (.invokevirtual 40, 3) := by decide +kernel
theorem dX4_makeInto_73 : decode cX4_makeInto 73 = .ok (.aload_n 1, 1) := by decide +kernel
theorem dX4_makeInto_74 : decode cX4_makeInto 74 = .ok (.aload_n 0, 1) := by decide +kernel
theorem dX4_makeInto_75 : decode cX4_makeInto 75 = .ok (.getfield 44, 3) := by decide +kernel
theorem dX4_makeInto_78 : decode cX4_makeInto 78 = .ok (.aload_n 2, 1) := by decide +kernel
theorem dX4_makeInto_79 : decode cX4_makeInto 79 = .ok (.getfield 48, 3) := by decide +kernel
theorem dX4_makeInto_82 : decode cX4_makeInto 82 = .ok (.iload 4, 2) := by decide +kernel
theorem dX4_makeInto_84 : decode cX4_makeInto 84 = .ok (.iaload, 1) := by decide +kernel
theorem dX4_makeInto_85 : decode cX4_makeInto 85 = .ok (.i2l, 1) := by decide +kernel
theorem dX4_makeInto_86 : decode cX4_makeInto 86 = .ok (.aload_n 3, 1) := by decide +kernel
theorem dX4_makeInto_87 : decode cX4_makeInto 87 = .ok (.getfield 48, 3) := by decide +kernel
theorem dX4_makeInto_90 : decode cX4_makeInto 90 = .ok (.iload 5, 2) := by decide +kernel
theorem dX4_makeInto_92 : decode cX4_makeInto 92 = .ok (.iaload, 1) := by decide +kernel
theorem dX4_makeInto_93 : decode cX4_makeInto 93 = .ok (.i2l, 1) := by decide +kernel
theorem dX4_makeInto_94 : decode cX4_makeInto 94 = .ok (.lmul, 1) := by decide +kernel
theorem dX4_makeInto_95 : decode cX4_makeInto 95 = .ok (.invokevirtual 51, 3) := by decide +kernel
theorem dX4_makeInto_98 : decode cX4_makeInto 98 = .ok (.ifCond .ne 5, 3) := by decide +kernel
theorem dX4_makeInto_101 : decode cX4_makeInto 101 = .ok (.iconst 0, 1) := by decide +kernel
theorem dX4_makeInto_102 : decode cX4_makeInto 102 = .ok (.ireturn, 1) := by decide +kernel
theorem dX4_makeInto_103 : decode cX4_makeInto 103 = .ok (.iinc 5 1, 3) := by decide +kernel
theorem dX4_makeInto_106 : decode cX4_makeInto 106 = .ok (.goto (-75), 3) := by decide +kernel
theorem dX4_makeInto_109 : decode cX4_makeInto 109 = .ok (.iinc 4 1, 3) := by decide +kernel
theorem dX4_makeInto_112 : decode cX4_makeInto 112 = .ok (.goto (-93), 3) := by decide +kernel
theorem dX4_makeInto_115 : decode cX4_makeInto 115 = .ok (.iconst 1, 1) := by decide +kernel
theorem dX4_makeInto_116 : decode cX4_makeInto 116 = .ok (.ireturn, 1) := by decide +kernel
theorem dX4_readPair_0 : decode cX4_readPair 0 = .ok (.aload_n 1, 1) := by decide +kernel
theorem dX4_readPair_1 : decode cX4_readPair 1 = .ok (.iload_n 2, 1) := by decide +kernel
theorem dX4_readPair_2 : decode cX4_readPair 2 = .ok (.aload_n 0, 1) := by decide +kernel
theorem dX4_readPair_3 : decode cX4_readPair 3 = .ok (.getfield 44, 3) := by decide +kernel
theorem dX4_readPair_6 : decode cX4_readPair 6 = .ok (.invokevirtual 55, 3) := by decide +kernel
theorem dX4_readPair_9 : decode cX4_readPair 9 = .ok (.aload_n 0, 1) := by decide +kernel
theorem dX4_readPair_10 : decode cX4_readPair 10 = .ok (.getfield 18, 3) := by decide +kernel
theorem dX4_readPair_13 : decode cX4_readPair 13 = .ok (.getfield 59, 3) := by decide +kernel
theorem dX4_readPair_16 : decode cX4_readPair 16 = .ok (.istore 5, 2) := by decide +kernel
theorem dX4_readPair_18 : decode cX4_readPair 18 = .ok (.iload 5, 2) := by decide +kernel
theorem dX4_readPair_20 : decode cX4_readPair 20 = .ok (.iconst 4, 1) := by decide +kernel
theorem dX4_readPair_21 : decode cX4_readPair 21 = .ok (.if_icmp .ge 32, 3) := by decide +kernel
theorem dX4_readPair_24 : decode cX4_readPair 24 = .ok (.aload_n 0, 1) := by decide +kernel
theorem dX4_readPair_25 : decode cX4_readPair 25 = .ok (.getfield 44, 3) := by decide +kernel
theorem dX4_readPair_28 : decode cX4_readPair 28 = .ok (.iload 5, 2) := by decide +kernel
theorem dX4_readPair_30 : decode cX4_readPair 30 = .ok (.aload_n 3, 1) := by decide +kernel
theorem dX4_readPair_31 : decode cX4_readPair 31 = .ok (.iload 4, 2) := by decide +kernel
theorem dX4_readPair_33 : decode cX4_readPair 33 = .ok (.iload 5, 2) := by decide +kernel
theorem dX4_readPair_35 : decode cX4_readPair 35 = .ok (.aload_n 0, 1) := by decide +kernel
theorem dX4_readPair_36 : decode cX4_readPair 36 = .ok (.getfield 18, 3) := by decide +kernel
theorem dX4_readPair_39 : decode cX4_readPair 39 = .ok (.getfield 59, 3) := by decide +kernel
theorem dX4_readPair_42 : decode cX4_readPair 42 = .ok (.isub, 1) := by decide +kernel
theorem dX4_readPair_43 : decode cX4_readPair 43 = .ok (.invokevirtual 36, 3) := by decide +kernel
theorem dX4_readPair_46 : decode cX4_readPair 46 = .ok (.iastore, 1) := by decide +kernel
theorem dX4_readPair_47 : decode cX4_readPair 47 = .ok (.iinc 5 1, 3) := by decide +kernel
theorem dX4_readPair_50 : decode cX4_readPair 50 = .ok (.goto (-32), 3) := by decide +kernel
theorem dX4_readPair_53 : decode cX4_readPair 53 = .ok (.return_, 1) := by decide +kernel
theorem dX5_init_0 : decode cX5_init 0 = .ok (.aload_n 0, 1) := by decide +kernel
theorem dX5_init_1 : decode cX5_init 1 = .ok (.aload_n 1, 1) := by decide +kernel
theorem dX5_init_2 : decode cX5_init 2 = .ok (.aload_n 1, 1) := by decide +kernel
theorem dX5_init_3 : decode cX5_init 3 = .ok (.invokespecial 1, 3) := by decide +kernel
theorem dX5_init_6 : decode cX5_init 6 = .ok (.return_, 1) := by decide +kernel
theorem dX5_makeInto_0 : decode cX5_makeInto 0 = .ok (.aload_n 0, 1) := by decide +kernel
theorem dX5_makeInto_1 : decode cX5_makeInto 1 = .ok (.getfield 7, 3) := by decide +kernel
theorem dX5_makeInto_4 : decode cX5_makeInto 4 = .ok (.invokevirtual 13, 3) := by decide +kernel
theorem dX5_makeInto_7 : decode cX5_makeInto 7 = .ok (.astore_n 2, 1) := by decide +kernel
theorem dX5_makeInto_8 : decode cX5_makeInto 8 = .ok (.iconst 1, 1) := by decide +kernel
theorem dX5_makeInto_9 : decode cX5_makeInto 9 = .ok (.istore_n 3, 1) := by decide +kernel
theorem dX5_makeInto_10 : decode cX5_makeInto 10 = .ok (.iconst 0, 1) := by decide +kernel
theorem dX5_makeInto_11 : decode cX5_makeInto 11 = .ok (.istore 4, 2) := by decide +kernel
theorem dX5_makeInto_13 : decode cX5_makeInto 13 = .ok (.iload 4, 2) := by decide +kernel
theorem dX5_makeInto_15 : decode cX5_makeInto 15 = .ok (.aload_n 2, 1) := by decide +kernel
theorem dX5_makeInto_16 : decode cX5_makeInto 16 = .ok (.getfield 19, 3) := by decide +kernel
theorem dX5_makeInto_19 : decode cX5_makeInto 19 = .ok (.if_icmp .ge 33, 3) := by decide +kernel
theorem dX5_makeInto_22 : decode cX5_makeInto 22 = .ok (.iload_n 3, 1) := by decide +kernel
theorem dX5_makeInto_23 : decode cX5_makeInto 23 = .ok (.ifCond .eq 29, 3) := by decide +kernel
theorem dX5_makeInto_26 : decode cX5_makeInto 26 = .ok (.aload_n 2, 1) := by decide +kernel
theorem dX5_makeInto_27 : decode cX5_makeInto 27 = .ok (.iload 4, 2) := by decide +kernel
theorem dX5_makeInto_29 : decode cX5_makeInto 29 = .ok (.aload_n 0, 1) := by decide +kernel
theorem dX5_makeInto_30 : decode cX5_makeInto 30 = .ok (.getfield 25, 3) := by decide +kernel
theorem dX5_makeInto_33 : decode cX5_makeInto 33 = .ok (.invokevirtual 29, 3) := by decide +kernel
theorem dX5_makeInto_36 : decode cX5_makeInto 36 = .ok (.aload_n 1, 1) := by decide +kernel
theorem dX5_makeInto_37 : decode cX5_makeInto 37 = .ok (.aload_n 0, 1) := by decide +kernel
theorem dX5_makeInto_38 : decode cX5_makeInto 38 = .ok (.getfield 25, 3) := by decide +kernel
theorem dX5_makeInto_41 : decode cX5_makeInto 41 = .ok (.lconst 1, 1) := by decide +kernel
theorem dX5_makeInto_42 : decode cX5_makeInto 42 = .ok (.invokevirtual 33, 3) := by decide +kernel
theorem dX5_makeInto_45 : decode cX5_makeInto 45 = .ok (.istore_n 3, 1) := by decide +kernel
theorem dX5_makeInto_46 : decode cX5_makeInto 46 = .ok (.iinc 4 1, 3) := by decide +kernel
theorem dX5_makeInto_49 : decode cX5_makeInto 49 = .ok (.goto (-36), 3) := by decide +kernel
theorem dX5_makeInto_52 : decode cX5_makeInto 52 = .ok (.iload_n 3, 1) := by decide +kernel
theorem dX5_makeInto_53 : decode cX5_makeInto 53 = .ok (.ireturn, 1) := by decide +kernel
theorem dX7_init_0 : decode cX7_init 0 = .ok (.aload_n 0, 1) := by decide +kernel
theorem dX7_init_1 : decode cX7_init 1 = .ok (.aload_n 1, 1) := by decide +kernel
theorem dX7_init_2 : decode cX7_init 2 = .ok (.aload_n 1, 1) := by decide +kernel
theorem dX7_init_3 : decode cX7_init 3 = .ok (.invokespecial 3, 3) := by decide +kernel
theorem dX7_init_6 : decode cX7_init 6 = .ok (.aload_n 0, 1) := by decide +kernel
theorem dX7_init_7 : decode cX7_init 7 = .ok (.iload_n 2, 1) := by decide +kernel
theorem dX7_init_8 : decode cX7_init 8 = .ok (.putfield 9, 3) := by decide +kernel
theorem dX7_init_11 : decode cX7_init 11 = .ok (.aload_n 0, 1) := by decide +kernel
theorem dX7_init_12 : decode cX7_init 12 = .ok (.iload_n 3, 1) := by decide +kernel
theorem dX7_init_13 : decode cX7_init 13 = .ok (.putfield 15, 3) := by decide +kernel
theorem dX7_init_16 : decode cX7_init 16 = .ok (.aload_n 0, 1) := by decide +kernel
theorem dX7_init_17 : decode cX7_init 17 = .ok (.iload 4, 2) := by decide +kernel
theorem dX7_init_19 : decode cX7_init 19 = .ok (.putfield 18, 3) := by decide +kernel
theorem dX7_init_22 : decode cX7_init 22 = .ok (.aload_n 0, 1) := by decide +kernel
theorem dX7_init_23 : decode cX7_init 23 = .ok (.iload 5, 2) := by decide +kernel
theorem dX7_init_25 : decode cX7_init 25 = .ok (.putfield 21, 3) := by decide +kernel
theorem dX7_init_28 : decode cX7_init 28 = .ok (.return_, 1) := by decide +kernel
theorem dX7_makeInto_0 : decode cX7_makeInto 0 = .ok (.aload_n 0, 1) := by decide +kernel
theorem dX7_makeInto_1 : decode cX7_makeInto 1 = .ok (.getfield 25, 3) := by decide +kernel
theorem dX7_makeInto_4 : decode cX7_makeInto 4 = .ok (.invokevirtual 29, 3) := by decide +kernel
theorem dX7_makeInto_7 : decode cX7_makeInto 7 = .ok (.astore_n 2, 1) := by decide +kernel
theorem dX7_makeInto_8 : decode cX7_makeInto 8 = .ok (.iconst 1, 1) := by decide +kernel
theorem dX7_makeInto_9 : decode cX7_makeInto 9 = .ok (.istore_n 3, 1) := by decide +kernel
theorem dX7_makeInto_10 : decode cX7_makeInto 10 = .ok (.iconst 0, 1) := by decide +kernel
theorem dX7_makeInto_11 : decode cX7_makeInto 11 = .ok (.istore 4, 2) := by decide +kernel
theorem dX7_makeInto_13 : decode cX7_makeInto 13 = .ok (.iload 4, 2) := by decide +kernel
theorem dX7_makeInto_15 : decode cX7_makeInto 15 = .ok (.aload_n 2, 1) := by decide +kernel
theorem dX7_makeInto_16 : decode cX7_makeInto 16 = .ok (.getfield 35, 3) := by decide +kernel
theorem dX7_makeInto_19 : decode cX7_makeInto 19 = .ok (.if_icmp .ge 85, 3) := by decide +kernel
theorem dX7_makeInto_22 : decode cX7_makeInto 22 = .ok (.iload_n 3, 1) := by decide +kernel
theorem dX7_makeInto_23 : decode cX7_makeInto 23 = .ok (.ifCond .eq 81, 3) := by decide +kernel
theorem dX7_makeInto_26 : decode cX7_makeInto 26 = .ok (.aload_n 0, 1) := by decide +kernel
theorem dX7_makeInto_27 : decode cX7_makeInto 27 = .ok (.getfield 21, 3) := by decide +kernel
theorem dX7_makeInto_30 : decode cX7_makeInto 30 = .ok (.ifCond .eq 16, 3) := by decide +kernel
theorem dX7_makeInto_33 : decode cX7_makeInto 33 = .ok (.aload_n 2, 1) := by decide +kernel
theorem dX7_makeInto_34 : decode cX7_makeInto 34 = .ok (.iload 4, 2) := by decide +kernel
theorem dX7_makeInto_36 : decode cX7_makeInto 36 = .ok (.aload_n 0, 1) := by decide +kernel
theorem dX7_makeInto_37 : decode cX7_makeInto 37 = .ok (.getfield 18, 3) := by decide +kernel
theorem dX7_makeInto_40 : decode cX7_makeInto 40 = .ok (.invokevirtual 40, 3) := by decide +kernel
theorem dX7_makeInto_43 : decode cX7_makeInto 43 = .ok (.goto 7, 3) := by decide +kernel
theorem dX7_makeInto_46 : decode cX7_makeInto 46 = .ok (.aload_n 0, 1) := by decide +kernel
theorem dX7_makeInto_47 : decode cX7_makeInto 47 = .ok (.getfield 18, 3) := by decide +kernel
theorem dX7_makeInto_50 : decode cX7_makeInto 50 = .ok (.istore 5, 2) := by decide +kernel
theorem dX7_makeInto_52 : decode cX7_makeInto 52 = .ok (.aload_n 0, 1) := by decide +kernel
theorem dX7_makeInto_53 : decode cX7_makeInto 53 = .ok (.aload_n 2, 1) := by decide +kernel
theorem dX7_makeInto_54 : decode cX7_makeInto 54 = .ok (.iload 4, 2) := by decide +kernel
theorem dX7_makeInto_56 : decode cX7_makeInto 56 = .ok (.aload_n 0, 1) := by decide +kernel
theorem dX7_makeInto_57 : decode cX7_makeInto 57 = .ok (.getfield 9, 3) := by decide +kernel
theorem dX7_makeInto_60 : decode cX7_makeInto 60 = .ok (.invokevirtual 40, 3) := by decide +kernel
theorem dX7_makeInto_63 : decode cX7_makeInto 63 = .ok (.iload 5, 2) := by decide +kernel
theorem dX7_makeInto_65 : decode cX7_makeInto 65 = .ok (.invokevirtual 44, 3) := by decide +kernel
theorem dX7_makeInto_68 : decode cX7_makeInto 68 = .ok (.ifCond .eq 30, 3) := by decide +kernel
theorem dX7_makeInto_71 : decode cX7_makeInto 71 = .ok (.aload_n 2, 1) := by decide +kernel
theorem dX7_makeInto_72 : decode cX7_makeInto 72 = .ok (.iload 4, 2) := by decide +kernel
theorem dX7_makeInto_74 : decode cX7_makeInto 74 = .ok (.aload_n 0, 1) := by decide +kernel
theorem dX7_makeInto_75 : decode cX7_makeInto 75 = .ok (.getfield 48, 3) := by decide +kernel
theorem dX7_makeInto_78 : decode cX7_makeInto 78 = .ok (.invokevirtual 52, 3) := by decide +kernel
theorem dX7_makeInto_81 : decode cX7_makeInto 81 = .ok (.aload_n 1, 1) := by decide +kernel
theorem dX7_makeInto_82 : decode cX7_makeInto 82 = .ok (.aload_n 0, 1) := by decide +kernel
theorem dX7_makeInto_83 : decode cX7_makeInto 83 = .ok (.getfield 48, 3) := by decide +kernel
theorem dX7_makeInto_86 : decode cX7_makeInto 86 = .ok (.aload_n 2, 1) := by decide +kernel
theorem dX7_makeInto_87 : decode cX7_makeInto 87 = .ok (.getfield 56, 3) := by decide +kernel
theorem dX7_makeInto_90 : decode cX7_makeInto 90 = .ok (.iload 4, 2) := by decide +kernel
theorem dX7_makeInto_92 : decode cX7_makeInto 92 = .ok (.iaload, 1) := by decide +kernel
theorem dX7_makeInto_93 : decode cX7_makeInto 93 = .ok (.i2l, 1) := by decide +kernel
theorem dX7_makeInto_94 : decode cX7_makeInto 94 = .ok (.invokevirtual 59, 3) := by decide +kernel
theorem dX7_makeInto_97 : decode cX7_makeInto 97 = .ok (.istore_n 3, 1) := by decide +kernel
theorem dX7_makeInto_98 : decode cX7_makeInto 98 = .ok (.iinc 4 1, 3) := by decide +kernel
theorem dX7_makeInto_101 : decode cX7_makeInto 101 = .ok (.goto (-88), 3) := by decide +kernel
theorem dX7_makeInto_104 : decode cX7_makeInto 104 = .ok (.iload_n 3, 1) := by decide +kernel
theorem dX7_makeInto_105 : decode cX7_makeInto 105 = .ok (.ireturn, 1) := by decide +kernel
theorem dX7_holds_0 : decode cX7_holds 0 = .ok (.aload_n 0, 1) := by decide +kernel
theorem dX7_holds_1 : decode cX7_holds 1 = .ok (.getfield 15, 3) := by decide +kernel
theorem dX7_holds_4 : decode cX7_holds 4 = .ok (.tableswitch 91 0 4 #[36, 47, 58, 69, 80], 36) := by decide +kernel
theorem dX7_holds_40 : decode cX7_holds 40 = .ok (.iload_n 1, 1) := by decide +kernel
theorem dX7_holds_41 : decode cX7_holds 41 = .ok (.iload_n 2, 1) := by decide +kernel
theorem dX7_holds_42 : decode cX7_holds 42 = .ok (.if_icmp .ne 7, 3) := by decide +kernel
theorem dX7_holds_45 : decode cX7_holds 45 = .ok (.iconst 1, 1) := by decide +kernel
theorem dX7_holds_46 : decode cX7_holds 46 = .ok (.goto 4, 3) := by decide +kernel
theorem dX7_holds_49 : decode cX7_holds 49 = .ok (.iconst 0, 1) := by decide +kernel
theorem dX7_holds_50 : decode cX7_holds 50 = .ok (.ireturn, 1) := by decide +kernel
theorem dX7_holds_51 : decode cX7_holds 51 = .ok (.iload_n 1, 1) := by decide +kernel
theorem dX7_holds_52 : decode cX7_holds 52 = .ok (.iload_n 2, 1) := by decide +kernel
theorem dX7_holds_53 : decode cX7_holds 53 = .ok (.if_icmp .eq 7, 3) := by decide +kernel
theorem dX7_holds_56 : decode cX7_holds 56 = .ok (.iconst 1, 1) := by decide +kernel
theorem dX7_holds_57 : decode cX7_holds 57 = .ok (.goto 4, 3) := by decide +kernel
theorem dX7_holds_60 : decode cX7_holds 60 = .ok (.iconst 0, 1) := by decide +kernel
theorem dX7_holds_61 : decode cX7_holds 61 = .ok (.ireturn, 1) := by decide +kernel
theorem dX7_holds_62 : decode cX7_holds 62 = .ok (.iload_n 1, 1) := by decide +kernel
theorem dX7_holds_63 : decode cX7_holds 63 = .ok (.iload_n 2, 1) := by decide +kernel
theorem dX7_holds_64 : decode cX7_holds 64 = .ok (.if_icmp .ge 7, 3) := by decide +kernel
theorem dX7_holds_67 : decode cX7_holds 67 = .ok (.iconst 1, 1) := by decide +kernel
theorem dX7_holds_68 : decode cX7_holds 68 = .ok (.goto 4, 3) := by decide +kernel
theorem dX7_holds_71 : decode cX7_holds 71 = .ok (.iconst 0, 1) := by decide +kernel
theorem dX7_holds_72 : decode cX7_holds 72 = .ok (.ireturn, 1) := by decide +kernel
theorem dX7_holds_73 : decode cX7_holds 73 = .ok (.iload_n 1, 1) := by decide +kernel
theorem dX7_holds_74 : decode cX7_holds 74 = .ok (.iload_n 2, 1) := by decide +kernel
theorem dX7_holds_75 : decode cX7_holds 75 = .ok (.if_icmp .lt 7, 3) := by decide +kernel
theorem dX7_holds_78 : decode cX7_holds 78 = .ok (.iconst 1, 1) := by decide +kernel
theorem dX7_holds_79 : decode cX7_holds 79 = .ok (.goto 4, 3) := by decide +kernel
theorem dX7_holds_82 : decode cX7_holds 82 = .ok (.iconst 0, 1) := by decide +kernel
theorem dX7_holds_83 : decode cX7_holds 83 = .ok (.ireturn, 1) := by decide +kernel
theorem dX7_holds_84 : decode cX7_holds 84 = .ok (.iload_n 1, 1) := by decide +kernel
theorem dX7_holds_85 : decode cX7_holds 85 = .ok (.iload_n 2, 1) := by decide +kernel
theorem dX7_holds_86 : decode cX7_holds 86 = .ok (.if_icmp .le 7, 3) := by decide +kernel
theorem dX7_holds_89 : decode cX7_holds 89 = .ok (.iconst 1, 1) := by decide +kernel
theorem dX7_holds_90 : decode cX7_holds 90 = .ok (.goto 4, 3) := by decide +kernel
theorem dX7_holds_93 : decode cX7_holds 93 = .ok (.iconst 0, 1) := by decide +kernel
theorem dX7_holds_94 : decode cX7_holds 94 = .ok (.ireturn, 1) := by decide +kernel
theorem dX7_holds_95 : decode cX7_holds 95 = .ok (.iload_n 1, 1) := by decide +kernel
theorem dX7_holds_96 : decode cX7_holds 96 = .ok (.iload_n 2, 1) := by decide +kernel
theorem dX7_holds_97 : decode cX7_holds 97 = .ok (.if_icmp .gt 7, 3) := by decide +kernel
theorem dX7_holds_100 : decode cX7_holds 100 = .ok (.iconst 1, 1) := by decide +kernel
theorem dX7_holds_101 : decode cX7_holds 101 = .ok (.goto 4, 3) := by decide +kernel
theorem dX7_holds_104 : decode cX7_holds 104 = .ok (.iconst 0, 1) := by decide +kernel
theorem dX7_holds_105 : decode cX7_holds 105 = .ok (.ireturn, 1) := by decide +kernel
theorem dX8_init_0 : decode cX8_init 0 = .ok (.aload_n 0, 1) := by decide +kernel
theorem dX8_init_1 : decode cX8_init 1 = .ok (.aload_n 1, 1) := by decide +kernel
theorem dX8_init_2 : decode cX8_init 2 = .ok (.aload_n 2, 1) := by decide +kernel
theorem dX8_init_3 : decode cX8_init 3 = .ok (.invokespecial 1, 3) := by decide +kernel
theorem dX8_init_6 : decode cX8_init 6 = .ok (.return_, 1) := by decide +kernel
theorem dX8_makeInto_0 : decode cX8_makeInto 0 = .ok (.aload_n 1, 1) := by decide +kernel
theorem dX8_makeInto_1 : decode cX8_makeInto 1 = .ok (.aload_n 0, 1) := by decide +kernel
theorem dX8_makeInto_2 : decode cX8_makeInto 2 = .ok (.getfield 7, 3) := by decide +kernel
theorem dX8_makeInto_5 : decode cX8_makeInto 5 = .ok (.invokevirtual 13, 3) := by decide +kernel
theorem dX8_makeInto_8 : decode cX8_makeInto 8 = .ok (.invokevirtual 19, 3) := by decide +kernel
theorem dX8_makeInto_11 : decode cX8_makeInto 11 = .ok (.aload_n 0, 1) := by decide +kernel
theorem dX8_makeInto_12 : decode cX8_makeInto 12 = .ok (.getfield 25, 3) := by decide +kernel
theorem dX8_makeInto_15 : decode cX8_makeInto 15 = .ok (.invokevirtual 13, 3) := by decide +kernel
theorem dX8_makeInto_18 : decode cX8_makeInto 18 = .ok (.astore_n 2, 1) := by decide +kernel
theorem dX8_makeInto_19 : decode cX8_makeInto 19 = .ok (.iconst 1, 1) := by decide +kernel
theorem dX8_makeInto_20 : decode cX8_makeInto 20 = .ok (.istore_n 3, 1) := by decide +kernel
theorem dX8_makeInto_21 : decode cX8_makeInto 21 = .ok (.iconst 0, 1) := by decide +kernel
theorem dX8_makeInto_22 : decode cX8_makeInto 22 = .ok (.istore 4, 2) := by decide +kernel
theorem dX8_makeInto_24 : decode cX8_makeInto 24 = .ok (.iload 4, 2) := by decide +kernel
theorem dX8_makeInto_26 : decode cX8_makeInto 26 = .ok (.aload_n 2, 1) := by decide +kernel
theorem dX8_makeInto_27 : decode cX8_makeInto 27 = .ok (.getfield 28, 3) := by decide +kernel
theorem dX8_makeInto_30 : decode cX8_makeInto 30 = .ok (.if_icmp .ge 40, 3) := by decide +kernel
theorem dX8_makeInto_33 : decode cX8_makeInto 33 = .ok (.iload_n 3, 1) := by decide +kernel
theorem dX8_makeInto_34 : decode cX8_makeInto 34 = .ok (.ifCond .eq 36, 3) := by decide +kernel
theorem dX8_makeInto_37 : decode cX8_makeInto 37 = .ok (.aload_n 2, 1) := by decide +kernel
theorem dX8_makeInto_38 : decode cX8_makeInto 38 = .ok (.iload 4, 2) := by decide +kernel
theorem dX8_makeInto_40 : decode cX8_makeInto 40 = .ok (.aload_n 0, 1) := by decide +kernel
theorem dX8_makeInto_41 : decode cX8_makeInto 41 = .ok (.getfield 32, 3) := by decide +kernel
theorem dX8_makeInto_44 : decode cX8_makeInto 44 = .ok (.invokevirtual 36, 3) := by decide +kernel
theorem dX8_makeInto_47 : decode cX8_makeInto 47 = .ok (.aload_n 1, 1) := by decide +kernel
theorem dX8_makeInto_48 : decode cX8_makeInto 48 = .ok (.aload_n 0, 1) := by decide +kernel
theorem dX8_makeInto_49 : decode cX8_makeInto 49 = .ok (.getfield 32, 3) := by decide +kernel
theorem dX8_makeInto_52 : decode cX8_makeInto 52 = .ok (.aload_n 2, 1) := by decide +kernel
theorem dX8_makeInto_53 : decode cX8_makeInto 53 = .ok (.getfield 40, 3) := by decide +kernel
theorem dX8_makeInto_56 : decode cX8_makeInto 56 = .ok (.iload 4, 2) := by decide +kernel
theorem dX8_makeInto_58 : decode cX8_makeInto 58 = .ok (.iaload, 1) := by decide +kernel
theorem dX8_makeInto_59 : decode cX8_makeInto 59 = .ok (.i2l, 1) := by decide +kernel
theorem dX8_makeInto_60 : decode cX8_makeInto 60 = .ok (.invokevirtual 43, 3) := by decide +kernel
theorem dX8_makeInto_63 : decode cX8_makeInto 63 = .ok (.istore_n 3, 1) := by decide +kernel
theorem dX8_makeInto_64 : decode cX8_makeInto 64 = .ok (.iinc 4 1, 3) := by decide +kernel
theorem dX8_makeInto_67 : decode cX8_makeInto 67 = .ok (.goto (-43), 3) := by decide +kernel
theorem dX8_makeInto_70 : decode cX8_makeInto 70 = .ok (.iload_n 3, 1) := by decide +kernel
theorem dX8_makeInto_71 : decode cX8_makeInto 71 = .ok (.ireturn, 1) := by decide +kernel
theorem dX10_init_0 : decode cX10_init 0 = .ok (.aload_n 0, 1) := by decide +kernel
theorem dX10_init_1 : decode cX10_init 1 = .ok (.invokespecial 1, 3) := by decide +kernel
theorem dX10_init_4 : decode cX10_init 4 = .ok (.aload_n 0, 1) := by decide +kernel
theorem dX10_init_5 : decode cX10_init 5 = .ok (.bipush 8, 2) := by decide +kernel
theorem dX10_init_7 : decode cX10_init 7 = .ok (.anewarray 9, 3) := by decide +kernel
theorem dX10_init_10 : decode cX10_init 10 = .ok (.putfield 11, 3) := by decide +kernel
theorem dX10_init_13 : decode cX10_init 13 = .ok (.aload_n 0, 1) := by decide +kernel
theorem dX10_init_14 : decode cX10_init 14 = .ok (.iconst 4, 1) := by decide +kernel
theorem dX10_init_15 : decode cX10_init 15 = .ok (.newarray .int, 2) := by decide +kernel
theorem dX10_init_17 : decode cX10_init 17 = .ok (.putfield 15, 3) := by decide +kernel
theorem dX10_init_20 : decode cX10_init 20 = .ok (.iconst 0, 1) := by decide +kernel
theorem dX10_init_21 : decode cX10_init 21 = .ok (.istore_n 1, 1) := by decide +kernel
theorem dX10_init_22 : decode cX10_init 22 = .ok (.iload_n 1, 1) := by decide +kernel
theorem dX10_init_23 : decode cX10_init 23 = .ok (.bipush 8, 2) := by decide +kernel
theorem dX10_init_25 : decode cX10_init 25 = .ok (.if_icmp .ge 22, 3) := by decide +kernel
theorem dX10_init_28 : decode cX10_init 28 = .ok (.aload_n 0, 1) := by decide +kernel
theorem dX10_init_29 : decode cX10_init 29 = .ok (.getfield 11, 3) := by decide +kernel
theorem dX10_init_32 : decode cX10_init 32 = .ok (.iload_n 1, 1) := by decide +kernel
theorem dX10_init_33 : decode cX10_init 33 = .ok (.new 9, 3) := by decide +kernel
theorem dX10_init_36 : decode cX10_init 36 = .ok (.dup, 1) := by decide +kernel
theorem dX10_init_37 : decode cX10_init 37 = .ok (.invokespecial 19, 3) := by decide +kernel
theorem dX10_init_40 : decode cX10_init 40 = .ok (.aastore, 1) := by decide +kernel
theorem dX10_init_41 : decode cX10_init 41 = .ok (.iinc 1 1, 3) := by decide +kernel
theorem dX10_init_44 : decode cX10_init 44 = .ok (.goto (-22), 3) := by decide +kernel
theorem dX10_init_47 : decode cX10_init 47 = .ok (.return_, 1) := by decide +kernel
theorem dX10_table_0 : decode cX10_table 0 = .ok (.aload_n 0, 1) := by decide +kernel
theorem dX10_table_1 : decode cX10_table 1 = .ok (.iload_n 1, 1) := by decide +kernel
theorem dX10_table_2 : decode cX10_table 2 = .ok (.invokevirtual 20, 3) := by decide +kernel
theorem dX10_table_5 : decode cX10_table 5 = .ok (.astore_n 3, 1) := by decide +kernel
theorem dX10_table_6 : decode cX10_table 6 = .ok (.aload_n 3, 1) := by decide +kernel
theorem dX10_table_7 : decode cX10_table 7 = .ok (.invokestatic 24, 3) := by decide +kernel
theorem dX10_table_10 : decode cX10_table 10 = .ok (.iload_n 2, 1) := by decide +kernel
theorem dX10_table_11 : decode cX10_table 11 = .ok (.iconst 1, 1) := by decide +kernel
theorem dX10_table_12 : decode cX10_table 12 = .ok (.if_icmp .lt 8, 3) := by decide +kernel
theorem dX10_table_15 : decode cX10_table 15 = .ok (.iload_n 2, 1) := by decide +kernel
theorem dX10_table_16 : decode cX10_table 16 = .ok (.iconst 4, 1) := by decide +kernel
theorem dX10_table_17 : decode cX10_table 17 = .ok (.if_icmp .le 13, 3) := by decide +kernel
theorem dX10_table_20 : decode cX10_table 20 = .ok (.new 28, 3) := by decide +kernel
theorem dX10_table_23 : decode cX10_table 23 = .ok (.dup, 1) := by decide +kernel
theorem dX10_table_24 : decode cX10_table 24 = .ok (.ldc 30, 2) := by decide +kernel
theorem dX10_table_26 : decode cX10_table 26 = .ok (.invokespecial 32, 3) := by decide +kernel
theorem dX10_table_29 : decode cX10_table 29 = .ok (.athrow, 1) := by decide +kernel
theorem dX10_table_30 : decode cX10_table 30 = .ok (.aload_n 3, 1) := by decide +kernel
theorem dX10_table_31 : decode cX10_table 31 = .ok (.getfield 35, 3) := by decide +kernel
theorem dX10_table_34 : decode cX10_table 34 = .ok (.invokevirtual 39, 3) := by decide +kernel
theorem dX10_table_37 : decode cX10_table 37 = .ok (.aload_n 3, 1) := by decide +kernel
theorem dX10_table_38 : decode cX10_table 38 = .ok (.iload_n 2, 1) := by decide +kernel
theorem dX10_table_39 : decode cX10_table 39 = .ok (.aconst_null, 1) := by decide +kernel
theorem dX10_table_40 : decode cX10_table 40 = .ok (.invokevirtual 44, 3) := by decide +kernel
theorem dX10_table_43 : decode cX10_table 43 = .ok (.return_, 1) := by decide +kernel
theorem dX10_select_0 : decode cX10_select 0 = .ok (.aload_n 0, 1) := by decide +kernel
theorem dX10_select_1 : decode cX10_select 1 = .ok (.iload_n 1, 1) := by decide +kernel
theorem dX10_select_2 : decode cX10_select 2 = .ok (.invokevirtual 20, 3) := by decide +kernel
theorem dX10_select_5 : decode cX10_select 5 = .ok (.astore 7, 2) := by decide +kernel
theorem dX10_select_7 : decode cX10_select 7 = .ok (.aload_n 0, 1) := by decide +kernel
theorem dX10_select_8 : decode cX10_select 8 = .ok (.iload_n 2, 1) := by decide +kernel
theorem dX10_select_9 : decode cX10_select 9 = .ok (.invokevirtual 48, 3) := by decide +kernel
theorem dX10_select_12 : decode cX10_select 12 = .ok (.astore 8, 2) := by decide +kernel
theorem dX10_select_14 : decode cX10_select 14 = .ok (.aload 8, 2) := by decide +kernel
theorem dX10_select_16 : decode cX10_select 16 = .ok (.iload_n 3, 1) := by decide +kernel
theorem dX10_select_17 : decode cX10_select 17 = .ok (.invokestatic 51, 3) := by decide +kernel
theorem dX10_select_20 : decode cX10_select 20 = .ok (.iload 6, 2) := by decide +kernel
theorem dX10_select_22 : decode cX10_select 22 = .ok (.ifCond .eq 10, 3) := by decide +kernel
theorem dX10_select_25 : decode cX10_select 25 = .ok (.aload 8, 2) := by decide +kernel
theorem dX10_select_27 : decode cX10_select 27 = .ok (.iload 5, 2) := by decide +kernel
theorem dX10_select_29 : decode cX10_select 29 = .ok (.invokestatic 51, 3) := by decide +kernel
theorem dX10_select_32 : decode cX10_select 32 = .ok (.aload 7, 2) := by decide +kernel
theorem dX10_select_34 : decode cX10_select 34 = .ok (.invokestatic 24, 3) := by decide +kernel
theorem dX10_select_37 : decode cX10_select 37 = .ok (.iload 4, 2) := by decide +kernel
theorem dX10_select_39 : decode cX10_select 39 = .ok (.ifCond .lt 9, 3) := by decide +kernel
theorem dX10_select_42 : decode cX10_select 42 = .ok (.iload 4, 2) := by decide +kernel
theorem dX10_select_44 : decode cX10_select 44 = .ok (.iconst 5, 1) := by decide +kernel
theorem dX10_select_45 : decode cX10_select 45 = .ok (.if_icmp .le 13, 3) := by decide +kernel
theorem dX10_select_48 : decode cX10_select 48 = .ok (.new 28, 3) := by decide +kernel
theorem dX10_select_51 : decode cX10_select 51 = .ok (.dup, 1) := by decide +kernel
theorem dX10_select_52 : decode cX10_select 52 = .ok (.ldc 55, 2) := by decide +kernel
theorem dX10_select_54 : decode cX10_select 54 = .ok (.invokespecial 32, 3) := by decide +kernel
theorem dX10_select_57 : decode cX10_select 57 = .ok (.athrow, 1) := by decide +kernel
theorem dX10_select_58 : decode cX10_select 58 = .ok (.aload 7, 2) := by decide +kernel
theorem dX10_select_60 : decode cX10_select 60 = .ok (.aload 8, 2) := by decide +kernel
theorem dX10_select_62 : decode cX10_select 62 = .ok (.getfield 57, 3) := by decide +kernel
theorem dX10_select_65 : decode cX10_select 65 = .ok (.new 61, 3) := by decide +kernel
theorem dX10_select_68 : decode cX10_select 68 = .ok (.dup, 1) := by decide +kernel
theorem dX10_select_69 : decode cX10_select 69 = .ok (.aload 8, 2) := by decide +kernel
theorem dX10_select_71 : decode cX10_select 71 = .ok (.iload_n 3, 1) := by decide +kernel
theorem dX10_select_72 : decode cX10_select 72 = .ok (.iload 4, 2) := by decide +kernel
theorem dX10_select_74 : decode cX10_select 74 = .ok (.iload 5, 2) := by decide +kernel
theorem dX10_select_76 : decode cX10_select 76 = .ok (.iload 6, 2) := by decide +kernel
theorem dX10_select_78 : decode cX10_select 78 = .ok (.invokespecial 63, 3) := by decide +kernel
theorem dX10_select_81 : decode cX10_select 81 = .ok (.invokestatic 66, 3) := by decide +kernel
theorem dX10_select_84 : decode cX10_select 84 = .ok (.return_, 1) := by decide +kernel
theorem dX10_columns_0 : decode cX10_columns 0 = .ok (.aload_n 0, 1) := by decide +kernel
theorem dX10_columns_1 : decode cX10_columns 1 = .ok (.iload_n 1, 1) := by decide +kernel
theorem dX10_columns_2 : decode cX10_columns 2 = .ok (.invokevirtual 20, 3) := by decide +kernel
theorem dX10_columns_5 : decode cX10_columns 5 = .ok (.astore 7, 2) := by decide +kernel
theorem dX10_columns_7 : decode cX10_columns 7 = .ok (.aload_n 0, 1) := by decide +kernel
theorem dX10_columns_8 : decode cX10_columns 8 = .ok (.iload_n 2, 1) := by decide +kernel
theorem dX10_columns_9 : decode cX10_columns 9 = .ok (.invokevirtual 48, 3) := by decide +kernel
theorem dX10_columns_12 : decode cX10_columns 12 = .ok (.astore 8, 2) := by decide +kernel
theorem dX10_columns_14 : decode cX10_columns 14 = .ok (.aload 8, 2) := by decide +kernel
theorem dX10_columns_16 : decode cX10_columns 16 = .ok (.iload_n 3, 1) := by decide +kernel
theorem dX10_columns_17 : decode cX10_columns 17 = .ok (.invokestatic 70, 3) := by decide +kernel
theorem dX10_columns_20 : decode cX10_columns 20 = .ok (.aload 8, 2) := by decide +kernel
theorem dX10_columns_22 : decode cX10_columns 22 = .ok (.iload 4, 2) := by decide +kernel
theorem dX10_columns_24 : decode cX10_columns 24 = .ok (.invokestatic 70, 3) := by decide +kernel
theorem dX10_columns_27 : decode cX10_columns 27 = .ok (.aload 8, 2) := by decide +kernel
theorem dX10_columns_29 : decode cX10_columns 29 = .ok (.iload 5, 2) := by decide +kernel
theorem dX10_columns_31 : decode cX10_columns 31 = .ok (.invokestatic 70, 3) := by decide +kernel
theorem dX10_columns_34 : decode cX10_columns 34 = .ok (.aload 8, 2) := by decide +kernel
theorem dX10_columns_36 : decode cX10_columns 36 = .ok (.iload 6, 2) := by decide +kernel
theorem dX10_columns_38 : decode cX10_columns 38 = .ok (.invokestatic 70, 3) := by decide +kernel
theorem dX10_columns_41 : decode cX10_columns 41 = .ok (.aload 7, 2) := by decide +kernel
theorem dX10_columns_43 : decode cX10_columns 43 = .ok (.invokestatic 24, 3) := by decide +kernel
theorem dX10_columns_46 : decode cX10_columns 46 = .ok (.iconst 4, 1) := by decide +kernel
theorem dX10_columns_47 : decode cX10_columns 47 = .ok (.newarray .int, 2) := by decide +kernel
theorem dX10_columns_49 : decode cX10_columns 49 = .ok (.dup, 1) := by decide +kernel
theorem dX10_columns_50 : decode cX10_columns 50 = .ok (.iconst 0, 1) := by decide +kernel
theorem dX10_columns_51 : decode cX10_columns 51 = .ok (.iload_n 3, 1) := by decide +kernel
theorem dX10_columns_52 : decode cX10_columns 52 = .ok (.iastore, 1) := by decide +kernel
theorem dX10_columns_53 : decode cX10_columns 53 = .ok (.dup, 1) := by decide +kernel
theorem dX10_columns_54 : decode cX10_columns 54 = .ok (.iconst 1, 1) := by decide +kernel
theorem dX10_columns_55 : decode cX10_columns 55 = .ok (.iload 4, 2) := by decide +kernel
theorem dX10_columns_57 : decode cX10_columns 57 = .ok (.iastore, 1) := by decide +kernel
theorem dX10_columns_58 : decode cX10_columns 58 = .ok (.dup, 1) := by decide +kernel
theorem dX10_columns_59 : decode cX10_columns 59 = .ok (.iconst 2, 1) := by decide +kernel
theorem dX10_columns_60 : decode cX10_columns 60 = .ok (.iload 5, 2) := by decide +kernel
theorem dX10_columns_62 : decode cX10_columns 62 = .ok (.iastore, 1) := by decide +kernel
theorem dX10_columns_63 : decode cX10_columns 63 = .ok (.dup, 1) := by decide +kernel
theorem dX10_columns_64 : decode cX10_columns 64 = .ok (.iconst 3, 1) := by decide +kernel
theorem dX10_columns_65 : decode cX10_columns 65 = .ok (.iload 6, 2) := by decide +kernel
theorem dX10_columns_67 : decode cX10_columns 67 = .ok (.iastore, 1) := by decide +kernel
theorem dX10_columns_68 : decode cX10_columns 68 = .ok (.astore 9, 2) := by decide +kernel
theorem dX10_columns_70 : decode cX10_columns 70 = .ok (.aload 7, 2) := by decide +kernel
theorem dX10_columns_72 : decode cX10_columns 72 = .ok (.aload 9, 2) := by decide +kernel
theorem dX10_columns_74 : decode cX10_columns 74 = .ok (.invokestatic 73, 3) := by decide +kernel
theorem dX10_columns_77 : decode cX10_columns 77 = .ok (.new 77, 3) := by decide +kernel
theorem dX10_columns_80 : decode cX10_columns 80 = .ok (.dup, 1) := by decide +kernel
theorem dX10_columns_81 : decode cX10_columns 81 = .ok (.aload 8, 2) := by decide +kernel
theorem dX10_columns_83 : decode cX10_columns 83 = .ok (.aload 9, 2) := by decide +kernel
theorem dX10_columns_85 : decode cX10_columns 85 = .ok (.invokespecial 79, 3) := by decide +kernel
theorem dX10_columns_88 : decode cX10_columns 88 = .ok (.invokestatic 66, 3) := by decide +kernel
theorem dX10_columns_91 : decode cX10_columns 91 = .ok (.return_, 1) := by decide +kernel
theorem dX10_join_0 : decode cX10_join 0 = .ok (.aload_n 0, 1) := by decide +kernel
theorem dX10_join_1 : decode cX10_join 1 = .ok (.iload_n 1, 1) := by decide +kernel
theorem dX10_join_2 : decode cX10_join 2 = .ok (.invokevirtual 20, 3) := by decide +kernel
theorem dX10_join_5 : decode cX10_join 5 = .ok (.astore 6, 2) := by decide +kernel
theorem dX10_join_7 : decode cX10_join 7 = .ok (.aload_n 0, 1) := by decide +kernel
theorem dX10_join_8 : decode cX10_join 8 = .ok (.iload_n 2, 1) := by decide +kernel
theorem dX10_join_9 : decode cX10_join 9 = .ok (.invokevirtual 48, 3) := by decide +kernel
theorem dX10_join_12 : decode cX10_join 12 = .ok (.astore 7, 2) := by decide +kernel
theorem dX10_join_14 : decode cX10_join 14 = .ok (.aload_n 0, 1) := by decide +kernel
theorem dX10_join_15 : decode cX10_join 15 = .ok (.iload_n 3, 1) := by decide +kernel
theorem dX10_join_16 : decode cX10_join 16 = .ok (.invokevirtual 48, 3) := by decide +kernel
theorem dX10_join_19 : decode cX10_join 19 = .ok (.astore 8, 2) := by decide +kernel
theorem dX10_join_21 : decode cX10_join 21 = .ok (.aload 7, 2) := by decide +kernel
theorem dX10_join_23 : decode cX10_join 23 = .ok (.iload 4, 2) := by decide +kernel
theorem dX10_join_25 : decode cX10_join 25 = .ok (.invokestatic 51, 3) := by decide +kernel
theorem dX10_join_28 : decode cX10_join 28 = .ok (.aload 8, 2) := by decide +kernel
theorem dX10_join_30 : decode cX10_join 30 = .ok (.iload 5, 2) := by decide +kernel
theorem dX10_join_32 : decode cX10_join 32 = .ok (.invokestatic 51, 3) := by decide +kernel
theorem dX10_join_35 : decode cX10_join 35 = .ok (.aload 6, 2) := by decide +kernel
theorem dX10_join_37 : decode cX10_join 37 = .ok (.invokestatic 24, 3) := by decide +kernel
theorem dX10_join_40 : decode cX10_join 40 = .ok (.aload 7, 2) := by decide +kernel
theorem dX10_join_42 : decode cX10_join 42 = .ok (.getfield 57, 3) := by decide +kernel
theorem dX10_join_45 : decode cX10_join 45 = .ok (.aload 8, 2) := by decide +kernel
theorem dX10_join_47 : decode cX10_join 47 = .ok (.getfield 57, 3) := by decide +kernel
theorem dX10_join_50 : decode cX10_join 50 = .ok (.iadd, 1) := by decide +kernel
theorem dX10_join_51 : decode cX10_join 51 = .ok (.istore 9, 2) := by decide +kernel
theorem dX10_join_53 : decode cX10_join 53 = .ok (.iload 9, 2) := by decide +kernel
theorem dX10_join_55 : decode cX10_join 55 = .ok (.iconst 4, 1) := by decide +kernel
theorem dX10_join_56 : decode cX10_join 56 = .ok (.if_icmp .le 13, 3) := by decide +kernel
theorem dX10_join_59 : decode cX10_join 59 = .ok (.new 28, 3) := by decide +kernel
theorem dX10_join_62 : decode cX10_join 62 = .ok (.dup, 1) := by decide +kernel
theorem dX10_join_63 : decode cX10_join 63 = .ok (.ldc 82, 2) := by decide +kernel
theorem dX10_join_65 : decode cX10_join 65 = .ok (.invokespecial 32, 3) := by decide +kernel
theorem dX10_join_68 : decode cX10_join 68 = .ok (.athrow, 1) := by decide +kernel
theorem dX10_join_69 : decode cX10_join 69 = .ok (.aload 6, 2) := by decide +kernel
theorem dX10_join_71 : decode cX10_join 71 = .ok (.iload 9, 2) := by decide +kernel
theorem dX10_join_73 : decode cX10_join 73 = .ok (.new 84, 3) := by decide +kernel
theorem dX10_join_76 : decode cX10_join 76 = .ok (.dup, 1) := by decide +kernel
theorem dX10_join_77 : decode cX10_join 77 = .ok (.aload 7, 2) := by decide +kernel
theorem dX10_join_79 : decode cX10_join 79 = .ok (.aload 8, 2) := by decide +kernel
theorem dX10_join_81 : decode cX10_join 81 = .ok (.iload 4, 2) := by decide +kernel
theorem dX10_join_83 : decode cX10_join 83 = .ok (.iload 5, 2) := by decide +kernel
theorem dX10_join_85 : decode cX10_join 85 = .ok (.invokespecial 86, 3) := by decide +kernel
theorem dX10_join_88 : decode cX10_join 88 = .ok (.invokestatic 66, 3) := by decide +kernel
theorem dX10_join_91 : decode cX10_join 91 = .ok (.return_, 1) := by decide +kernel
theorem dX10_both_0 : decode cX10_both 0 = .ok (.aload_n 0, 1) := by decide +kernel
theorem dX10_both_1 : decode cX10_both 1 = .ok (.iload_n 1, 1) := by decide +kernel
theorem dX10_both_2 : decode cX10_both 2 = .ok (.invokevirtual 20, 3) := by decide +kernel
theorem dX10_both_5 : decode cX10_both 5 = .ok (.astore 5, 2) := by decide +kernel
theorem dX10_both_7 : decode cX10_both 7 = .ok (.aload_n 0, 1) := by decide +kernel
theorem dX10_both_8 : decode cX10_both 8 = .ok (.iload_n 2, 1) := by decide +kernel
theorem dX10_both_9 : decode cX10_both 9 = .ok (.invokevirtual 48, 3) := by decide +kernel
theorem dX10_both_12 : decode cX10_both 12 = .ok (.astore 6, 2) := by decide +kernel
theorem dX10_both_14 : decode cX10_both 14 = .ok (.aload_n 0, 1) := by decide +kernel
theorem dX10_both_15 : decode cX10_both 15 = .ok (.iload_n 3, 1) := by decide +kernel
theorem dX10_both_16 : decode cX10_both 16 = .ok (.invokevirtual 48, 3) := by decide +kernel
theorem dX10_both_19 : decode cX10_both 19 = .ok (.astore 7, 2) := by decide +kernel
theorem dX10_both_21 : decode cX10_both 21 = .ok (.aload 5, 2) := by decide +kernel
theorem dX10_both_23 : decode cX10_both 23 = .ok (.invokestatic 24, 3) := by decide +kernel
theorem dX10_both_26 : decode cX10_both 26 = .ok (.aload 6, 2) := by decide +kernel
theorem dX10_both_28 : decode cX10_both 28 = .ok (.getfield 57, 3) := by decide +kernel
theorem dX10_both_31 : decode cX10_both 31 = .ok (.aload 7, 2) := by decide +kernel
theorem dX10_both_33 : decode cX10_both 33 = .ok (.getfield 57, 3) := by decide +kernel
theorem dX10_both_36 : decode cX10_both 36 = .ok (.if_icmp .eq 13, 3) := by decide +kernel
theorem dX10_both_39 : decode cX10_both 39 = .ok (.new 28, 3) := by decide +kernel
theorem dX10_both_42 : decode cX10_both 42 = .ok (.dup, 1) := by decide +kernel
theorem dX10_both_43 : decode cX10_both 43 = .ok (.ldc 89, 2) := by decide +kernel
theorem dX10_both_45 : decode cX10_both 45 = .ok (.invokespecial 32, 3) := by decide +kernel
theorem dX10_both_48 : decode cX10_both 48 = .ok (.athrow, 1) := by decide +kernel
theorem dX10_both_49 : decode cX10_both 49 = .ok (.iload 4, 2) := by decide +kernel
theorem dX10_both_51 : decode cX10_both 51 = .ok (.ifCond .eq 17, 3) := by decide +kernel
theorem dX10_both_54 : decode cX10_both 54 = .ok (.new 91, 3) := by decide +kernel
theorem dX10_both_57 : decode cX10_both 57 = .ok (.dup, 1) := by decide +kernel
theorem dX10_both_58 : decode cX10_both 58 = .ok (.aload 6, 2) := by decide +kernel
theorem dX10_both_60 : decode cX10_both 60 = .ok (.aload 7, 2) := by decide +kernel
theorem dX10_both_62 : decode cX10_both 62 = .ok (.invokespecial 93, 3) := by decide +kernel
theorem dX10_both_65 : decode cX10_both 65 = .ok (.goto 14, 3) := by decide +kernel
theorem dX10_both_68 : decode cX10_both 68 = .ok (.new 96, 3) := by decide +kernel
theorem dX10_both_71 : decode cX10_both 71 = .ok (.dup, 1) := by decide +kernel
theorem dX10_both_72 : decode cX10_both 72 = .ok (.aload 6, 2) := by decide +kernel
theorem dX10_both_74 : decode cX10_both 74 = .ok (.aload 7, 2) := by decide +kernel
theorem dX10_both_76 : decode cX10_both 76 = .ok (.invokespecial 98, 3) := by decide +kernel
theorem dX10_both_79 : decode cX10_both 79 = .ok (.astore 8, 2) := by decide +kernel
theorem dX10_both_81 : decode cX10_both 81 = .ok (.aload 5, 2) := by decide +kernel
theorem dX10_both_83 : decode cX10_both 83 = .ok (.aload 6, 2) := by decide +kernel
theorem dX10_both_85 : decode cX10_both 85 = .ok (.getfield 57, 3) := by decide +kernel
theorem dX10_both_88 : decode cX10_both 88 = .ok (.aload 8, 2) := by decide +kernel
theorem dX10_both_90 : decode cX10_both 90 = .ok (.invokestatic 66, 3) := by decide +kernel
theorem dX10_both_93 : decode cX10_both 93 = .ok (.return_, 1) := by decide +kernel
theorem dX10_once_0 : decode cX10_once 0 = .ok (.aload_n 0, 1) := by decide +kernel
theorem dX10_once_1 : decode cX10_once 1 = .ok (.iload_n 1, 1) := by decide +kernel
theorem dX10_once_2 : decode cX10_once 2 = .ok (.invokevirtual 20, 3) := by decide +kernel
theorem dX10_once_5 : decode cX10_once 5 = .ok (.astore_n 3, 1) := by decide +kernel
theorem dX10_once_6 : decode cX10_once 6 = .ok (.aload_n 0, 1) := by decide +kernel
theorem dX10_once_7 : decode cX10_once 7 = .ok (.iload_n 2, 1) := by decide +kernel
theorem dX10_once_8 : decode cX10_once 8 = .ok (.invokevirtual 48, 3) := by decide +kernel
theorem dX10_once_11 : decode cX10_once 11 = .ok (.astore 4, 2) := by decide +kernel
theorem dX10_once_13 : decode cX10_once 13 = .ok (.aload_n 3, 1) := by decide +kernel
theorem dX10_once_14 : decode cX10_once 14 = .ok (.invokestatic 24, 3) := by decide +kernel
theorem dX10_once_17 : decode cX10_once 17 = .ok (.aload_n 3, 1) := by decide +kernel
theorem dX10_once_18 : decode cX10_once 18 = .ok (.aload 4, 2) := by decide +kernel
theorem dX10_once_20 : decode cX10_once 20 = .ok (.getfield 57, 3) := by decide +kernel
theorem dX10_once_23 : decode cX10_once 23 = .ok (.new 99, 3) := by decide +kernel
theorem dX10_once_26 : decode cX10_once 26 = .ok (.dup, 1) := by decide +kernel
theorem dX10_once_27 : decode cX10_once 27 = .ok (.aload 4, 2) := by decide +kernel
theorem dX10_once_29 : decode cX10_once 29 = .ok (.invokespecial 101, 3) := by decide +kernel
theorem dX10_once_32 : decode cX10_once 32 = .ok (.invokestatic 66, 3) := by decide +kernel
theorem dX10_once_35 : decode cX10_once 35 = .ok (.return_, 1) := by decide +kernel
theorem dX10_group_0 : decode cX10_group 0 = .ok (.aload_n 0, 1) := by decide +kernel
theorem dX10_group_1 : decode cX10_group 1 = .ok (.iload_n 1, 1) := by decide +kernel
theorem dX10_group_2 : decode cX10_group 2 = .ok (.invokevirtual 20, 3) := by decide +kernel
theorem dX10_group_5 : decode cX10_group 5 = .ok (.astore 6, 2) := by decide +kernel
theorem dX10_group_7 : decode cX10_group 7 = .ok (.aload_n 0, 1) := by decide +kernel
theorem dX10_group_8 : decode cX10_group 8 = .ok (.iload_n 2, 1) := by decide +kernel
theorem dX10_group_9 : decode cX10_group 9 = .ok (.invokevirtual 48, 3) := by decide +kernel
theorem dX10_group_12 : decode cX10_group 12 = .ok (.astore 7, 2) := by decide +kernel
theorem dX10_group_14 : decode cX10_group 14 = .ok (.aload 7, 2) := by decide +kernel
theorem dX10_group_16 : decode cX10_group 16 = .ok (.iload_n 3, 1) := by decide +kernel
theorem dX10_group_17 : decode cX10_group 17 = .ok (.invokestatic 70, 3) := by decide +kernel
theorem dX10_group_20 : decode cX10_group 20 = .ok (.aload 7, 2) := by decide +kernel
theorem dX10_group_22 : decode cX10_group 22 = .ok (.iload 5, 2) := by decide +kernel
theorem dX10_group_24 : decode cX10_group 24 = .ok (.invokestatic 51, 3) := by decide +kernel
theorem dX10_group_27 : decode cX10_group 27 = .ok (.aload 6, 2) := by decide +kernel
theorem dX10_group_29 : decode cX10_group 29 = .ok (.invokestatic 24, 3) := by decide +kernel
theorem dX10_group_32 : decode cX10_group 32 = .ok (.iload 4, 2) := by decide +kernel
theorem dX10_group_34 : decode cX10_group 34 = .ok (.ifCond .lt 9, 3) := by decide +kernel
theorem dX10_group_37 : decode cX10_group 37 = .ok (.iload 4, 2) := by decide +kernel
theorem dX10_group_39 : decode cX10_group 39 = .ok (.iconst 3, 1) := by decide +kernel
theorem dX10_group_40 : decode cX10_group 40 = .ok (.if_icmp .le 13, 3) := by decide +kernel
theorem dX10_group_43 : decode cX10_group 43 = .ok (.new 28, 3) := by decide +kernel
theorem dX10_group_46 : decode cX10_group 46 = .ok (.dup, 1) := by decide +kernel
theorem dX10_group_47 : decode cX10_group 47 = .ok (.ldc 103, 2) := by decide +kernel
theorem dX10_group_49 : decode cX10_group 49 = .ok (.invokespecial 32, 3) := by decide +kernel
theorem dX10_group_52 : decode cX10_group 52 = .ok (.athrow, 1) := by decide +kernel
theorem dX10_group_53 : decode cX10_group 53 = .ok (.aload 6, 2) := by decide +kernel
theorem dX10_group_55 : decode cX10_group 55 = .ok (.iload_n 3, 1) := by decide +kernel
theorem dX10_group_56 : decode cX10_group 56 = .ok (.iconst (-1), 1) := by decide +kernel
theorem dX10_group_57 : decode cX10_group 57 = .ok (.if_icmp .ne 7, 3) := by decide +kernel
theorem dX10_group_60 : decode cX10_group 60 = .ok (.iconst 1, 1) := by decide +kernel
theorem dX10_group_61 : decode cX10_group 61 = .ok (.goto 4, 3) := by decide +kernel
theorem dX10_group_64 : decode cX10_group 64 = .ok (.iconst 2, 1) := by decide +kernel
theorem dX10_group_65 : decode cX10_group 65 = .ok (.new 105, 3) := by decide +kernel
theorem dX10_group_68 : decode cX10_group 68 = .ok (.dup, 1) := by decide +kernel
theorem dX10_group_69 : decode cX10_group 69 = .ok (.aload 7, 2) := by decide +kernel
theorem dX10_group_71 : decode cX10_group 71 = .ok (.iload_n 3, 1) := by decide +kernel
theorem dX10_group_72 : decode cX10_group 72 = .ok (.iload 4, 2) := by decide +kernel
theorem dX10_group_74 : decode cX10_group 74 = .ok (.iload 5, 2) := by decide +kernel
theorem dX10_group_76 : decode cX10_group 76 = .ok (.invokespecial 107, 3) := by decide +kernel
theorem dX10_group_79 : decode cX10_group 79 = .ok (.invokestatic 66, 3) := by decide +kernel
theorem dX10_group_82 : decode cX10_group 82 = .ok (.return_, 1) := by decide +kernel
theorem dX10_drop_0 : decode cX10_drop 0 = .ok (.aload_n 0, 1) := by decide +kernel
theorem dX10_drop_1 : decode cX10_drop 1 = .ok (.iload_n 1, 1) := by decide +kernel
theorem dX10_drop_2 : decode cX10_drop 2 = .ok (.invokevirtual 48, 3) := by decide +kernel
theorem dX10_drop_5 : decode cX10_drop 5 = .ok (.astore_n 2, 1) := by decide +kernel
theorem dX10_drop_6 : decode cX10_drop 6 = .ok (.aload_n 0, 1) := by decide +kernel
theorem dX10_drop_7 : decode cX10_drop 7 = .ok (.getfield 11, 3) := by decide +kernel
theorem dX10_drop_10 : decode cX10_drop 10 = .ok (.astore_n 3, 1) := by decide +kernel
theorem dX10_drop_11 : decode cX10_drop 11 = .ok (.aload_n 3, 1) := by decide +kernel
theorem dX10_drop_12 : decode cX10_drop 12 = .ok (.arraylength, 1) := by decide +kernel
theorem dX10_drop_13 : decode cX10_drop 13 = .ok (.istore 4, 2) := by decide +kernel
theorem dX10_drop_15 : decode cX10_drop 15 = .ok (.iconst 0, 1) := by decide +kernel
theorem dX10_drop_16 : decode cX10_drop 16 = .ok (.istore 5, 2) := by decide +kernel
theorem dX10_drop_18 : decode cX10_drop 18 = .ok (.iload 5, 2) := by decide +kernel
theorem dX10_drop_20 : decode cX10_drop 20 = .ok (.iload 4, 2) := by decide +kernel
theorem dX10_drop_22 : decode cX10_drop 22 = .ok (.if_icmp .ge 34, 3) := by decide +kernel
theorem dX10_drop_25 : decode cX10_drop 25 = .ok (.aload_n 3, 1) := by decide +kernel
theorem dX10_drop_26 : decode cX10_drop 26 = .ok (.iload 5, 2) := by decide +kernel
theorem dX10_drop_28 : decode cX10_drop 28 = .ok (.aaload, 1) := by decide +kernel
theorem dX10_drop_29 : decode cX10_drop 29 = .ok (.astore 6, 2) := by decide +kernel
theorem dX10_drop_31 : decode cX10_drop 31 = .ok (.aload 6, 2) := by decide +kernel
theorem dX10_drop_33 : decode cX10_drop 33 = .ok (.aload_n 2, 1) := by decide +kernel
theorem dX10_drop_34 : decode cX10_drop 34 = .ok (.invokevirtual 110, 3) := by decide +kernel
theorem dX10_drop_37 : decode cX10_drop 37 = .ok (.ifCond .eq 13, 3) := by decide +kernel
theorem dX10_drop_40 : decode cX10_drop 40 = .ok (.new 114, 3) := by decide +kernel
theorem dX10_drop_43 : decode cX10_drop 43 = .ok (.dup, 1) := by decide +kernel
theorem dX10_drop_44 : decode cX10_drop 44 = .ok (.ldc 116, 2) := by decide +kernel
theorem dX10_drop_46 : decode cX10_drop 46 = .ok (.invokespecial 118, 3) := by decide +kernel
theorem dX10_drop_49 : decode cX10_drop 49 = .ok (.athrow, 1) := by decide +kernel
theorem dX10_drop_50 : decode cX10_drop 50 = .ok (.iinc 5 1, 3) := by decide +kernel
theorem dX10_drop_53 : decode cX10_drop 53 = .ok (.goto (-35), 3) := by decide +kernel
theorem dX10_drop_56 : decode cX10_drop 56 = .ok (.aload_n 2, 1) := by decide +kernel
theorem dX10_drop_57 : decode cX10_drop 57 = .ok (.invokevirtual 119, 3) := by decide +kernel
theorem dX10_drop_60 : decode cX10_drop 60 = .ok (.return_, 1) := by decide +kernel
theorem dX10_put_0 : decode cX10_put 0 = .ok (.aload_n 0, 1) := by decide +kernel
theorem dX10_put_1 : decode cX10_put 1 = .ok (.iload_n 1, 1) := by decide +kernel
theorem dX10_put_2 : decode cX10_put 2 = .ok (.invokevirtual 122, 3) := by decide +kernel
theorem dX10_put_5 : decode cX10_put 5 = .ok (.astore 7, 2) := by decide +kernel
theorem dX10_put_7 : decode cX10_put 7 = .ok (.iload 6, 2) := by decide +kernel
theorem dX10_put_9 : decode cX10_put 9 = .ok (.ifCond .eq 17, 3) := by decide +kernel
theorem dX10_put_12 : decode cX10_put 12 = .ok (.iload 6, 2) := by decide +kernel
theorem dX10_put_14 : decode cX10_put 14 = .ok (.ldc 125, 2) := by decide +kernel
theorem dX10_put_16 : decode cX10_put 16 = .ok (.if_icmp .lt 10, 3) := by decide +kernel
theorem dX10_put_19 : decode cX10_put 19 = .ok (.iload 6, 2) := by decide +kernel
theorem dX10_put_21 : decode cX10_put 21 = .ok (.ldc 126, 2) := by decide +kernel
theorem dX10_put_23 : decode cX10_put 23 = .ok (.if_icmp .le 13, 3) := by decide +kernel
theorem dX10_put_26 : decode cX10_put 26 = .ok (.new 28, 3) := by decide +kernel
theorem dX10_put_29 : decode cX10_put 29 = .ok (.dup, 1) := by decide +kernel
theorem dX10_put_30 : decode cX10_put 30 = .ok (.ldc 127, 2) := by decide +kernel
theorem dX10_put_32 : decode cX10_put 32 = .ok (.invokespecial 32, 3) := by decide +kernel
theorem dX10_put_35 : decode cX10_put 35 = .ok (.athrow, 1) := by decide +kernel
theorem dX10_put_36 : decode cX10_put 36 = .ok (.aload_n 0, 1) := by decide +kernel
theorem dX10_put_37 : decode cX10_put 37 = .ok (.aload 7, 2) := by decide +kernel
theorem dX10_put_39 : decode cX10_put 39 = .ok (.iload_n 2, 1) := by decide +kernel
theorem dX10_put_40 : decode cX10_put 40 = .ok (.iload_n 3, 1) := by decide +kernel
theorem dX10_put_41 : decode cX10_put 41 = .ok (.iload 4, 2) := by decide +kernel
theorem dX10_put_43 : decode cX10_put 43 = .ok (.iload 5, 2) := by decide +kernel
theorem dX10_put_45 : decode cX10_put 45 = .ok (.invokevirtual 129, 3) := by decide +kernel
theorem dX10_put_48 : decode cX10_put 48 = .ok (.aload 7, 2) := by decide +kernel
theorem dX10_put_50 : decode cX10_put 50 = .ok (.getfield 35, 3) := by decide +kernel
theorem dX10_put_53 : decode cX10_put 53 = .ok (.aload_n 0, 1) := by decide +kernel
theorem dX10_put_54 : decode cX10_put 54 = .ok (.getfield 15, 3) := by decide +kernel
theorem dX10_put_57 : decode cX10_put 57 = .ok (.invokevirtual 133, 3) := by decide +kernel
theorem dX10_put_60 : decode cX10_put 60 = .ok (.istore 8, 2) := by decide +kernel
theorem dX10_put_62 : decode cX10_put 62 = .ok (.iload 8, 2) := by decide +kernel
theorem dX10_put_64 : decode cX10_put 64 = .ok (.iload 6, 2) := by decide +kernel
theorem dX10_put_66 : decode cX10_put 66 = .ok (.iadd, 1) := by decide +kernel
theorem dX10_put_67 : decode cX10_put 67 = .ok (.ifCond .ge 13, 3) := by decide +kernel
theorem dX10_put_70 : decode cX10_put 70 = .ok (.new 28, 3) := by decide +kernel
theorem dX10_put_73 : decode cX10_put 73 = .ok (.dup, 1) := by decide +kernel
theorem dX10_put_74 : decode cX10_put 74 = .ok (.ldc 136, 2) := by decide +kernel
theorem dX10_put_76 : decode cX10_put 76 = .ok (.invokespecial 32, 3) := by decide +kernel
theorem dX10_put_79 : decode cX10_put 79 = .ok (.athrow, 1) := by decide +kernel
theorem dX10_put_80 : decode cX10_put 80 = .ok (.aload 7, 2) := by decide +kernel
theorem dX10_put_82 : decode cX10_put 82 = .ok (.getfield 138, 3) := by decide +kernel
theorem dX10_put_85 : decode cX10_put 85 = .ok (.aload 7, 2) := by decide +kernel
theorem dX10_put_87 : decode cX10_put 87 = .ok (.getfield 35, 3) := by decide +kernel
theorem dX10_put_90 : decode cX10_put 90 = .ok (.invokevirtual 141, 3) := by decide +kernel
theorem dX10_put_93 : decode cX10_put 93 = .ok (.aload_n 0, 1) := by decide +kernel
theorem dX10_put_94 : decode cX10_put 94 = .ok (.aload 7, 2) := by decide +kernel
theorem dX10_put_96 : decode cX10_put 96 = .ok (.getfield 138, 3) := by decide +kernel
theorem dX10_put_99 : decode cX10_put 99 = .ok (.aload_n 0, 1) := by decide +kernel
theorem dX10_put_100 : decode cX10_put 100 = .ok (.getfield 15, 3) := by decide +kernel
theorem dX10_put_103 : decode cX10_put 103 = .ok (.iload 6, 2) := by decide +kernel
theorem dX10_put_105 : decode cX10_put 105 = .ok (.i2l, 1) := by decide +kernel
theorem dX10_put_106 : decode cX10_put 106 = .ok (.invokevirtual 145, 3) := by decide +kernel
theorem dX10_put_109 : decode cX10_put 109 = .ok (.ifCond .eq 16, 3) := by decide +kernel
theorem dX10_put_112 : decode cX10_put 112 = .ok (.aload_n 0, 1) := by decide +kernel
theorem dX10_put_113 : decode cX10_put 113 = .ok (.aload 7, 2) := by decide +kernel
theorem dX10_put_115 : decode cX10_put 115 = .ok (.invokevirtual 149, 3) := by decide +kernel
theorem dX10_put_118 : decode cX10_put 118 = .ok (.ifCond .eq 7, 3) := by decide +kernel
theorem dX10_put_121 : decode cX10_put 121 = .ok (.iconst 1, 1) := by decide +kernel
theorem dX10_put_122 : decode cX10_put 122 = .ok (.goto 4, 3) := by decide +kernel
theorem dX10_put_125 : decode cX10_put 125 = .ok (.iconst 0, 1) := by decide +kernel
theorem dX10_put_126 : decode cX10_put 126 = .ok (.invokevirtual 152, 3) := by decide +kernel
theorem dX10_put_129 : decode cX10_put 129 = .ok (.iload 8, 2) := by decide +kernel
theorem dX10_put_131 : decode cX10_put 131 = .ok (.iload 6, 2) := by decide +kernel
theorem dX10_put_133 : decode cX10_put 133 = .ok (.iadd, 1) := by decide +kernel
theorem dX10_put_134 : decode cX10_put 134 = .ok (.ireturn, 1) := by decide +kernel
theorem dX10_fill_0 : decode cX10_fill 0 = .ok (.aload_n 0, 1) := by decide +kernel
theorem dX10_fill_1 : decode cX10_fill 1 = .ok (.iload_n 1, 1) := by decide +kernel
theorem dX10_fill_2 : decode cX10_fill 2 = .ok (.invokevirtual 122, 3) := by decide +kernel
theorem dX10_fill_5 : decode cX10_fill 5 = .ok (.astore 7, 2) := by decide +kernel
theorem dX10_fill_7 : decode cX10_fill 7 = .ok (.iload 6, 2) := by decide +kernel
theorem dX10_fill_9 : decode cX10_fill 9 = .ok (.iconst 1, 1) := by decide +kernel
theorem dX10_fill_10 : decode cX10_fill 10 = .ok (.if_icmp .lt 10, 3) := by decide +kernel
theorem dX10_fill_13 : decode cX10_fill 13 = .ok (.iload 6, 2) := by decide +kernel
theorem dX10_fill_15 : decode cX10_fill 15 = .ok (.bipush 40, 2) := by decide +kernel
theorem dX10_fill_17 : decode cX10_fill 17 = .ok (.if_icmp .le 13, 3) := by decide +kernel
theorem dX10_fill_20 : decode cX10_fill 20 = .ok (.new 28, 3) := by decide +kernel
theorem dX10_fill_23 : decode cX10_fill 23 = .ok (.dup, 1) := by decide +kernel
theorem dX10_fill_24 : decode cX10_fill 24 = .ok (.ldc 156, 2) := by decide +kernel
theorem dX10_fill_26 : decode cX10_fill 26 = .ok (.invokespecial 32, 3) := by decide +kernel
theorem dX10_fill_29 : decode cX10_fill 29 = .ok (.athrow, 1) := by decide +kernel
theorem dX10_fill_30 : decode cX10_fill 30 = .ok (.aload 7, 2) := by decide +kernel
theorem dX10_fill_32 : decode cX10_fill 32 = .ok (.getfield 138, 3) := by decide +kernel
theorem dX10_fill_35 : decode cX10_fill 35 = .ok (.aload 7, 2) := by decide +kernel
theorem dX10_fill_37 : decode cX10_fill 37 = .ok (.getfield 35, 3) := by decide +kernel
theorem dX10_fill_40 : decode cX10_fill 40 = .ok (.invokevirtual 141, 3) := by decide +kernel
theorem dX10_fill_43 : decode cX10_fill 43 = .ok (.iconst 1, 1) := by decide +kernel
theorem dX10_fill_44 : decode cX10_fill 44 = .ok (.istore 8, 2) := by decide +kernel
theorem dX10_fill_46 : decode cX10_fill 46 = .ok (.iconst 0, 1) := by decide +kernel
theorem dX10_fill_47 : decode cX10_fill 47 = .ok (.istore 9, 2) := by decide +kernel
theorem dX10_fill_49 : decode cX10_fill 49 = .ok (.iload 9, 2) := by decide +kernel
theorem dX10_fill_51 : decode cX10_fill 51 = .ok (.iload 6, 2) := by decide +kernel
theorem dX10_fill_53 : decode cX10_fill 53 = .ok (.if_icmp .ge 51, 3) := by decide +kernel
theorem dX10_fill_56 : decode cX10_fill 56 = .ok (.iload 8, 2) := by decide +kernel
theorem dX10_fill_58 : decode cX10_fill 58 = .ok (.ifCond .eq 46, 3) := by decide +kernel
theorem dX10_fill_61 : decode cX10_fill 61 = .ok (.aload_n 0, 1) := by decide +kernel
theorem dX10_fill_62 : decode cX10_fill 62 = .ok (.aload 7, 2) := by decide +kernel
theorem dX10_fill_64 : decode cX10_fill 64 = .ok (.iload_n 2, 1) := by decide +kernel
theorem dX10_fill_65 : decode cX10_fill 65 = .ok (.iload 9, 2) := by decide +kernel
theorem dX10_fill_67 : decode cX10_fill 67 = .ok (.iload_n 3, 1) := by decide +kernel
theorem dX10_fill_68 : decode cX10_fill 68 = .ok (.imul, 1) := by decide +kernel
theorem dX10_fill_69 : decode cX10_fill 69 = .ok (.iadd, 1) := by decide +kernel
theorem dX10_fill_70 : decode cX10_fill 70 = .ok (.iload 4, 2) := by decide +kernel
theorem dX10_fill_72 : decode cX10_fill 72 = .ok (.iload 9, 2) := by decide +kernel
theorem dX10_fill_74 : decode cX10_fill 74 = .ok (.iload 5, 2) := by decide +kernel
theorem dX10_fill_76 : decode cX10_fill 76 = .ok (.imul, 1) := by decide +kernel
theorem dX10_fill_77 : decode cX10_fill 77 = .ok (.iadd, 1) := by decide +kernel
theorem dX10_fill_78 : decode cX10_fill 78 = .ok (.iconst 0, 1) := by decide +kernel
theorem dX10_fill_79 : decode cX10_fill 79 = .ok (.iconst 0, 1) := by decide +kernel
theorem dX10_fill_80 : decode cX10_fill 80 = .ok (.invokevirtual 129, 3) := by decide +kernel
theorem dX10_fill_83 : decode cX10_fill 83 = .ok (.aload 7, 2) := by decide +kernel
theorem dX10_fill_85 : decode cX10_fill 85 = .ok (.getfield 138, 3) := by decide +kernel
theorem dX10_fill_88 : decode cX10_fill 88 = .ok (.aload_n 0, 1) := by decide +kernel
theorem dX10_fill_89 : decode cX10_fill 89 = .ok (.getfield 15, 3) := by decide +kernel
theorem dX10_fill_92 : decode cX10_fill 92 = .ok (.lconst 1, 1) := by decide +kernel
theorem dX10_fill_93 : decode cX10_fill 93 = .ok (.invokevirtual 145, 3) := by decide +kernel
theorem dX10_fill_96 : decode cX10_fill 96 = .ok (.istore 8, 2) := by decide +kernel
theorem dX10_fill_98 : decode cX10_fill 98 = .ok (.iinc 9 1, 3) := by decide +kernel
theorem dX10_fill_101 : decode cX10_fill 101 = .ok (.goto (-52), 3) := by decide +kernel
theorem dX10_fill_104 : decode cX10_fill 104 = .ok (.aload_n 0, 1) := by decide +kernel
theorem dX10_fill_105 : decode cX10_fill 105 = .ok (.iload 8, 2) := by decide +kernel
theorem dX10_fill_107 : decode cX10_fill 107 = .ok (.ifCond .eq 16, 3) := by decide +kernel
theorem dX10_fill_110 : decode cX10_fill 110 = .ok (.aload_n 0, 1) := by decide +kernel
theorem dX10_fill_111 : decode cX10_fill 111 = .ok (.aload 7, 2) := by decide +kernel
theorem dX10_fill_113 : decode cX10_fill 113 = .ok (.invokevirtual 149, 3) := by decide +kernel
theorem dX10_fill_116 : decode cX10_fill 116 = .ok (.ifCond .eq 7, 3) := by decide +kernel
theorem dX10_fill_119 : decode cX10_fill 119 = .ok (.iconst 1, 1) := by decide +kernel
theorem dX10_fill_120 : decode cX10_fill 120 = .ok (.goto 4, 3) := by decide +kernel
theorem dX10_fill_123 : decode cX10_fill 123 = .ok (.iconst 0, 1) := by decide +kernel
theorem dX10_fill_124 : decode cX10_fill 124 = .ok (.invokevirtual 152, 3) := by decide +kernel
theorem dX10_fill_127 : decode cX10_fill 127 = .ok (.aload 7, 2) := by decide +kernel
theorem dX10_fill_129 : decode cX10_fill 129 = .ok (.getfield 35, 3) := by decide +kernel
theorem dX10_fill_132 : decode cX10_fill 132 = .ok (.getfield 158, 3) := by decide +kernel
theorem dX10_fill_135 : decode cX10_fill 135 = .ok (.ireturn, 1) := by decide +kernel
theorem dX10_width_0 : decode cX10_width 0 = .ok (.aload_n 0, 1) := by decide +kernel
theorem dX10_width_1 : decode cX10_width 1 = .ok (.iload_n 1, 1) := by decide +kernel
theorem dX10_width_2 : decode cX10_width 2 = .ok (.invokevirtual 20, 3) := by decide +kernel
theorem dX10_width_5 : decode cX10_width 5 = .ok (.getfield 57, 3) := by decide +kernel
theorem dX10_width_8 : decode cX10_width 8 = .ok (.ireturn, 1) := by decide +kernel
theorem dX10_rows_0 : decode cX10_rows 0 = .ok (.aload_n 0, 1) := by decide +kernel
theorem dX10_rows_1 : decode cX10_rows 1 = .ok (.iload_n 1, 1) := by decide +kernel
theorem dX10_rows_2 : decode cX10_rows 2 = .ok (.invokevirtual 48, 3) := by decide +kernel
theorem dX10_rows_5 : decode cX10_rows 5 = .ok (.getfield 35, 3) := by decide +kernel
theorem dX10_rows_8 : decode cX10_rows 8 = .ok (.getfield 158, 3) := by decide +kernel
theorem dX10_rows_11 : decode cX10_rows 11 = .ok (.ireturn, 1) := by decide +kernel
theorem dX10_size_0 : decode cX10_size 0 = .ok (.aload_n 0, 1) := by decide +kernel
theorem dX10_size_1 : decode cX10_size 1 = .ok (.iload_n 1, 1) := by decide +kernel
theorem dX10_size_2 : decode cX10_size 2 = .ok (.invokevirtual 48, 3) := by decide +kernel
theorem dX10_size_5 : decode cX10_size 5 = .ok (.getfield 35, 3) := by decide +kernel
theorem dX10_size_8 : decode cX10_size 8 = .ok (.invokevirtual 161, 3) := by decide +kernel
theorem dX10_size_11 : decode cX10_size 11 = .ok (.lreturn, 1) := by decide +kernel
theorem dX10_times_0 : decode cX10_times 0 = .ok (.aload_n 0, 1) := by decide +kernel
theorem dX10_times_1 : decode cX10_times 1 = .ok (.iload_n 1, 1) := by decide +kernel
theorem dX10_times_2 : decode cX10_times 2 = .ok (.invokevirtual 48, 3) := by decide +kernel
theorem dX10_times_5 : decode cX10_times 5 = .ok (.astore 6, 2) := by decide +kernel
theorem dX10_times_7 : decode cX10_times 7 = .ok (.aload_n 0, 1) := by decide +kernel
theorem dX10_times_8 : decode cX10_times 8 = .ok (.aload 6, 2) := by decide +kernel
theorem dX10_times_10 : decode cX10_times 10 = .ok (.iload_n 2, 1) := by decide +kernel
theorem dX10_times_11 : decode cX10_times 11 = .ok (.iload_n 3, 1) := by decide +kernel
theorem dX10_times_12 : decode cX10_times 12 = .ok (.iload 4, 2) := by decide +kernel
theorem dX10_times_14 : decode cX10_times 14 = .ok (.iload 5, 2) := by decide +kernel
theorem dX10_times_16 : decode cX10_times 16 = .ok (.invokevirtual 129, 3) := by decide +kernel
theorem dX10_times_19 : decode cX10_times 19 = .ok (.aload 6, 2) := by decide +kernel
theorem dX10_times_21 : decode cX10_times 21 = .ok (.getfield 35, 3) := by decide +kernel
theorem dX10_times_24 : decode cX10_times 24 = .ok (.aload_n 0, 1) := by decide +kernel
theorem dX10_times_25 : decode cX10_times 25 = .ok (.getfield 15, 3) := by decide +kernel
theorem dX10_times_28 : decode cX10_times 28 = .ok (.invokevirtual 133, 3) := by decide +kernel
theorem dX10_times_31 : decode cX10_times 31 = .ok (.ireturn, 1) := by decide +kernel
theorem dX10_cell_0 : decode cX10_cell 0 = .ok (.aload_n 0, 1) := by decide +kernel
theorem dX10_cell_1 : decode cX10_cell 1 = .ok (.iload_n 1, 1) := by decide +kernel
theorem dX10_cell_2 : decode cX10_cell 2 = .ok (.invokevirtual 48, 3) := by decide +kernel
theorem dX10_cell_5 : decode cX10_cell 5 = .ok (.astore 4, 2) := by decide +kernel
theorem dX10_cell_7 : decode cX10_cell 7 = .ok (.iload_n 2, 1) := by decide +kernel
theorem dX10_cell_8 : decode cX10_cell 8 = .ok (.ifCond .lt 15, 3) := by decide +kernel
theorem dX10_cell_11 : decode cX10_cell 11 = .ok (.iload_n 2, 1) := by decide +kernel
theorem dX10_cell_12 : decode cX10_cell 12 = .ok (.aload 4, 2) := by decide +kernel
theorem dX10_cell_14 : decode cX10_cell 14 = .ok (.getfield 35, 3) := by decide +kernel
theorem dX10_cell_17 : decode cX10_cell 17 = .ok (.getfield 158, 3) := by decide +kernel
theorem dX10_cell_20 : decode cX10_cell 20 = .ok (.if_icmp .lt 13, 3) := by decide +kernel
theorem dX10_cell_23 : decode cX10_cell 23 = .ok (.new 165, 3) := by decide +kernel
theorem dX10_cell_26 : decode cX10_cell 26 = .ok (.dup, 1) := by decide +kernel
theorem dX10_cell_27 : decode cX10_cell 27 = .ok (.ldc 167, 2) := by decide +kernel
theorem dX10_cell_29 : decode cX10_cell 29 = .ok (.invokespecial 169, 3) := by decide +kernel
theorem dX10_cell_32 : decode cX10_cell 32 = .ok (.athrow, 1) := by decide +kernel
theorem dX10_cell_33 : decode cX10_cell 33 = .ok (.iload_n 3, 1) := by decide +kernel
theorem dX10_cell_34 : decode cX10_cell 34 = .ok (.aload 4, 2) := by decide +kernel
theorem dX10_cell_36 : decode cX10_cell 36 = .ok (.getfield 57, 3) := by decide +kernel
theorem dX10_cell_39 : decode cX10_cell 39 = .ok (.if_icmp .ne 14, 3) := by decide +kernel
theorem dX10_cell_42 : decode cX10_cell 42 = .ok (.aload 4, 2) := by decide +kernel
theorem dX10_cell_44 : decode cX10_cell 44 = .ok (.getfield 35, 3) := by decide +kernel
theorem dX10_cell_47 : decode cX10_cell 47 = .ok (.getfield 170, 3) := by decide +kernel
theorem dX10_cell_50 : decode cX10_cell 50 = .ok (.iload_n 2, 1) := by decide +kernel
theorem dX10_cell_51 : decode cX10_cell 51 = .ok (.iaload, 1) := by decide +kernel
theorem dX10_cell_52 : decode cX10_cell 52 = .ok (.ireturn, 1) := by decide +kernel
theorem dX10_cell_53 : decode cX10_cell 53 = .ok (.aload 4, 2) := by decide +kernel
theorem dX10_cell_55 : decode cX10_cell 55 = .ok (.iload_n 3, 1) := by decide +kernel
theorem dX10_cell_56 : decode cX10_cell 56 = .ok (.invokestatic 51, 3) := by decide +kernel
theorem dX10_cell_59 : decode cX10_cell 59 = .ok (.aload 4, 2) := by decide +kernel
theorem dX10_cell_61 : decode cX10_cell 61 = .ok (.getfield 35, 3) := by decide +kernel
theorem dX10_cell_64 : decode cX10_cell 64 = .ok (.iload_n 2, 1) := by decide +kernel
theorem dX10_cell_65 : decode cX10_cell 65 = .ok (.iload_n 3, 1) := by decide +kernel
theorem dX10_cell_66 : decode cX10_cell 66 = .ok (.invokevirtual 173, 3) := by decide +kernel
theorem dX10_cell_69 : decode cX10_cell 69 = .ok (.ireturn, 1) := by decide +kernel
theorem dX10_changed_0 : decode cX10_changed 0 = .ok (.aload_n 0, 1) := by decide +kernel
theorem dX10_changed_1 : decode cX10_changed 1 = .ok (.iload_n 1, 1) := by decide +kernel
theorem dX10_changed_2 : decode cX10_changed 2 = .ok (.invokevirtual 48, 3) := by decide +kernel
theorem dX10_changed_5 : decode cX10_changed 5 = .ok (.getfield 177, 3) := by decide +kernel
theorem dX10_changed_8 : decode cX10_changed 8 = .ok (.ireturn, 1) := by decide +kernel
theorem dX10_count_0 : decode cX10_count 0 = .ok (.iload_n 1, 1) := by decide +kernel
theorem dX10_count_1 : decode cX10_count 1 = .ok (.ifCond .lt 8, 3) := by decide +kernel
theorem dX10_count_4 : decode cX10_count 4 = .ok (.iload_n 1, 1) := by decide +kernel
theorem dX10_count_5 : decode cX10_count 5 = .ok (.iconst 2, 1) := by decide +kernel
theorem dX10_count_6 : decode cX10_count 6 = .ok (.if_icmp .le 13, 3) := by decide +kernel
theorem dX10_count_9 : decode cX10_count 9 = .ok (.new 28, 3) := by decide +kernel
theorem dX10_count_12 : decode cX10_count 12 = .ok (.dup, 1) := by decide +kernel
theorem dX10_count_13 : decode cX10_count 13 = .ok (.ldc 180, 2) := by decide +kernel
theorem dX10_count_15 : decode cX10_count 15 = .ok (.invokespecial 32, 3) := by decide +kernel
theorem dX10_count_18 : decode cX10_count 18 = .ok (.athrow, 1) := by decide +kernel
theorem dX10_count_19 : decode cX10_count 19 = .ok (.iconst 0, 1) := by decide +kernel
theorem dX10_count_20 : decode cX10_count 20 = .ok (.istore_n 2, 1) := by decide +kernel
theorem dX10_count_21 : decode cX10_count 21 = .ok (.aload_n 0, 1) := by decide +kernel
theorem dX10_count_22 : decode cX10_count 22 = .ok (.getfield 11, 3) := by decide +kernel
theorem dX10_count_25 : decode cX10_count 25 = .ok (.astore_n 3, 1) := by decide +kernel
theorem dX10_count_26 : decode cX10_count 26 = .ok (.aload_n 3, 1) := by decide +kernel
theorem dX10_count_27 : decode cX10_count 27 = .ok (.arraylength, 1) := by decide +kernel
theorem dX10_count_28 : decode cX10_count 28 = .ok (.istore 4, 2) := by decide +kernel
theorem dX10_count_30 : decode cX10_count 30 = .ok (.iconst 0, 1) := by decide +kernel
theorem dX10_count_31 : decode cX10_count 31 = .ok (.istore 5, 2) := by decide +kernel
theorem dX10_count_33 : decode cX10_count 33 = .ok (.iload 5, 2) := by decide +kernel
theorem dX10_count_35 : decode cX10_count 35 = .ok (.iload 4, 2) := by decide +kernel
theorem dX10_count_37 : decode cX10_count 37 = .ok (.if_icmp .ge 32, 3) := by decide +kernel
theorem dX10_count_40 : decode cX10_count 40 = .ok (.aload_n 3, 1) := by decide +kernel
theorem dX10_count_41 : decode cX10_count 41 = .ok (.iload 5, 2) := by decide +kernel
theorem dX10_count_43 : decode cX10_count 43 = .ok (.aaload, 1) := by decide +kernel
theorem dX10_count_44 : decode cX10_count 44 = .ok (.astore 6, 2) := by decide +kernel
theorem dX10_count_46 : decode cX10_count 46 = .ok (.aload 6, 2) := by decide +kernel
theorem dX10_count_48 : decode cX10_count 48 = .ok (.invokevirtual 182, 3) := by decide +kernel
theorem dX10_count_51 : decode cX10_count 51 = .ok (.ifCond .eq 12, 3) := by decide +kernel
theorem dX10_count_54 : decode cX10_count 54 = .ok (.iload_n 2, 1) := by decide +kernel
theorem dX10_count_55 : decode cX10_count 55 = .ok (.aload 6, 2) := by decide +kernel
theorem dX10_count_57 : decode cX10_count 57 = .ok (.iload_n 1, 1) := by decide +kernel
theorem dX10_count_58 : decode cX10_count 58 = .ok (.invokestatic 186, 3) := by decide +kernel
theorem dX10_count_61 : decode cX10_count 61 = .ok (.iadd, 1) := by decide +kernel
theorem dX10_count_62 : decode cX10_count 62 = .ok (.istore_n 2, 1) := by decide +kernel
theorem dX10_count_63 : decode cX10_count 63 = .ok (.iinc 5 1, 3) := by decide +kernel
theorem dX10_count_66 : decode cX10_count 66 = .ok (.goto (-33), 3) := by decide +kernel
theorem dX10_count_69 : decode cX10_count 69 = .ok (.iload_n 2, 1) := by decide +kernel
theorem dX10_count_70 : decode cX10_count 70 = .ok (.ireturn, 1) := by decide +kernel
theorem dX10_countIn_0 : decode cX10_countIn 0 = .ok (.iload_n 1, 1) := by decide +kernel
theorem dX10_countIn_1 : decode cX10_countIn 1 = .ok (.lookupswitch 42 #[(0, 27), (1, 29)], 27) := by decide +kernel
theorem dX10_countIn_28 : decode cX10_countIn 28 = .ok (.iconst 1, 1) := by decide +kernel
theorem dX10_countIn_29 : decode cX10_countIn 29 = .ok (.ireturn, 1) := by decide +kernel
theorem dX10_countIn_30 : decode cX10_countIn 30 = .ok (.aload_n 0, 1) := by decide +kernel
theorem dX10_countIn_31 : decode cX10_countIn 31 = .ok (.getfield 190, 3) := by decide +kernel
theorem dX10_countIn_34 : decode cX10_countIn 34 = .ok (.ifnonnull 7, 3) := by decide +kernel
theorem dX10_countIn_37 : decode cX10_countIn 37 = .ok (.iconst 1, 1) := by decide +kernel
theorem dX10_countIn_38 : decode cX10_countIn 38 = .ok (.goto 4, 3) := by decide +kernel
theorem dX10_countIn_41 : decode cX10_countIn 41 = .ok (.iconst 0, 1) := by decide +kernel
theorem dX10_countIn_42 : decode cX10_countIn 42 = .ok (.ireturn, 1) := by decide +kernel
theorem dX10_countIn_43 : decode cX10_countIn 43 = .ok (.aload_n 0, 1) := by decide +kernel
theorem dX10_countIn_44 : decode cX10_countIn 44 = .ok (.getfield 35, 3) := by decide +kernel
theorem dX10_countIn_47 : decode cX10_countIn 47 = .ok (.getfield 158, 3) := by decide +kernel
theorem dX10_countIn_50 : decode cX10_countIn 50 = .ok (.ireturn, 1) := by decide +kernel
theorem dX10_placeAt_0 : decode cX10_placeAt 0 = .ok (.iload_n 1, 1) := by decide +kernel
theorem dX10_placeAt_1 : decode cX10_placeAt 1 = .ok (.ifCond .lt 9, 3) := by decide +kernel
theorem dX10_placeAt_4 : decode cX10_placeAt 4 = .ok (.iload_n 1, 1) := by decide +kernel
theorem dX10_placeAt_5 : decode cX10_placeAt 5 = .ok (.bipush 8, 2) := by decide +kernel
theorem dX10_placeAt_7 : decode cX10_placeAt 7 = .ok (.if_icmp .lt 13, 3) := by decide +kernel
theorem dX10_placeAt_10 : decode cX10_placeAt 10 = .ok (.new 165, 3) := by decide +kernel
theorem dX10_placeAt_13 : decode cX10_placeAt 13 = .ok (.dup, 1) := by decide +kernel
theorem dX10_placeAt_14 : decode cX10_placeAt 14 = .ok (.ldc 194, 2) := by decide +kernel
theorem dX10_placeAt_16 : decode cX10_placeAt 16 = .ok (.invokespecial 169, 3) := by decide +kernel
theorem dX10_placeAt_19 : decode cX10_placeAt 19 = .ok (.athrow, 1) := by decide +kernel
theorem dX10_placeAt_20 : decode cX10_placeAt 20 = .ok (.aload_n 0, 1) := by decide +kernel
theorem dX10_placeAt_21 : decode cX10_placeAt 21 = .ok (.getfield 11, 3) := by decide +kernel
theorem dX10_placeAt_24 : decode cX10_placeAt 24 = .ok (.iload_n 1, 1) := by decide +kernel
theorem dX10_placeAt_25 : decode cX10_placeAt 25 = .ok (.aaload, 1) := by decide +kernel
theorem dX10_placeAt_26 : decode cX10_placeAt 26 = .ok (.areturn, 1) := by decide +kernel
theorem dX10_relationAt_0 : decode cX10_relationAt 0 = .ok (.aload_n 0, 1) := by decide +kernel
theorem dX10_relationAt_1 : decode cX10_relationAt 1 = .ok (.iload_n 1, 1) := by decide +kernel
theorem dX10_relationAt_2 : decode cX10_relationAt 2 = .ok (.invokevirtual 20, 3) := by decide +kernel
theorem dX10_relationAt_5 : decode cX10_relationAt 5 = .ok (.astore_n 2, 1) := by decide +kernel
theorem dX10_relationAt_6 : decode cX10_relationAt 6 = .ok (.aload_n 2, 1) := by decide +kernel
theorem dX10_relationAt_7 : decode cX10_relationAt 7 = .ok (.invokevirtual 182, 3) := by decide +kernel
theorem dX10_relationAt_10 : decode cX10_relationAt 10 = .ok (.ifCond .ne 13, 3) := by decide +kernel
theorem dX10_relationAt_13 : decode cX10_relationAt 13 = .ok (.new 165, 3) := by decide +kernel
theorem dX10_relationAt_16 : decode cX10_relationAt 16 = .ok (.dup, 1) := by decide +kernel
theorem dX10_relationAt_17 : decode cX10_relationAt 17 = .ok (.ldc 196, 2) := by decide +kernel
theorem dX10_relationAt_19 : decode cX10_relationAt 19 = .ok (.invokespecial 169, 3) := by decide +kernel
theorem dX10_relationAt_22 : decode cX10_relationAt 22 = .ok (.athrow, 1) := by decide +kernel
theorem dX10_relationAt_23 : decode cX10_relationAt 23 = .ok (.aload_n 2, 1) := by decide +kernel
theorem dX10_relationAt_24 : decode cX10_relationAt 24 = .ok (.areturn, 1) := by decide +kernel
theorem dX10_tableAt_0 : decode cX10_tableAt 0 = .ok (.aload_n 0, 1) := by decide +kernel
theorem dX10_tableAt_1 : decode cX10_tableAt 1 = .ok (.iload_n 1, 1) := by decide +kernel
theorem dX10_tableAt_2 : decode cX10_tableAt 2 = .ok (.invokevirtual 48, 3) := by decide +kernel
theorem dX10_tableAt_5 : decode cX10_tableAt 5 = .ok (.astore_n 2, 1) := by decide +kernel
theorem dX10_tableAt_6 : decode cX10_tableAt 6 = .ok (.aload_n 2, 1) := by decide +kernel
theorem dX10_tableAt_7 : decode cX10_tableAt 7 = .ok (.getfield 190, 3) := by decide +kernel
theorem dX10_tableAt_10 : decode cX10_tableAt 10 = .ok (.ifnull 13, 3) := by decide +kernel
theorem dX10_tableAt_13 : decode cX10_tableAt 13 = .ok (.new 114, 3) := by decide +kernel
theorem dX10_tableAt_16 : decode cX10_tableAt 16 = .ok (.dup, 1) := by decide +kernel
theorem dX10_tableAt_17 : decode cX10_tableAt 17 = .ok (.ldc 198, 2) := by decide +kernel
theorem dX10_tableAt_19 : decode cX10_tableAt 19 = .ok (.invokespecial 118, 3) := by decide +kernel
theorem dX10_tableAt_22 : decode cX10_tableAt 22 = .ok (.athrow, 1) := by decide +kernel
theorem dX10_tableAt_23 : decode cX10_tableAt 23 = .ok (.aload_n 2, 1) := by decide +kernel
theorem dX10_tableAt_24 : decode cX10_tableAt 24 = .ok (.areturn, 1) := by decide +kernel
theorem dX10_needFree_0 : decode cX10_needFree 0 = .ok (.aload_n 0, 1) := by decide +kernel
theorem dX10_needFree_1 : decode cX10_needFree 1 = .ok (.invokevirtual 182, 3) := by decide +kernel
theorem dX10_needFree_4 : decode cX10_needFree 4 = .ok (.ifCond .eq 13, 3) := by decide +kernel
theorem dX10_needFree_7 : decode cX10_needFree 7 = .ok (.new 114, 3) := by decide +kernel
theorem dX10_needFree_10 : decode cX10_needFree 10 = .ok (.dup, 1) := by decide +kernel
theorem dX10_needFree_11 : decode cX10_needFree 11 = .ok (.ldc 200, 2) := by decide +kernel
theorem dX10_needFree_13 : decode cX10_needFree 13 = .ok (.invokespecial 118, 3) := by decide +kernel
theorem dX10_needFree_16 : decode cX10_needFree 16 = .ok (.athrow, 1) := by decide +kernel
theorem dX10_needFree_17 : decode cX10_needFree 17 = .ok (.return_, 1) := by decide +kernel
theorem dX10_needColumn_0 : decode cX10_needColumn 0 = .ok (.iload_n 1, 1) := by decide +kernel
theorem dX10_needColumn_1 : decode cX10_needColumn 1 = .ok (.ifCond .lt 11, 3) := by decide +kernel
theorem dX10_needColumn_4 : decode cX10_needColumn 4 = .ok (.iload_n 1, 1) := by decide +kernel
theorem dX10_needColumn_5 : decode cX10_needColumn 5 = .ok (.aload_n 0, 1) := by decide +kernel
theorem dX10_needColumn_6 : decode cX10_needColumn 6 = .ok (.getfield 57, 3) := by decide +kernel
theorem dX10_needColumn_9 : decode cX10_needColumn 9 = .ok (.if_icmp .lt 13, 3) := by decide +kernel
theorem dX10_needColumn_12 : decode cX10_needColumn 12 = .ok (.new 165, 3) := by decide +kernel
theorem dX10_needColumn_15 : decode cX10_needColumn 15 = .ok (.dup, 1) := by decide +kernel
theorem dX10_needColumn_16 : decode cX10_needColumn 16 = .ok (.ldc 202, 2) := by decide +kernel
theorem dX10_needColumn_18 : decode cX10_needColumn 18 = .ok (.invokespecial 169, 3) := by decide +kernel
theorem dX10_needColumn_21 : decode cX10_needColumn 21 = .ok (.athrow, 1) := by decide +kernel
theorem dX10_needColumn_22 : decode cX10_needColumn 22 = .ok (.return_, 1) := by decide +kernel
theorem dX10_needColumnOrNone_0 : decode cX10_needColumnOrNone 0 = .ok (.iload_n 1, 1) := by decide +kernel
theorem dX10_needColumnOrNone_1 : decode cX10_needColumnOrNone 1 = .ok (.iconst (-1), 1) := by decide +kernel
theorem dX10_needColumnOrNone_2 : decode cX10_needColumnOrNone 2 = .ok (.if_icmp .eq 8, 3) := by decide +kernel
theorem dX10_needColumnOrNone_5 : decode cX10_needColumnOrNone 5 = .ok (.aload_n 0, 1) := by decide +kernel
theorem dX10_needColumnOrNone_6 : decode cX10_needColumnOrNone 6 = .ok (.iload_n 1, 1) := by decide +kernel
theorem dX10_needColumnOrNone_7 : decode cX10_needColumnOrNone 7 = .ok (.invokestatic 51, 3) := by decide +kernel
theorem dX10_needColumnOrNone_10 : decode cX10_needColumnOrNone 10 = .ok (.return_, 1) := by decide +kernel
theorem dX10_countChosen_0 : decode cX10_countChosen 0 = .ok (.iconst 0, 1) := by decide +kernel
theorem dX10_countChosen_1 : decode cX10_countChosen 1 = .ok (.istore_n 1, 1) := by decide +kernel
theorem dX10_countChosen_2 : decode cX10_countChosen 2 = .ok (.iload_n 1, 1) := by decide +kernel
theorem dX10_countChosen_3 : decode cX10_countChosen 3 = .ok (.aload_n 0, 1) := by decide +kernel
theorem dX10_countChosen_4 : decode cX10_countChosen 4 = .ok (.arraylength, 1) := by decide +kernel
theorem dX10_countChosen_5 : decode cX10_countChosen 5 = .ok (.if_icmp .ge 16, 3) := by decide +kernel
theorem dX10_countChosen_8 : decode cX10_countChosen 8 = .ok (.aload_n 0, 1) := by decide +kernel
theorem dX10_countChosen_9 : decode cX10_countChosen 9 = .ok (.iload_n 1, 1) := by decide +kernel
theorem dX10_countChosen_10 : decode cX10_countChosen 10 = .ok (.iaload, 1) := by decide +kernel
theorem dX10_countChosen_11 : decode cX10_countChosen 11 = .ok (.iconst (-1), 1) := by decide +kernel
theorem dX10_countChosen_12 : decode cX10_countChosen 12 = .ok (.if_icmp .eq 9, 3) := by decide +kernel
theorem dX10_countChosen_15 : decode cX10_countChosen 15 = .ok (.iinc 1 1, 3) := by decide +kernel
theorem dX10_countChosen_18 : decode cX10_countChosen 18 = .ok (.goto (-16), 3) := by decide +kernel
theorem dX10_countChosen_21 : decode cX10_countChosen 21 = .ok (.iload_n 1, 1) := by decide +kernel
theorem dX10_countChosen_22 : decode cX10_countChosen 22 = .ok (.ifCond .ne 13, 3) := by decide +kernel
theorem dX10_countChosen_25 : decode cX10_countChosen 25 = .ok (.new 28, 3) := by decide +kernel
theorem dX10_countChosen_28 : decode cX10_countChosen 28 = .ok (.dup, 1) := by decide +kernel
theorem dX10_countChosen_29 : decode cX10_countChosen 29 = .ok (.ldc 204, 2) := by decide +kernel
theorem dX10_countChosen_31 : decode cX10_countChosen 31 = .ok (.invokespecial 32, 3) := by decide +kernel
theorem dX10_countChosen_34 : decode cX10_countChosen 34 = .ok (.athrow, 1) := by decide +kernel
theorem dX10_countChosen_35 : decode cX10_countChosen 35 = .ok (.iload_n 1, 1) := by decide +kernel
theorem dX10_countChosen_36 : decode cX10_countChosen 36 = .ok (.istore_n 2, 1) := by decide +kernel
theorem dX10_countChosen_37 : decode cX10_countChosen 37 = .ok (.iload_n 2, 1) := by decide +kernel
theorem dX10_countChosen_38 : decode cX10_countChosen 38 = .ok (.aload_n 0, 1) := by decide +kernel
theorem dX10_countChosen_39 : decode cX10_countChosen 39 = .ok (.arraylength, 1) := by decide +kernel
theorem dX10_countChosen_40 : decode cX10_countChosen 40 = .ok (.if_icmp .ge 26, 3) := by decide +kernel
theorem dX10_countChosen_43 : decode cX10_countChosen 43 = .ok (.aload_n 0, 1) := by decide +kernel
theorem dX10_countChosen_44 : decode cX10_countChosen 44 = .ok (.iload_n 2, 1) := by decide +kernel
theorem dX10_countChosen_45 : decode cX10_countChosen 45 = .ok (.iaload, 1) := by decide +kernel
theorem dX10_countChosen_46 : decode cX10_countChosen 46 = .ok (.iconst (-1), 1) := by decide +kernel
theorem dX10_countChosen_47 : decode cX10_countChosen 47 = .ok (.if_icmp .eq 13, 3) := by decide +kernel
theorem dX10_countChosen_50 : decode cX10_countChosen 50 = .ok (.new 28, 3) := by decide +kernel
theorem dX10_countChosen_53 : decode cX10_countChosen 53 = .ok (.dup, 1) := by decide +kernel
theorem dX10_countChosen_54 : decode cX10_countChosen 54 = .ok (.ldc 206, 2) := by decide +kernel
theorem dX10_countChosen_56 : decode cX10_countChosen 56 = .ok (.invokespecial 32, 3) := by decide +kernel
theorem dX10_countChosen_59 : decode cX10_countChosen 59 = .ok (.athrow, 1) := by decide +kernel
theorem dX10_countChosen_60 : decode cX10_countChosen 60 = .ok (.iinc 2 1, 3) := by decide +kernel
theorem dX10_countChosen_63 : decode cX10_countChosen 63 = .ok (.goto (-26), 3) := by decide +kernel
theorem dX10_countChosen_66 : decode cX10_countChosen 66 = .ok (.iload_n 1, 1) := by decide +kernel
theorem dX10_countChosen_67 : decode cX10_countChosen 67 = .ok (.ireturn, 1) := by decide +kernel
theorem dX10_makeView_0 : decode cX10_makeView 0 = .ok (.aload_n 0, 1) := by decide +kernel
theorem dX10_makeView_1 : decode cX10_makeView 1 = .ok (.getfield 35, 3) := by decide +kernel
theorem dX10_makeView_4 : decode cX10_makeView 4 = .ok (.invokevirtual 39, 3) := by decide +kernel
theorem dX10_makeView_7 : decode cX10_makeView 7 = .ok (.aload_n 2, 1) := by decide +kernel
theorem dX10_makeView_8 : decode cX10_makeView 8 = .ok (.aload_n 0, 1) := by decide +kernel
theorem dX10_makeView_9 : decode cX10_makeView 9 = .ok (.getfield 35, 3) := by decide +kernel
theorem dX10_makeView_12 : decode cX10_makeView 12 = .ok (.invokevirtual 208, 3) := by decide +kernel
theorem dX10_makeView_15 : decode cX10_makeView 15 = .ok (.ifCond .ne 13, 3) := by decide +kernel
theorem dX10_makeView_18 : decode cX10_makeView 18 = .ok (.new 214, 3) := by decide +kernel
theorem dX10_makeView_21 : decode cX10_makeView 21 = .ok (.dup, 1) := by decide +kernel
theorem dX10_makeView_22 : decode cX10_makeView 22 = .ok (.ldc 216, 2) := by decide +kernel
theorem dX10_makeView_24 : decode cX10_makeView 24 = .ok (.invokespecial 218, 3) := by decide +kernel
theorem dX10_makeView_27 : decode cX10_makeView 27 = .ok (.athrow, 1) := by decide +kernel
theorem dX10_makeView_28 : decode cX10_makeView 28 = .ok (.aload_n 0, 1) := by decide +kernel
theorem dX10_makeView_29 : decode cX10_makeView 29 = .ok (.iload_n 1, 1) := by decide +kernel
theorem dX10_makeView_30 : decode cX10_makeView 30 = .ok (.aload_n 2, 1) := by decide +kernel
theorem dX10_makeView_31 : decode cX10_makeView 31 = .ok (.invokevirtual 44, 3) := by decide +kernel
theorem dX10_makeView_34 : decode cX10_makeView 34 = .ok (.return_, 1) := by decide +kernel
theorem dX10_tell_0 : decode cX10_tell 0 = .ok (.aload_n 0, 1) := by decide +kernel
theorem dX10_tell_1 : decode cX10_tell 1 = .ok (.getfield 15, 3) := by decide +kernel
theorem dX10_tell_4 : decode cX10_tell 4 = .ok (.iconst 0, 1) := by decide +kernel
theorem dX10_tell_5 : decode cX10_tell 5 = .ok (.iload_n 2, 1) := by decide +kernel
theorem dX10_tell_6 : decode cX10_tell 6 = .ok (.iastore, 1) := by decide +kernel
theorem dX10_tell_7 : decode cX10_tell 7 = .ok (.aload_n 0, 1) := by decide +kernel
theorem dX10_tell_8 : decode cX10_tell 8 = .ok (.getfield 15, 3) := by decide +kernel
theorem dX10_tell_11 : decode cX10_tell 11 = .ok (.iconst 1, 1) := by decide +kernel
theorem dX10_tell_12 : decode cX10_tell 12 = .ok (.aload_n 1, 1) := by decide +kernel
theorem dX10_tell_13 : decode cX10_tell 13 = .ok (.getfield 57, 3) := by decide +kernel
theorem dX10_tell_16 : decode cX10_tell 16 = .ok (.iconst 1, 1) := by decide +kernel
theorem dX10_tell_17 : decode cX10_tell 17 = .ok (.if_icmp .le 7, 3) := by decide +kernel
theorem dX10_tell_20 : decode cX10_tell 20 = .ok (.iload_n 3, 1) := by decide +kernel
theorem dX10_tell_21 : decode cX10_tell 21 = .ok (.goto 4, 3) := by decide +kernel
theorem dX10_tell_24 : decode cX10_tell 24 = .ok (.iconst 0, 1) := by decide +kernel
theorem dX10_tell_25 : decode cX10_tell 25 = .ok (.iastore, 1) := by decide +kernel
theorem dX10_tell_26 : decode cX10_tell 26 = .ok (.aload_n 0, 1) := by decide +kernel
theorem dX10_tell_27 : decode cX10_tell 27 = .ok (.getfield 15, 3) := by decide +kernel
theorem dX10_tell_30 : decode cX10_tell 30 = .ok (.iconst 2, 1) := by decide +kernel
theorem dX10_tell_31 : decode cX10_tell 31 = .ok (.aload_n 1, 1) := by decide +kernel
theorem dX10_tell_32 : decode cX10_tell 32 = .ok (.getfield 57, 3) := by decide +kernel
theorem dX10_tell_35 : decode cX10_tell 35 = .ok (.iconst 2, 1) := by decide +kernel
theorem dX10_tell_36 : decode cX10_tell 36 = .ok (.if_icmp .le 8, 3) := by decide +kernel
theorem dX10_tell_39 : decode cX10_tell 39 = .ok (.iload 4, 2) := by decide +kernel
theorem dX10_tell_41 : decode cX10_tell 41 = .ok (.goto 4, 3) := by decide +kernel
theorem dX10_tell_44 : decode cX10_tell 44 = .ok (.iconst 0, 1) := by decide +kernel
theorem dX10_tell_45 : decode cX10_tell 45 = .ok (.iastore, 1) := by decide +kernel
theorem dX10_tell_46 : decode cX10_tell 46 = .ok (.aload_n 0, 1) := by decide +kernel
theorem dX10_tell_47 : decode cX10_tell 47 = .ok (.getfield 15, 3) := by decide +kernel
theorem dX10_tell_50 : decode cX10_tell 50 = .ok (.iconst 3, 1) := by decide +kernel
theorem dX10_tell_51 : decode cX10_tell 51 = .ok (.aload_n 1, 1) := by decide +kernel
theorem dX10_tell_52 : decode cX10_tell 52 = .ok (.getfield 57, 3) := by decide +kernel
theorem dX10_tell_55 : decode cX10_tell 55 = .ok (.iconst 3, 1) := by decide +kernel
theorem dX10_tell_56 : decode cX10_tell 56 = .ok (.if_icmp .le 8, 3) := by decide +kernel
theorem dX10_tell_59 : decode cX10_tell 59 = .ok (.iload 5, 2) := by decide +kernel
theorem dX10_tell_61 : decode cX10_tell 61 = .ok (.goto 4, 3) := by decide +kernel
theorem dX10_tell_64 : decode cX10_tell 64 = .ok (.iconst 0, 1) := by decide +kernel
theorem dX10_tell_65 : decode cX10_tell 65 = .ok (.iastore, 1) := by decide +kernel
theorem dX10_tell_66 : decode cX10_tell 66 = .ok (.return_, 1) := by decide +kernel
theorem dX10_viewsFit_0 : decode cX10_viewsFit 0 = .ok (.aload_n 1, 1) := by decide +kernel
theorem dX10_viewsFit_1 : decode cX10_viewsFit 1 = .ok (.aload_n 1, 1) := by decide +kernel
theorem dX10_viewsFit_2 : decode cX10_viewsFit 2 = .ok (.getfield 138, 3) := by decide +kernel
theorem dX10_viewsFit_5 : decode cX10_viewsFit 5 = .ok (.aload_n 1, 1) := by decide +kernel
theorem dX10_viewsFit_6 : decode cX10_viewsFit 6 = .ok (.getfield 35, 3) := by decide +kernel
theorem dX10_viewsFit_9 : decode cX10_viewsFit 9 = .ok (.invokevirtual 219, 3) := by decide +kernel
theorem dX10_viewsFit_12 : decode cX10_viewsFit 12 = .ok (.putfield 223, 3) := by decide +kernel
theorem dX10_viewsFit_15 : decode cX10_viewsFit 15 = .ok (.iconst 1, 1) := by decide +kernel
theorem dX10_viewsFit_16 : decode cX10_viewsFit 16 = .ok (.istore_n 2, 1) := by decide +kernel
theorem dX10_viewsFit_17 : decode cX10_viewsFit 17 = .ok (.iload_n 2, 1) := by decide +kernel
theorem dX10_viewsFit_18 : decode cX10_viewsFit 18 = .ok (.bipush 8, 2) := by decide +kernel
theorem dX10_viewsFit_20 : decode cX10_viewsFit 20 = .ok (.if_icmp .ge 59, 3) := by decide +kernel
theorem dX10_viewsFit_23 : decode cX10_viewsFit 23 = .ok (.aload_n 0, 1) := by decide +kernel
theorem dX10_viewsFit_24 : decode cX10_viewsFit 24 = .ok (.getfield 11, 3) := by decide +kernel
theorem dX10_viewsFit_27 : decode cX10_viewsFit 27 = .ok (.astore_n 3, 1) := by decide +kernel
theorem dX10_viewsFit_28 : decode cX10_viewsFit 28 = .ok (.aload_n 3, 1) := by decide +kernel
theorem dX10_viewsFit_29 : decode cX10_viewsFit 29 = .ok (.arraylength, 1) := by decide +kernel
theorem dX10_viewsFit_30 : decode cX10_viewsFit 30 = .ok (.istore 4, 2) := by decide +kernel
theorem dX10_viewsFit_32 : decode cX10_viewsFit 32 = .ok (.iconst 0, 1) := by decide +kernel
theorem dX10_viewsFit_33 : decode cX10_viewsFit 33 = .ok (.istore 5, 2) := by decide +kernel
theorem dX10_viewsFit_35 : decode cX10_viewsFit 35 = .ok (.iload 5, 2) := by decide +kernel
theorem dX10_viewsFit_37 : decode cX10_viewsFit 37 = .ok (.iload 4, 2) := by decide +kernel
theorem dX10_viewsFit_39 : decode cX10_viewsFit 39 = .ok (.if_icmp .ge 34, 3) := by decide +kernel
theorem dX10_viewsFit_42 : decode cX10_viewsFit 42 = .ok (.aload_n 3, 1) := by decide +kernel
theorem dX10_viewsFit_43 : decode cX10_viewsFit 43 = .ok (.iload 5, 2) := by decide +kernel
theorem dX10_viewsFit_45 : decode cX10_viewsFit 45 = .ok (.aaload, 1) := by decide +kernel
theorem dX10_viewsFit_46 : decode cX10_viewsFit 46 = .ok (.astore 6, 2) := by decide +kernel
theorem dX10_viewsFit_48 : decode cX10_viewsFit 48 = .ok (.aload 6, 2) := by decide +kernel
theorem dX10_viewsFit_50 : decode cX10_viewsFit 50 = .ok (.invokevirtual 226, 3) := by decide +kernel
theorem dX10_viewsFit_53 : decode cX10_viewsFit 53 = .ok (.iload_n 2, 1) := by decide +kernel
theorem dX10_viewsFit_54 : decode cX10_viewsFit 54 = .ok (.if_icmp .ne 13, 3) := by decide +kernel
theorem dX10_viewsFit_57 : decode cX10_viewsFit 57 = .ok (.aload 6, 2) := by decide +kernel
theorem dX10_viewsFit_59 : decode cX10_viewsFit 59 = .ok (.invokevirtual 230, 3) := by decide +kernel
theorem dX10_viewsFit_62 : decode cX10_viewsFit 62 = .ok (.ifCond .ne 5, 3) := by decide +kernel
theorem dX10_viewsFit_65 : decode cX10_viewsFit 65 = .ok (.iconst 0, 1) := by decide +kernel
theorem dX10_viewsFit_66 : decode cX10_viewsFit 66 = .ok (.ireturn, 1) := by decide +kernel
theorem dX10_viewsFit_67 : decode cX10_viewsFit 67 = .ok (.iinc 5 1, 3) := by decide +kernel
theorem dX10_viewsFit_70 : decode cX10_viewsFit 70 = .ok (.goto (-35), 3) := by decide +kernel
theorem dX10_viewsFit_73 : decode cX10_viewsFit 73 = .ok (.iinc 2 1, 3) := by decide +kernel
theorem dX10_viewsFit_76 : decode cX10_viewsFit 76 = .ok (.goto (-59), 3) := by decide +kernel
theorem dX10_viewsFit_79 : decode cX10_viewsFit 79 = .ok (.iconst 1, 1) := by decide +kernel
theorem dX10_viewsFit_80 : decode cX10_viewsFit 80 = .ok (.ireturn, 1) := by decide +kernel
theorem dX10_takeOver_0 : decode cX10_takeOver 0 = .ok (.aload_n 0, 1) := by decide +kernel
theorem dX10_takeOver_1 : decode cX10_takeOver 1 = .ok (.getfield 11, 3) := by decide +kernel
theorem dX10_takeOver_4 : decode cX10_takeOver 4 = .ok (.astore_n 2, 1) := by decide +kernel
theorem dX10_takeOver_5 : decode cX10_takeOver 5 = .ok (.aload_n 2, 1) := by decide +kernel
theorem dX10_takeOver_6 : decode cX10_takeOver 6 = .ok (.arraylength, 1) := by decide +kernel
theorem dX10_takeOver_7 : decode cX10_takeOver 7 = .ok (.istore_n 3, 1) := by decide +kernel
theorem dX10_takeOver_8 : decode cX10_takeOver 8 = .ok (.iconst 0, 1) := by decide +kernel
theorem dX10_takeOver_9 : decode cX10_takeOver 9 = .ok (.istore 4, 2) := by decide +kernel
theorem dX10_takeOver_11 : decode cX10_takeOver 11 = .ok (.iload 4, 2) := by decide +kernel
theorem dX10_takeOver_13 : decode cX10_takeOver 13 = .ok (.iload_n 3, 1) := by decide +kernel
theorem dX10_takeOver_14 : decode cX10_takeOver 14 = .ok (.if_icmp .ge 21, 3) := by decide +kernel
theorem dX10_takeOver_17 : decode cX10_takeOver 17 = .ok (.aload_n 2, 1) := by decide +kernel
theorem dX10_takeOver_18 : decode cX10_takeOver 18 = .ok (.iload 4, 2) := by decide +kernel
theorem dX10_takeOver_20 : decode cX10_takeOver 20 = .ok (.aaload, 1) := by decide +kernel
theorem dX10_takeOver_21 : decode cX10_takeOver 21 = .ok (.astore 5, 2) := by decide +kernel
theorem dX10_takeOver_23 : decode cX10_takeOver 23 = .ok (.aload 5, 2) := by decide +kernel
theorem dX10_takeOver_25 : decode cX10_takeOver 25 = .ok (.iload_n 1, 1) := by decide +kernel
theorem dX10_takeOver_26 : decode cX10_takeOver 26 = .ok (.invokevirtual 233, 3) := by decide +kernel
theorem dX10_takeOver_29 : decode cX10_takeOver 29 = .ok (.iinc 4 1, 3) := by decide +kernel
theorem dX10_takeOver_32 : decode cX10_takeOver 32 = .ok (.goto (-21), 3) := by decide +kernel
theorem dX10_takeOver_35 : decode cX10_takeOver 35 = .ok (.iload_n 1, 1) := by decide +kernel
theorem dX10_takeOver_36 : decode cX10_takeOver 36 = .ok (.ifCond .ne 13, 3) := by decide +kernel
theorem dX10_takeOver_39 : decode cX10_takeOver 39 = .ok (.new 214, 3) := by decide +kernel
theorem dX10_takeOver_42 : decode cX10_takeOver 42 = .ok (.dup, 1) := by decide +kernel
theorem dX10_takeOver_43 : decode cX10_takeOver 43 = .ok (.ldc 236, 2) := by decide +kernel
theorem dX10_takeOver_45 : decode cX10_takeOver 45 = .ok (.invokespecial 218, 3) := by decide +kernel
theorem dX10_takeOver_48 : decode cX10_takeOver 48 = .ok (.athrow, 1) := by decide +kernel
theorem dX10_takeOver_49 : decode cX10_takeOver 49 = .ok (.return_, 1) := by decide +kernel
