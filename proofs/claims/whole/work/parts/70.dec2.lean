theorem dX11_init_0 : decode cX11_init 0 = .ok (.aload_n 0, 1) := by decide +kernel
theorem dX11_init_1 : decode cX11_init 1 = .ok (.invokespecial 1, 3) := by decide +kernel
theorem dX11_init_4 : decode cX11_init 4 = .ok (.aload_n 0, 1) := by decide +kernel
theorem dX11_init_5 : decode cX11_init 5 = .ok (.bipush 8, 2) := by decide +kernel
theorem dX11_init_7 : decode cX11_init 7 = .ok (.newarray .int, 2) := by decide +kernel
theorem dX11_init_9 : decode cX11_init 9 = .ok (.putfield 7, 3) := by decide +kernel
theorem dX11_init_12 : decode cX11_init 12 = .ok (.aload_n 0, 1) := by decide +kernel
theorem dX11_init_13 : decode cX11_init 13 = .ok (.bipush 8, 2) := by decide +kernel
theorem dX11_init_15 : decode cX11_init 15 = .ok (.newarray .int, 2) := by decide +kernel
theorem dX11_init_17 : decode cX11_init 17 = .ok (.putfield 13, 3) := by decide +kernel
theorem dX11_init_20 : decode cX11_init 20 = .ok (.aload_n 0, 1) := by decide +kernel
theorem dX11_init_21 : decode cX11_init 21 = .ok (.bipush 8, 2) := by decide +kernel
theorem dX11_init_23 : decode cX11_init 23 = .ok (.newarray .int, 2) := by decide +kernel
theorem dX11_init_25 : decode cX11_init 25 = .ok (.putfield 16, 3) := by decide +kernel
theorem dX11_init_28 : decode cX11_init 28 = .ok (.aload_n 0, 1) := by decide +kernel
theorem dX11_init_29 : decode cX11_init 29 = .ok (.bipush 8, 2) := by decide +kernel
theorem dX11_init_31 : decode cX11_init 31 = .ok (.newarray .int, 2) := by decide +kernel
theorem dX11_init_33 : decode cX11_init 33 = .ok (.putfield 19, 3) := by decide +kernel
theorem dX11_init_36 : decode cX11_init 36 = .ok (.aload_n 0, 1) := by decide +kernel
theorem dX11_init_37 : decode cX11_init 37 = .ok (.bipush 32, 2) := by decide +kernel
theorem dX11_init_39 : decode cX11_init 39 = .ok (.newarray .int, 2) := by decide +kernel
theorem dX11_init_41 : decode cX11_init 41 = .ok (.putfield 22, 3) := by decide +kernel
theorem dX11_init_44 : decode cX11_init 44 = .ok (.aload_n 0, 1) := by decide +kernel
theorem dX11_init_45 : decode cX11_init 45 = .ok (.bipush 8, 2) := by decide +kernel
theorem dX11_init_47 : decode cX11_init 47 = .ok (.newarray .boolean, 2) := by decide +kernel
theorem dX11_init_49 : decode cX11_init 49 = .ok (.putfield 25, 3) := by decide +kernel
theorem dX11_init_52 : decode cX11_init 52 = .ok (.aload_n 0, 1) := by decide +kernel
theorem dX11_init_53 : decode cX11_init 53 = .ok (.bipush 8, 2) := by decide +kernel
theorem dX11_init_55 : decode cX11_init 55 = .ok (.newarray .int, 2) := by decide +kernel
theorem dX11_init_57 : decode cX11_init 57 = .ok (.putfield 29, 3) := by decide +kernel
theorem dX11_init_60 : decode cX11_init 60 = .ok (.aload_n 0, 1) := by decide +kernel
theorem dX11_init_61 : decode cX11_init 61 = .ok (.bipush 8, 2) := by decide +kernel
theorem dX11_init_63 : decode cX11_init 63 = .ok (.newarray .int, 2) := by decide +kernel
theorem dX11_init_65 : decode cX11_init 65 = .ok (.putfield 32, 3) := by decide +kernel
theorem dX11_init_68 : decode cX11_init 68 = .ok (.aload_n 0, 1) := by decide +kernel
theorem dX11_init_69 : decode cX11_init 69 = .ok (.sipush 2048, 3) := by decide +kernel
theorem dX11_init_72 : decode cX11_init 72 = .ok (.newarray .int, 2) := by decide +kernel
theorem dX11_init_74 : decode cX11_init 74 = .ok (.putfield 35, 3) := by decide +kernel
theorem dX11_init_77 : decode cX11_init 77 = .ok (.aload_n 0, 1) := by decide +kernel
theorem dX11_init_78 : decode cX11_init 78 = .ok (.sipush 512, 3) := by decide +kernel
theorem dX11_init_81 : decode cX11_init 81 = .ok (.newarray .int, 2) := by decide +kernel
theorem dX11_init_83 : decode cX11_init 83 = .ok (.putfield 38, 3) := by decide +kernel
theorem dX11_init_86 : decode cX11_init 86 = .ok (.aload_n 0, 1) := by decide +kernel
theorem dX11_init_87 : decode cX11_init 87 = .ok (.bipush 8, 2) := by decide +kernel
theorem dX11_init_89 : decode cX11_init 89 = .ok (.newarray .int, 2) := by decide +kernel
theorem dX11_init_91 : decode cX11_init 91 = .ok (.putfield 41, 3) := by decide +kernel
theorem dX11_init_94 : decode cX11_init 94 = .ok (.aload_n 0, 1) := by decide +kernel
theorem dX11_init_95 : decode cX11_init 95 = .ok (.sipush 2048, 3) := by decide +kernel
theorem dX11_init_98 : decode cX11_init 98 = .ok (.newarray .int, 2) := by decide +kernel
theorem dX11_init_100 : decode cX11_init 100 = .ok (.putfield 44, 3) := by decide +kernel
theorem dX11_init_103 : decode cX11_init 103 = .ok (.aload_n 0, 1) := by decide +kernel
theorem dX11_init_104 : decode cX11_init 104 = .ok (.sipush 512, 3) := by decide +kernel
theorem dX11_init_107 : decode cX11_init 107 = .ok (.newarray .int, 2) := by decide +kernel
theorem dX11_init_109 : decode cX11_init 109 = .ok (.putfield 47, 3) := by decide +kernel
theorem dX11_init_112 : decode cX11_init 112 = .ok (.aload_n 0, 1) := by decide +kernel
theorem dX11_init_113 : decode cX11_init 113 = .ok (.bipush 8, 2) := by decide +kernel
theorem dX11_init_115 : decode cX11_init 115 = .ok (.newarray .int, 2) := by decide +kernel
theorem dX11_init_117 : decode cX11_init 117 = .ok (.putfield 50, 3) := by decide +kernel
theorem dX11_init_120 : decode cX11_init 120 = .ok (.aload_n 0, 1) := by decide +kernel
theorem dX11_init_121 : decode cX11_init 121 = .ok (.iconst 4, 1) := by decide +kernel
theorem dX11_init_122 : decode cX11_init 122 = .ok (.newarray .int, 2) := by decide +kernel
theorem dX11_init_124 : decode cX11_init 124 = .ok (.putfield 53, 3) := by decide +kernel
theorem dX11_init_127 : decode cX11_init 127 = .ok (.return_, 1) := by decide +kernel
theorem dX11_thrown_0 : decode cX11_thrown 0 = .ok (.aload_n 0, 1) := by decide +kernel
theorem dX11_thrown_1 : decode cX11_thrown 1 = .ok (.getfield 56, 3) := by decide +kernel
theorem dX11_thrown_4 : decode cX11_thrown 4 = .ok (.ireturn, 1) := by decide +kernel
theorem dX11_place_0 : decode cX11_place 0 = .ok (.iconst 0, 1) := by decide +kernel
theorem dX11_place_1 : decode cX11_place 1 = .ok (.istore_n 2, 1) := by decide +kernel
theorem dX11_place_2 : decode cX11_place 2 = .ok (.aload_n 0, 1) := by decide +kernel
theorem dX11_place_3 : decode cX11_place 3 = .ok (.getfield 50, 3) := by decide +kernel
theorem dX11_place_6 : decode cX11_place 6 = .ok (.iload_n 1, 1) := by decide +kernel
theorem dX11_place_7 : decode cX11_place 7 = .ok (.iaload, 1) := by decide +kernel
theorem dX11_place_8 : decode cX11_place 8 = .ok (.istore_n 3, 1) := by decide +kernel
theorem dX11_place_9 : decode cX11_place 9 = .ok (.iload_n 2, 1) := by decide +kernel
theorem dX11_place_10 : decode cX11_place 10 = .ok (.iload_n 3, 1) := by decide +kernel
theorem dX11_place_11 : decode cX11_place 11 = .ok (.if_icmp .ge 111, 3) := by decide +kernel
theorem dX11_place_14 : decode cX11_place 14 = .ok (.iload_n 2, 1) := by decide +kernel
theorem dX11_place_15 : decode cX11_place 15 = .ok (.iload_n 3, 1) := by decide +kernel
theorem dX11_place_16 : decode cX11_place 16 = .ok (.iadd, 1) := by decide +kernel
theorem dX11_place_17 : decode cX11_place 17 = .ok (.iconst 2, 1) := by decide +kernel
theorem dX11_place_18 : decode cX11_place 18 = .ok (.idiv, 1) := by decide +kernel
theorem dX11_place_19 : decode cX11_place 19 = .ok (.istore 4, 2) := by decide +kernel
theorem dX11_place_21 : decode cX11_place 21 = .ok (.iconst 0, 1) := by decide +kernel
theorem dX11_place_22 : decode cX11_place 22 = .ok (.istore 5, 2) := by decide +kernel
theorem dX11_place_24 : decode cX11_place 24 = .ok (.iconst 0, 1) := by decide +kernel
theorem dX11_place_25 : decode cX11_place 25 = .ok (.istore 6, 2) := by decide +kernel
theorem dX11_place_27 : decode cX11_place 27 = .ok (.iload 6, 2) := by decide +kernel
theorem dX11_place_29 : decode cX11_place 29 = .ok (.aload_n 0, 1) := by decide +kernel
theorem dX11_place_30 : decode cX11_place 30 = .ok (.getfield 13, 3) := by decide +kernel
theorem dX11_place_33 : decode cX11_place 33 = .ok (.iload_n 1, 1) := by decide +kernel
theorem dX11_place_34 : decode cX11_place 34 = .ok (.iaload, 1) := by decide +kernel
theorem dX11_place_35 : decode cX11_place 35 = .ok (.if_icmp .ge 68, 3) := by decide +kernel
theorem dX11_place_38 : decode cX11_place 38 = .ok (.iload 5, 2) := by decide +kernel
theorem dX11_place_40 : decode cX11_place 40 = .ok (.ifCond .ne 63, 3) := by decide +kernel
theorem dX11_place_43 : decode cX11_place 43 = .ok (.aload_n 0, 1) := by decide +kernel
theorem dX11_place_44 : decode cX11_place 44 = .ok (.getfield 44, 3) := by decide +kernel
theorem dX11_place_47 : decode cX11_place 47 = .ok (.iconst 4, 1) := by decide +kernel
theorem dX11_place_48 : decode cX11_place 48 = .ok (.bipush 20, 2) := by decide +kernel
theorem dX11_place_50 : decode cX11_place 50 = .ok (.iload_n 1, 1) := by decide +kernel
theorem dX11_place_51 : decode cX11_place 51 = .ok (.imul, 1) := by decide +kernel
theorem dX11_place_52 : decode cX11_place 52 = .ok (.iload 4, 2) := by decide +kernel
theorem dX11_place_54 : decode cX11_place 54 = .ok (.iadd, 1) := by decide +kernel
theorem dX11_place_55 : decode cX11_place 55 = .ok (.imul, 1) := by decide +kernel
theorem dX11_place_56 : decode cX11_place 56 = .ok (.iload 6, 2) := by decide +kernel
theorem dX11_place_58 : decode cX11_place 58 = .ok (.iadd, 1) := by decide +kernel
theorem dX11_place_59 : decode cX11_place 59 = .ok (.iaload, 1) := by decide +kernel
theorem dX11_place_60 : decode cX11_place 60 = .ok (.istore 7, 2) := by decide +kernel
theorem dX11_place_62 : decode cX11_place 62 = .ok (.iload 7, 2) := by decide +kernel
theorem dX11_place_64 : decode cX11_place 64 = .ok (.aload_n 0, 1) := by decide +kernel
theorem dX11_place_65 : decode cX11_place 65 = .ok (.getfield 53, 3) := by decide +kernel
theorem dX11_place_68 : decode cX11_place 68 = .ok (.iload 6, 2) := by decide +kernel
theorem dX11_place_70 : decode cX11_place 70 = .ok (.iaload, 1) := by decide +kernel
theorem dX11_place_71 : decode cX11_place 71 = .ok (.if_icmp .ge 7, 3) := by decide +kernel
theorem dX11_place_74 : decode cX11_place 74 = .ok (.iconst 1, 1) := by decide +kernel
theorem dX11_place_75 : decode cX11_place 75 = .ok (.goto 20, 3) := by decide +kernel
theorem dX11_place_78 : decode cX11_place 78 = .ok (.iload 7, 2) := by decide +kernel
theorem dX11_place_80 : decode cX11_place 80 = .ok (.aload_n 0, 1) := by decide +kernel
theorem dX11_place_81 : decode cX11_place 81 = .ok (.getfield 53, 3) := by decide +kernel
theorem dX11_place_84 : decode cX11_place 84 = .ok (.iload 6, 2) := by decide +kernel
theorem dX11_place_86 : decode cX11_place 86 = .ok (.iaload, 1) := by decide +kernel
theorem dX11_place_87 : decode cX11_place 87 = .ok (.if_icmp .le 7, 3) := by decide +kernel
theorem dX11_place_90 : decode cX11_place 90 = .ok (.iconst (-1), 1) := by decide +kernel
theorem dX11_place_91 : decode cX11_place 91 = .ok (.goto 4, 3) := by decide +kernel
theorem dX11_place_94 : decode cX11_place 94 = .ok (.iconst 0, 1) := by decide +kernel
theorem dX11_place_95 : decode cX11_place 95 = .ok (.istore 5, 2) := by decide +kernel
theorem dX11_place_97 : decode cX11_place 97 = .ok (.iinc 6 1, 3) := by decide +kernel
theorem dX11_place_100 : decode cX11_place 100 = .ok (.goto (-73), 3) := by decide +kernel
theorem dX11_place_103 : decode cX11_place 103 = .ok (.iload 5, 2) := by decide +kernel
theorem dX11_place_105 : decode cX11_place 105 = .ok (.ifCond .le 11, 3) := by decide +kernel
theorem dX11_place_108 : decode cX11_place 108 = .ok (.iload 4, 2) := by decide +kernel
theorem dX11_place_110 : decode cX11_place 110 = .ok (.iconst 1, 1) := by decide +kernel
theorem dX11_place_111 : decode cX11_place 111 = .ok (.iadd, 1) := by decide +kernel
theorem dX11_place_112 : decode cX11_place 112 = .ok (.istore_n 2, 1) := by decide +kernel
theorem dX11_place_113 : decode cX11_place 113 = .ok (.goto 6, 3) := by decide +kernel
theorem dX11_place_116 : decode cX11_place 116 = .ok (.iload 4, 2) := by decide +kernel
theorem dX11_place_118 : decode cX11_place 118 = .ok (.istore_n 3, 1) := by decide +kernel
theorem dX11_place_119 : decode cX11_place 119 = .ok (.goto (-110), 3) := by decide +kernel
theorem dX11_place_122 : decode cX11_place 122 = .ok (.iload_n 2, 1) := by decide +kernel
theorem dX11_place_123 : decode cX11_place 123 = .ok (.ireturn, 1) := by decide +kernel
theorem dX11_isAt_0 : decode cX11_isAt 0 = .ok (.iload_n 2, 1) := by decide +kernel
theorem dX11_isAt_1 : decode cX11_isAt 1 = .ok (.aload_n 0, 1) := by decide +kernel
theorem dX11_isAt_2 : decode cX11_isAt 2 = .ok (.getfield 50, 3) := by decide +kernel
theorem dX11_isAt_5 : decode cX11_isAt 5 = .ok (.iload_n 1, 1) := by decide +kernel
theorem dX11_isAt_6 : decode cX11_isAt 6 = .ok (.iaload, 1) := by decide +kernel
theorem dX11_isAt_7 : decode cX11_isAt 7 = .ok (.if_icmp .ge 7, 3) := by decide +kernel
theorem dX11_isAt_10 : decode cX11_isAt 10 = .ok (.iconst 1, 1) := by decide +kernel
theorem dX11_isAt_11 : decode cX11_isAt 11 = .ok (.goto 4, 3) := by decide +kernel
theorem dX11_isAt_14 : decode cX11_isAt 14 = .ok (.iconst 0, 1) := by decide +kernel
theorem dX11_isAt_15 : decode cX11_isAt 15 = .ok (.istore_n 3, 1) := by decide +kernel
theorem dX11_isAt_16 : decode cX11_isAt 16 = .ok (.iconst 0, 1) := by decide +kernel
theorem dX11_isAt_17 : decode cX11_isAt 17 = .ok (.istore 4, 2) := by decide +kernel
theorem dX11_isAt_19 : decode cX11_isAt 19 = .ok (.iload_n 3, 1) := by decide +kernel
theorem dX11_isAt_20 : decode cX11_isAt 20 = .ok (.ifCond .eq 52, 3) := by decide +kernel
theorem dX11_isAt_23 : decode cX11_isAt 23 = .ok (.iload 4, 2) := by decide +kernel
theorem dX11_isAt_25 : decode cX11_isAt 25 = .ok (.aload_n 0, 1) := by decide +kernel
theorem dX11_isAt_26 : decode cX11_isAt 26 = .ok (.getfield 13, 3) := by decide +kernel
theorem dX11_isAt_29 : decode cX11_isAt 29 = .ok (.iload_n 1, 1) := by decide +kernel
theorem dX11_isAt_30 : decode cX11_isAt 30 = .ok (.iaload, 1) := by decide +kernel
theorem dX11_isAt_31 : decode cX11_isAt 31 = .ok (.if_icmp .ge 41, 3) := by decide +kernel
theorem dX11_isAt_34 : decode cX11_isAt 34 = .ok (.aload_n 0, 1) := by decide +kernel
theorem dX11_isAt_35 : decode cX11_isAt 35 = .ok (.getfield 44, 3) := by decide +kernel
theorem dX11_isAt_38 : decode cX11_isAt 38 = .ok (.iconst 4, 1) := by decide +kernel
theorem dX11_isAt_39 : decode cX11_isAt 39 = .ok (.bipush 20, 2) := by decide +kernel
theorem dX11_isAt_41 : decode cX11_isAt 41 = .ok (.iload_n 1, 1) := by decide +kernel
theorem dX11_isAt_42 : decode cX11_isAt 42 = .ok (.imul, 1) := by decide +kernel
theorem dX11_isAt_43 : decode cX11_isAt 43 = .ok (.iload_n 2, 1) := by decide +kernel
theorem dX11_isAt_44 : decode cX11_isAt 44 = .ok (.iadd, 1) := by decide +kernel
theorem dX11_isAt_45 : decode cX11_isAt 45 = .ok (.imul, 1) := by decide +kernel
theorem dX11_isAt_46 : decode cX11_isAt 46 = .ok (.iload 4, 2) := by decide +kernel
theorem dX11_isAt_48 : decode cX11_isAt 48 = .ok (.iadd, 1) := by decide +kernel
theorem dX11_isAt_49 : decode cX11_isAt 49 = .ok (.iaload, 1) := by decide +kernel
theorem dX11_isAt_50 : decode cX11_isAt 50 = .ok (.aload_n 0, 1) := by decide +kernel
theorem dX11_isAt_51 : decode cX11_isAt 51 = .ok (.getfield 53, 3) := by decide +kernel
theorem dX11_isAt_54 : decode cX11_isAt 54 = .ok (.iload 4, 2) := by decide +kernel
theorem dX11_isAt_56 : decode cX11_isAt 56 = .ok (.iaload, 1) := by decide +kernel
theorem dX11_isAt_57 : decode cX11_isAt 57 = .ok (.if_icmp .ne 7, 3) := by decide +kernel
theorem dX11_isAt_60 : decode cX11_isAt 60 = .ok (.iconst 1, 1) := by decide +kernel
theorem dX11_isAt_61 : decode cX11_isAt 61 = .ok (.goto 4, 3) := by decide +kernel
theorem dX11_isAt_64 : decode cX11_isAt 64 = .ok (.iconst 0, 1) := by decide +kernel
theorem dX11_isAt_65 : decode cX11_isAt 65 = .ok (.istore_n 3, 1) := by decide +kernel
theorem dX11_isAt_66 : decode cX11_isAt 66 = .ok (.iinc 4 1, 3) := by decide +kernel
theorem dX11_isAt_69 : decode cX11_isAt 69 = .ok (.goto (-50), 3) := by decide +kernel
theorem dX11_isAt_72 : decode cX11_isAt 72 = .ok (.iload_n 3, 1) := by decide +kernel
theorem dX11_isAt_73 : decode cX11_isAt 73 = .ok (.ireturn, 1) := by decide +kernel
theorem dX11_add_0 : decode cX11_add 0 = .ok (.aload_n 0, 1) := by decide +kernel
theorem dX11_add_1 : decode cX11_add 1 = .ok (.iload_n 1, 1) := by decide +kernel
theorem dX11_add_2 : decode cX11_add 2 = .ok (.invokevirtual 60, 3) := by decide +kernel
theorem dX11_add_5 : decode cX11_add 5 = .ok (.istore 4, 2) := by decide +kernel
theorem dX11_add_7 : decode cX11_add 7 = .ok (.bipush 20, 2) := by decide +kernel
theorem dX11_add_9 : decode cX11_add 9 = .ok (.iload_n 1, 1) := by decide +kernel
theorem dX11_add_10 : decode cX11_add 10 = .ok (.imul, 1) := by decide +kernel
theorem dX11_add_11 : decode cX11_add 11 = .ok (.iload 4, 2) := by decide +kernel
theorem dX11_add_13 : decode cX11_add 13 = .ok (.iadd, 1) := by decide +kernel
theorem dX11_add_14 : decode cX11_add 14 = .ok (.istore 5, 2) := by decide +kernel
theorem dX11_add_16 : decode cX11_add 16 = .ok (.aload_n 0, 1) := by decide +kernel
theorem dX11_add_17 : decode cX11_add 17 = .ok (.iload_n 1, 1) := by decide +kernel
theorem dX11_add_18 : decode cX11_add 18 = .ok (.iload 4, 2) := by decide +kernel
theorem dX11_add_20 : decode cX11_add 20 = .ok (.invokevirtual 64, 3) := by decide +kernel
theorem dX11_add_23 : decode cX11_add 23 = .ok (.ifCond .eq 64, 3) := by decide +kernel
theorem dX11_add_26 : decode cX11_add 26 = .ok (.aload_n 0, 1) := by decide +kernel
theorem dX11_add_27 : decode cX11_add 27 = .ok (.getfield 47, 3) := by decide +kernel
theorem dX11_add_30 : decode cX11_add 30 = .ok (.iload 5, 2) := by decide +kernel
theorem dX11_add_32 : decode cX11_add 32 = .ok (.iaload, 1) := by decide +kernel
theorem dX11_add_33 : decode cX11_add 33 = .ok (.i2l, 1) := by decide +kernel
theorem dX11_add_34 : decode cX11_add 34 = .ok (.lload_n 2, 1) := by decide +kernel
theorem dX11_add_35 : decode cX11_add 35 = .ok (.ladd, 1) := by decide +kernel
theorem dX11_add_36 : decode cX11_add 36 = .ok (.lstore 6, 2) := by decide +kernel
theorem dX11_add_38 : decode cX11_add 38 = .ok (.aload_n 0, 1) := by decide +kernel
theorem dX11_add_39 : decode cX11_add 39 = .ok (.aload_n 0, 1) := by decide +kernel
theorem dX11_add_40 : decode cX11_add 40 = .ok (.getfield 68, 3) := by decide +kernel
theorem dX11_add_43 : decode cX11_add 43 = .ok (.ifCond .eq 16, 3) := by decide +kernel
theorem dX11_add_46 : decode cX11_add 46 = .ok (.lload 6, 2) := by decide +kernel
theorem dX11_add_48 : decode cX11_add 48 = .ok (.ldc2_w 72, 3) := by decide +kernel
theorem dX11_add_51 : decode cX11_add 51 = .ok (.lcmp, 1) := by decide +kernel
theorem dX11_add_52 : decode cX11_add 52 = .ok (.ifCond .gt 7, 3) := by decide +kernel
theorem dX11_add_55 : decode cX11_add 55 = .ok (.iconst 1, 1) := by decide +kernel
theorem dX11_add_56 : decode cX11_add 56 = .ok (.goto 4, 3) := by decide +kernel
theorem dX11_add_59 : decode cX11_add 59 = .ok (.iconst 0, 1) := by decide +kernel
theorem dX11_add_60 : decode cX11_add 60 = .ok (.putfield 68, 3) := by decide +kernel
theorem dX11_add_63 : decode cX11_add 63 = .ok (.aload_n 0, 1) := by decide +kernel
theorem dX11_add_64 : decode cX11_add 64 = .ok (.getfield 47, 3) := by decide +kernel
theorem dX11_add_67 : decode cX11_add 67 = .ok (.iload 5, 2) := by decide +kernel
theorem dX11_add_69 : decode cX11_add 69 = .ok (.aload_n 0, 1) := by decide +kernel
theorem dX11_add_70 : decode cX11_add 70 = .ok (.getfield 68, 3) := by decide +kernel
theorem dX11_add_73 : decode cX11_add 73 = .ok (.ifCond .eq 9, 3) := by decide +kernel
theorem dX11_add_76 : decode cX11_add 76 = .ok (.lload 6, 2) := by decide +kernel
theorem dX11_add_78 : decode cX11_add 78 = .ok (.l2i, 1) := by decide +kernel
theorem dX11_add_79 : decode cX11_add 79 = .ok (.goto 4, 3) := by decide +kernel
theorem dX11_add_82 : decode cX11_add 82 = .ok (.iconst 0, 1) := by decide +kernel
theorem dX11_add_83 : decode cX11_add 83 = .ok (.iastore, 1) := by decide +kernel
theorem dX11_add_84 : decode cX11_add 84 = .ok (.goto 181, 3) := by decide +kernel
theorem dX11_add_87 : decode cX11_add 87 = .ok (.aload_n 0, 1) := by decide +kernel
theorem dX11_add_88 : decode cX11_add 88 = .ok (.getfield 50, 3) := by decide +kernel
theorem dX11_add_91 : decode cX11_add 91 = .ok (.iload_n 1, 1) := by decide +kernel
theorem dX11_add_92 : decode cX11_add 92 = .ok (.iaload, 1) := by decide +kernel
theorem dX11_add_93 : decode cX11_add 93 = .ok (.bipush 20, 2) := by decide +kernel
theorem dX11_add_95 : decode cX11_add 95 = .ok (.if_icmp .eq 11, 3) := by decide +kernel
theorem dX11_add_98 : decode cX11_add 98 = .ok (.lload_n 2, 1) := by decide +kernel
theorem dX11_add_99 : decode cX11_add 99 = .ok (.ldc2_w 72, 3) := by decide +kernel
theorem dX11_add_102 : decode cX11_add 102 = .ok (.lcmp, 1) := by decide +kernel
theorem dX11_add_103 : decode cX11_add 103 = .ok (.ifCond .le 11, 3) := by decide +kernel
theorem dX11_add_106 : decode cX11_add 106 = .ok (.aload_n 0, 1) := by decide +kernel
theorem dX11_add_107 : decode cX11_add 107 = .ok (.iconst 0, 1) := by decide +kernel
theorem dX11_add_108 : decode cX11_add 108 = .ok (.putfield 68, 3) := by decide +kernel
theorem dX11_add_111 : decode cX11_add 111 = .ok (.goto 154, 3) := by decide +kernel
theorem dX11_add_114 : decode cX11_add 114 = .ok (.bipush 20, 2) := by decide +kernel
theorem dX11_add_116 : decode cX11_add 116 = .ok (.iload_n 1, 1) := by decide +kernel
theorem dX11_add_117 : decode cX11_add 117 = .ok (.imul, 1) := by decide +kernel
theorem dX11_add_118 : decode cX11_add 118 = .ok (.aload_n 0, 1) := by decide +kernel
theorem dX11_add_119 : decode cX11_add 119 = .ok (.getfield 50, 3) := by decide +kernel
theorem dX11_add_122 : decode cX11_add 122 = .ok (.iload_n 1, 1) := by decide +kernel
theorem dX11_add_123 : decode cX11_add 123 = .ok (.iaload, 1) := by decide +kernel
theorem dX11_add_124 : decode cX11_add 124 = .ok (.iadd, 1) := by decide +kernel
theorem dX11_add_125 : decode cX11_add 125 = .ok (.istore 6, 2) := by decide +kernel
theorem dX11_add_127 : decode cX11_add 127 = .ok (.iload 6, 2) := by decide +kernel
theorem dX11_add_129 : decode cX11_add 129 = .ok (.iload 5, 2) := by decide +kernel
theorem dX11_add_131 : decode cX11_add 131 = .ok (.if_icmp .le 66, 3) := by decide +kernel
theorem dX11_add_134 : decode cX11_add 134 = .ok (.aload_n 0, 1) := by decide +kernel
theorem dX11_add_135 : decode cX11_add 135 = .ok (.getfield 47, 3) := by decide +kernel
theorem dX11_add_138 : decode cX11_add 138 = .ok (.iload 6, 2) := by decide +kernel
theorem dX11_add_140 : decode cX11_add 140 = .ok (.aload_n 0, 1) := by decide +kernel
theorem dX11_add_141 : decode cX11_add 141 = .ok (.getfield 47, 3) := by decide +kernel
theorem dX11_add_144 : decode cX11_add 144 = .ok (.iload 6, 2) := by decide +kernel
theorem dX11_add_146 : decode cX11_add 146 = .ok (.iconst 1, 1) := by decide +kernel
theorem dX11_add_147 : decode cX11_add 147 = .ok (.isub, 1) := by decide +kernel
theorem dX11_add_148 : decode cX11_add 148 = .ok (.iaload, 1) := by decide +kernel
theorem dX11_add_149 : decode cX11_add 149 = .ok (.iastore, 1) := by decide +kernel
theorem dX11_add_150 : decode cX11_add 150 = .ok (.iconst 0, 1) := by decide +kernel
theorem dX11_add_151 : decode cX11_add 151 = .ok (.istore 7, 2) := by decide +kernel
theorem dX11_add_153 : decode cX11_add 153 = .ok (.iload 7, 2) := by decide +kernel
theorem dX11_add_155 : decode cX11_add 155 = .ok (.iconst 4, 1) := by decide +kernel
theorem dX11_add_156 : decode cX11_add 156 = .ok (.if_icmp .ge 35, 3) := by decide +kernel
theorem dX11_add_159 : decode cX11_add 159 = .ok (.aload_n 0, 1) := by decide +kernel
theorem dX11_add_160 : decode cX11_add 160 = .ok (.getfield 44, 3) := by decide +kernel
theorem dX11_add_163 : decode cX11_add 163 = .ok (.iconst 4, 1) := by decide +kernel
theorem dX11_add_164 : decode cX11_add 164 = .ok (.iload 6, 2) := by decide +kernel
theorem dX11_add_166 : decode cX11_add 166 = .ok (.imul, 1) := by decide +kernel
theorem dX11_add_167 : decode cX11_add 167 = .ok (.iload 7, 2) := by decide +kernel
theorem dX11_add_169 : decode cX11_add 169 = .ok (.iadd, 1) := by decide +kernel
theorem dX11_add_170 : decode cX11_add 170 = .ok (.aload_n 0, 1) := by decide +kernel
theorem dX11_add_171 : decode cX11_add 171 = .ok (.getfield 44, 3) := by decide +kernel
theorem dX11_add_174 : decode cX11_add 174 = .ok (.iconst 4, 1) := by decide +kernel
theorem dX11_add_175 : decode cX11_add 175 = .ok (.iload 6, 2) := by decide +kernel
theorem dX11_add_177 : decode cX11_add 177 = .ok (.imul, 1) := by decide +kernel
theorem dX11_add_178 : decode cX11_add 178 = .ok (.iconst 4, 1) := by decide +kernel
theorem dX11_add_179 : decode cX11_add 179 = .ok (.isub, 1) := by decide +kernel
theorem dX11_add_180 : decode cX11_add 180 = .ok (.iload 7, 2) := by decide +kernel
theorem dX11_add_182 : decode cX11_add 182 = .ok (.iadd, 1) := by decide +kernel
theorem dX11_add_183 : decode cX11_add 183 = .ok (.iaload, 1) := by decide +kernel
theorem dX11_add_184 : decode cX11_add 184 = .ok (.iastore, 1) := by decide +kernel
theorem dX11_add_185 : decode cX11_add 185 = .ok (.iinc 7 1, 3) := by decide +kernel
theorem dX11_add_188 : decode cX11_add 188 = .ok (.goto (-35), 3) := by decide +kernel
theorem dX11_add_191 : decode cX11_add 191 = .ok (.iinc 6 (-1), 3) := by decide +kernel
theorem dX11_add_194 : decode cX11_add 194 = .ok (.goto (-67), 3) := by decide +kernel
theorem dX11_add_197 : decode cX11_add 197 = .ok (.aload_n 0, 1) := by decide +kernel
theorem dX11_add_198 : decode cX11_add 198 = .ok (.getfield 47, 3) := by decide +kernel
theorem dX11_add_201 : decode cX11_add 201 = .ok (.iload 5, 2) := by decide +kernel
theorem dX11_add_203 : decode cX11_add 203 = .ok (.lload_n 2, 1) := by decide +kernel
theorem dX11_add_204 : decode cX11_add 204 = .ok (.l2i, 1) := by decide +kernel
theorem dX11_add_205 : decode cX11_add 205 = .ok (.iastore, 1) := by decide +kernel
theorem dX11_add_206 : decode cX11_add 206 = .ok (.iconst 0, 1) := by decide +kernel
theorem dX11_add_207 : decode cX11_add 207 = .ok (.istore 6, 2) := by decide +kernel
theorem dX11_add_209 : decode cX11_add 209 = .ok (.iload 6, 2) := by decide +kernel
theorem dX11_add_211 : decode cX11_add 211 = .ok (.iconst 4, 1) := by decide +kernel
theorem dX11_add_212 : decode cX11_add 212 = .ok (.if_icmp .ge 43, 3) := by decide +kernel
theorem dX11_add_215 : decode cX11_add 215 = .ok (.aload_n 0, 1) := by decide +kernel
theorem dX11_add_216 : decode cX11_add 216 = .ok (.getfield 44, 3) := by decide +kernel
theorem dX11_add_219 : decode cX11_add 219 = .ok (.iconst 4, 1) := by decide +kernel
theorem dX11_add_220 : decode cX11_add 220 = .ok (.iload 5, 2) := by decide +kernel
theorem dX11_add_222 : decode cX11_add 222 = .ok (.imul, 1) := by decide +kernel
theorem dX11_add_223 : decode cX11_add 223 = .ok (.iload 6, 2) := by decide +kernel
theorem dX11_add_225 : decode cX11_add 225 = .ok (.iadd, 1) := by decide +kernel
theorem dX11_add_226 : decode cX11_add 226 = .ok (.iload 6, 2) := by decide +kernel
theorem dX11_add_228 : decode cX11_add 228 = .ok (.aload_n 0, 1) := by decide +kernel
theorem dX11_add_229 : decode cX11_add 229 = .ok (.getfield 13, 3) := by decide +kernel
theorem dX11_add_232 : decode cX11_add 232 = .ok (.iload_n 1, 1) := by decide +kernel
theorem dX11_add_233 : decode cX11_add 233 = .ok (.iaload, 1) := by decide +kernel
theorem dX11_add_234 : decode cX11_add 234 = .ok (.if_icmp .ge 13, 3) := by decide +kernel
theorem dX11_add_237 : decode cX11_add 237 = .ok (.aload_n 0, 1) := by decide +kernel
theorem dX11_add_238 : decode cX11_add 238 = .ok (.getfield 53, 3) := by decide +kernel
theorem dX11_add_241 : decode cX11_add 241 = .ok (.iload 6, 2) := by decide +kernel
theorem dX11_add_243 : decode cX11_add 243 = .ok (.iaload, 1) := by decide +kernel
theorem dX11_add_244 : decode cX11_add 244 = .ok (.goto 4, 3) := by decide +kernel
theorem dX11_add_247 : decode cX11_add 247 = .ok (.iconst 0, 1) := by decide +kernel
theorem dX11_add_248 : decode cX11_add 248 = .ok (.iastore, 1) := by decide +kernel
theorem dX11_add_249 : decode cX11_add 249 = .ok (.iinc 6 1, 3) := by decide +kernel
theorem dX11_add_252 : decode cX11_add 252 = .ok (.goto (-43), 3) := by decide +kernel
theorem dX11_add_255 : decode cX11_add 255 = .ok (.aload_n 0, 1) := by decide +kernel
theorem dX11_add_256 : decode cX11_add 256 = .ok (.getfield 50, 3) := by decide +kernel
theorem dX11_add_259 : decode cX11_add 259 = .ok (.iload_n 1, 1) := by decide +kernel
theorem dX11_add_260 : decode cX11_add 260 = .ok (.dup2, 1) := by decide +kernel
theorem dX11_add_261 : decode cX11_add 261 = .ok (.iaload, 1) := by decide +kernel
theorem dX11_add_262 : decode cX11_add 262 = .ok (.iconst 1, 1) := by decide +kernel
theorem dX11_add_263 : decode cX11_add 263 = .ok (.iadd, 1) := by decide +kernel
theorem dX11_add_264 : decode cX11_add 264 = .ok (.iastore, 1) := by decide +kernel
theorem dX11_add_265 : decode cX11_add 265 = .ok (.return_, 1) := by decide +kernel
theorem dX11_cut_0 : decode cX11_cut 0 = .ok (.aload_n 0, 1) := by decide +kernel
theorem dX11_cut_1 : decode cX11_cut 1 = .ok (.getfield 50, 3) := by decide +kernel
theorem dX11_cut_4 : decode cX11_cut 4 = .ok (.iload_n 1, 1) := by decide +kernel
theorem dX11_cut_5 : decode cX11_cut 5 = .ok (.dup2, 1) := by decide +kernel
theorem dX11_cut_6 : decode cX11_cut 6 = .ok (.iaload, 1) := by decide +kernel
theorem dX11_cut_7 : decode cX11_cut 7 = .ok (.iconst 1, 1) := by decide +kernel
theorem dX11_cut_8 : decode cX11_cut 8 = .ok (.isub, 1) := by decide +kernel
theorem dX11_cut_9 : decode cX11_cut 9 = .ok (.iastore, 1) := by decide +kernel
theorem dX11_cut_10 : decode cX11_cut 10 = .ok (.bipush 20, 2) := by decide +kernel
theorem dX11_cut_12 : decode cX11_cut 12 = .ok (.iload_n 1, 1) := by decide +kernel
theorem dX11_cut_13 : decode cX11_cut 13 = .ok (.imul, 1) := by decide +kernel
theorem dX11_cut_14 : decode cX11_cut 14 = .ok (.iload_n 2, 1) := by decide +kernel
theorem dX11_cut_15 : decode cX11_cut 15 = .ok (.iadd, 1) := by decide +kernel
theorem dX11_cut_16 : decode cX11_cut 16 = .ok (.istore_n 3, 1) := by decide +kernel
theorem dX11_cut_17 : decode cX11_cut 17 = .ok (.iload_n 3, 1) := by decide +kernel
theorem dX11_cut_18 : decode cX11_cut 18 = .ok (.bipush 20, 2) := by decide +kernel
theorem dX11_cut_20 : decode cX11_cut 20 = .ok (.iload_n 1, 1) := by decide +kernel
theorem dX11_cut_21 : decode cX11_cut 21 = .ok (.imul, 1) := by decide +kernel
theorem dX11_cut_22 : decode cX11_cut 22 = .ok (.aload_n 0, 1) := by decide +kernel
theorem dX11_cut_23 : decode cX11_cut 23 = .ok (.getfield 50, 3) := by decide +kernel
theorem dX11_cut_26 : decode cX11_cut 26 = .ok (.iload_n 1, 1) := by decide +kernel
theorem dX11_cut_27 : decode cX11_cut 27 = .ok (.iaload, 1) := by decide +kernel
theorem dX11_cut_28 : decode cX11_cut 28 = .ok (.iadd, 1) := by decide +kernel
theorem dX11_cut_29 : decode cX11_cut 29 = .ok (.if_icmp .ge 62, 3) := by decide +kernel
theorem dX11_cut_32 : decode cX11_cut 32 = .ok (.aload_n 0, 1) := by decide +kernel
theorem dX11_cut_33 : decode cX11_cut 33 = .ok (.getfield 47, 3) := by decide +kernel
theorem dX11_cut_36 : decode cX11_cut 36 = .ok (.iload_n 3, 1) := by decide +kernel
theorem dX11_cut_37 : decode cX11_cut 37 = .ok (.aload_n 0, 1) := by decide +kernel
theorem dX11_cut_38 : decode cX11_cut 38 = .ok (.getfield 47, 3) := by decide +kernel
theorem dX11_cut_41 : decode cX11_cut 41 = .ok (.iload_n 3, 1) := by decide +kernel
theorem dX11_cut_42 : decode cX11_cut 42 = .ok (.iconst 1, 1) := by decide +kernel
theorem dX11_cut_43 : decode cX11_cut 43 = .ok (.iadd, 1) := by decide +kernel
theorem dX11_cut_44 : decode cX11_cut 44 = .ok (.iaload, 1) := by decide +kernel
theorem dX11_cut_45 : decode cX11_cut 45 = .ok (.iastore, 1) := by decide +kernel
theorem dX11_cut_46 : decode cX11_cut 46 = .ok (.iconst 0, 1) := by decide +kernel
theorem dX11_cut_47 : decode cX11_cut 47 = .ok (.istore 4, 2) := by decide +kernel
theorem dX11_cut_49 : decode cX11_cut 49 = .ok (.iload 4, 2) := by decide +kernel
theorem dX11_cut_51 : decode cX11_cut 51 = .ok (.iconst 4, 1) := by decide +kernel
theorem dX11_cut_52 : decode cX11_cut 52 = .ok (.if_icmp .ge 33, 3) := by decide +kernel
theorem dX11_cut_55 : decode cX11_cut 55 = .ok (.aload_n 0, 1) := by decide +kernel
theorem dX11_cut_56 : decode cX11_cut 56 = .ok (.getfield 44, 3) := by decide +kernel
theorem dX11_cut_59 : decode cX11_cut 59 = .ok (.iconst 4, 1) := by decide +kernel
theorem dX11_cut_60 : decode cX11_cut 60 = .ok (.iload_n 3, 1) := by decide +kernel
theorem dX11_cut_61 : decode cX11_cut 61 = .ok (.imul, 1) := by decide +kernel
theorem dX11_cut_62 : decode cX11_cut 62 = .ok (.iload 4, 2) := by decide +kernel
theorem dX11_cut_64 : decode cX11_cut 64 = .ok (.iadd, 1) := by decide +kernel
theorem dX11_cut_65 : decode cX11_cut 65 = .ok (.aload_n 0, 1) := by decide +kernel
theorem dX11_cut_66 : decode cX11_cut 66 = .ok (.getfield 44, 3) := by decide +kernel
theorem dX11_cut_69 : decode cX11_cut 69 = .ok (.iconst 4, 1) := by decide +kernel
theorem dX11_cut_70 : decode cX11_cut 70 = .ok (.iload_n 3, 1) := by decide +kernel
theorem dX11_cut_71 : decode cX11_cut 71 = .ok (.imul, 1) := by decide +kernel
theorem dX11_cut_72 : decode cX11_cut 72 = .ok (.iconst 4, 1) := by decide +kernel
theorem dX11_cut_73 : decode cX11_cut 73 = .ok (.iadd, 1) := by decide +kernel
theorem dX11_cut_74 : decode cX11_cut 74 = .ok (.iload 4, 2) := by decide +kernel
theorem dX11_cut_76 : decode cX11_cut 76 = .ok (.iadd, 1) := by decide +kernel
theorem dX11_cut_77 : decode cX11_cut 77 = .ok (.iaload, 1) := by decide +kernel
theorem dX11_cut_78 : decode cX11_cut 78 = .ok (.iastore, 1) := by decide +kernel
theorem dX11_cut_79 : decode cX11_cut 79 = .ok (.iinc 4 1, 3) := by decide +kernel
theorem dX11_cut_82 : decode cX11_cut 82 = .ok (.goto (-33), 3) := by decide +kernel
theorem dX11_cut_85 : decode cX11_cut 85 = .ok (.iinc 3 1, 3) := by decide +kernel
theorem dX11_cut_88 : decode cX11_cut 88 = .ok (.goto (-71), 3) := by decide +kernel
theorem dX11_cut_91 : decode cX11_cut 91 = .ok (.return_, 1) := by decide +kernel
theorem dX11_cellOf_0 : decode cX11_cellOf 0 = .ok (.aload_n 0, 1) := by decide +kernel
theorem dX11_cellOf_1 : decode cX11_cellOf 1 = .ok (.getfield 44, 3) := by decide +kernel
theorem dX11_cellOf_4 : decode cX11_cellOf 4 = .ok (.iconst 4, 1) := by decide +kernel
theorem dX11_cellOf_5 : decode cX11_cellOf 5 = .ok (.bipush 20, 2) := by decide +kernel
theorem dX11_cellOf_7 : decode cX11_cellOf 7 = .ok (.iload_n 1, 1) := by decide +kernel
theorem dX11_cellOf_8 : decode cX11_cellOf 8 = .ok (.imul, 1) := by decide +kernel
theorem dX11_cellOf_9 : decode cX11_cellOf 9 = .ok (.iload_n 2, 1) := by decide +kernel
theorem dX11_cellOf_10 : decode cX11_cellOf 10 = .ok (.iadd, 1) := by decide +kernel
theorem dX11_cellOf_11 : decode cX11_cellOf 11 = .ok (.imul, 1) := by decide +kernel
theorem dX11_cellOf_12 : decode cX11_cellOf 12 = .ok (.iload_n 3, 1) := by decide +kernel
theorem dX11_cellOf_13 : decode cX11_cellOf 13 = .ok (.iadd, 1) := by decide +kernel
theorem dX11_cellOf_14 : decode cX11_cellOf 14 = .ok (.iaload, 1) := by decide +kernel
theorem dX11_cellOf_15 : decode cX11_cellOf 15 = .ok (.ireturn, 1) := by decide +kernel
theorem dX11_timesOf_0 : decode cX11_timesOf 0 = .ok (.aload_n 0, 1) := by decide +kernel
theorem dX11_timesOf_1 : decode cX11_timesOf 1 = .ok (.getfield 47, 3) := by decide +kernel
theorem dX11_timesOf_4 : decode cX11_timesOf 4 = .ok (.bipush 20, 2) := by decide +kernel
theorem dX11_timesOf_6 : decode cX11_timesOf 6 = .ok (.iload_n 1, 1) := by decide +kernel
theorem dX11_timesOf_7 : decode cX11_timesOf 7 = .ok (.imul, 1) := by decide +kernel
theorem dX11_timesOf_8 : decode cX11_timesOf 8 = .ok (.iload_n 2, 1) := by decide +kernel
theorem dX11_timesOf_9 : decode cX11_timesOf 9 = .ok (.iadd, 1) := by decide +kernel
theorem dX11_timesOf_10 : decode cX11_timesOf 10 = .ok (.iaload, 1) := by decide +kernel
theorem dX11_timesOf_11 : decode cX11_timesOf 11 = .ok (.i2l, 1) := by decide +kernel
theorem dX11_timesOf_12 : decode cX11_timesOf 12 = .ok (.lreturn, 1) := by decide +kernel
theorem dX11_take_0 : decode cX11_take 0 = .ok (.iconst 0, 1) := by decide +kernel
theorem dX11_take_1 : decode cX11_take 1 = .ok (.istore_n 3, 1) := by decide +kernel
theorem dX11_take_2 : decode cX11_take 2 = .ok (.iload_n 3, 1) := by decide +kernel
theorem dX11_take_3 : decode cX11_take 3 = .ok (.iconst 4, 1) := by decide +kernel
theorem dX11_take_4 : decode cX11_take 4 = .ok (.if_icmp .ge 22, 3) := by decide +kernel
theorem dX11_take_7 : decode cX11_take 7 = .ok (.aload_n 0, 1) := by decide +kernel
theorem dX11_take_8 : decode cX11_take 8 = .ok (.getfield 53, 3) := by decide +kernel
theorem dX11_take_11 : decode cX11_take 11 = .ok (.iload_n 3, 1) := by decide +kernel
theorem dX11_take_12 : decode cX11_take 12 = .ok (.aload_n 0, 1) := by decide +kernel
theorem dX11_take_13 : decode cX11_take 13 = .ok (.iload_n 1, 1) := by decide +kernel
theorem dX11_take_14 : decode cX11_take 14 = .ok (.iload_n 2, 1) := by decide +kernel
theorem dX11_take_15 : decode cX11_take 15 = .ok (.iload_n 3, 1) := by decide +kernel
theorem dX11_take_16 : decode cX11_take 16 = .ok (.invokevirtual 74, 3) := by decide +kernel
theorem dX11_take_19 : decode cX11_take 19 = .ok (.iastore, 1) := by decide +kernel
theorem dX11_take_20 : decode cX11_take 20 = .ok (.iinc 3 1, 3) := by decide +kernel
theorem dX11_take_23 : decode cX11_take 23 = .ok (.goto (-21), 3) := by decide +kernel
theorem dX11_take_26 : decode cX11_take 26 = .ok (.return_, 1) := by decide +kernel
theorem dX11_compares_0 : decode cX11_compares 0 = .ok (.iload_n 0, 1) := by decide +kernel
theorem dX11_compares_1 : decode cX11_compares 1 = .ok (.ifCond .ne 16, 3) := by decide +kernel
theorem dX11_compares_4 : decode cX11_compares 4 = .ok (.iload_n 1, 1) := by decide +kernel
theorem dX11_compares_5 : decode cX11_compares 5 = .ok (.iload_n 2, 1) := by decide +kernel
theorem dX11_compares_6 : decode cX11_compares 6 = .ok (.if_icmp .ne 7, 3) := by decide +kernel
theorem dX11_compares_9 : decode cX11_compares 9 = .ok (.iconst 1, 1) := by decide +kernel
theorem dX11_compares_10 : decode cX11_compares 10 = .ok (.goto 89, 3) := by decide +kernel
theorem dX11_compares_13 : decode cX11_compares 13 = .ok (.iconst 0, 1) := by decide +kernel
theorem dX11_compares_14 : decode cX11_compares 14 = .ok (.goto 85, 3) := by decide +kernel
theorem dX11_compares_17 : decode cX11_compares 17 = .ok (.iload_n 0, 1) := by decide +kernel
theorem dX11_compares_18 : decode cX11_compares 18 = .ok (.iconst 1, 1) := by decide +kernel
theorem dX11_compares_19 : decode cX11_compares 19 = .ok (.if_icmp .ne 16, 3) := by decide +kernel
theorem dX11_compares_22 : decode cX11_compares 22 = .ok (.iload_n 1, 1) := by decide +kernel
theorem dX11_compares_23 : decode cX11_compares 23 = .ok (.iload_n 2, 1) := by decide +kernel
theorem dX11_compares_24 : decode cX11_compares 24 = .ok (.if_icmp .eq 7, 3) := by decide +kernel
theorem dX11_compares_27 : decode cX11_compares 27 = .ok (.iconst 1, 1) := by decide +kernel
theorem dX11_compares_28 : decode cX11_compares 28 = .ok (.goto 71, 3) := by decide +kernel
theorem dX11_compares_31 : decode cX11_compares 31 = .ok (.iconst 0, 1) := by decide +kernel
theorem dX11_compares_32 : decode cX11_compares 32 = .ok (.goto 67, 3) := by decide +kernel
theorem dX11_compares_35 : decode cX11_compares 35 = .ok (.iload_n 0, 1) := by decide +kernel
theorem dX11_compares_36 : decode cX11_compares 36 = .ok (.iconst 2, 1) := by decide +kernel
theorem dX11_compares_37 : decode cX11_compares 37 = .ok (.if_icmp .ne 16, 3) := by decide +kernel
theorem dX11_compares_40 : decode cX11_compares 40 = .ok (.iload_n 1, 1) := by decide +kernel
theorem dX11_compares_41 : decode cX11_compares 41 = .ok (.iload_n 2, 1) := by decide +kernel
theorem dX11_compares_42 : decode cX11_compares 42 = .ok (.if_icmp .ge 7, 3) := by decide +kernel
theorem dX11_compares_45 : decode cX11_compares 45 = .ok (.iconst 1, 1) := by decide +kernel
theorem dX11_compares_46 : decode cX11_compares 46 = .ok (.goto 53, 3) := by decide +kernel
theorem dX11_compares_49 : decode cX11_compares 49 = .ok (.iconst 0, 1) := by decide +kernel
theorem dX11_compares_50 : decode cX11_compares 50 = .ok (.goto 49, 3) := by decide +kernel
theorem dX11_compares_53 : decode cX11_compares 53 = .ok (.iload_n 0, 1) := by decide +kernel
theorem dX11_compares_54 : decode cX11_compares 54 = .ok (.iconst 3, 1) := by decide +kernel
theorem dX11_compares_55 : decode cX11_compares 55 = .ok (.if_icmp .ne 16, 3) := by decide +kernel
theorem dX11_compares_58 : decode cX11_compares 58 = .ok (.iload_n 1, 1) := by decide +kernel
theorem dX11_compares_59 : decode cX11_compares 59 = .ok (.iload_n 2, 1) := by decide +kernel
theorem dX11_compares_60 : decode cX11_compares 60 = .ok (.if_icmp .lt 7, 3) := by decide +kernel
theorem dX11_compares_63 : decode cX11_compares 63 = .ok (.iconst 1, 1) := by decide +kernel
theorem dX11_compares_64 : decode cX11_compares 64 = .ok (.goto 35, 3) := by decide +kernel
theorem dX11_compares_67 : decode cX11_compares 67 = .ok (.iconst 0, 1) := by decide +kernel
theorem dX11_compares_68 : decode cX11_compares 68 = .ok (.goto 31, 3) := by decide +kernel
theorem dX11_compares_71 : decode cX11_compares 71 = .ok (.iload_n 0, 1) := by decide +kernel
theorem dX11_compares_72 : decode cX11_compares 72 = .ok (.iconst 4, 1) := by decide +kernel
theorem dX11_compares_73 : decode cX11_compares 73 = .ok (.if_icmp .ne 16, 3) := by decide +kernel
theorem dX11_compares_76 : decode cX11_compares 76 = .ok (.iload_n 1, 1) := by decide +kernel
theorem dX11_compares_77 : decode cX11_compares 77 = .ok (.iload_n 2, 1) := by decide +kernel
theorem dX11_compares_78 : decode cX11_compares 78 = .ok (.if_icmp .le 7, 3) := by decide +kernel
theorem dX11_compares_81 : decode cX11_compares 81 = .ok (.iconst 1, 1) := by decide +kernel
theorem dX11_compares_82 : decode cX11_compares 82 = .ok (.goto 17, 3) := by decide +kernel
theorem dX11_compares_85 : decode cX11_compares 85 = .ok (.iconst 0, 1) := by decide +kernel
theorem dX11_compares_86 : decode cX11_compares 86 = .ok (.goto 13, 3) := by decide +kernel
theorem dX11_compares_89 : decode cX11_compares 89 = .ok (.iload_n 1, 1) := by decide +kernel
theorem dX11_compares_90 : decode cX11_compares 90 = .ok (.iload_n 2, 1) := by decide +kernel
theorem dX11_compares_91 : decode cX11_compares 91 = .ok (.if_icmp .gt 7, 3) := by decide +kernel
theorem dX11_compares_94 : decode cX11_compares 94 = .ok (.iconst 1, 1) := by decide +kernel
theorem dX11_compares_95 : decode cX11_compares 95 = .ok (.goto 4, 3) := by decide +kernel
theorem dX11_compares_98 : decode cX11_compares 98 = .ok (.iconst 0, 1) := by decide +kernel
theorem dX11_compares_99 : decode cX11_compares 99 = .ok (.ireturn, 1) := by decide +kernel
theorem dX11_make_0 : decode cX11_make 0 = .ok (.aload_n 0, 1) := by decide +kernel
theorem dX11_make_1 : decode cX11_make 1 = .ok (.getfield 50, 3) := by decide +kernel
theorem dX11_make_4 : decode cX11_make 4 = .ok (.iload_n 1, 1) := by decide +kernel
theorem dX11_make_5 : decode cX11_make 5 = .ok (.iconst 0, 1) := by decide +kernel
theorem dX11_make_6 : decode cX11_make 6 = .ok (.iastore, 1) := by decide +kernel
theorem dX11_make_7 : decode cX11_make 7 = .ok (.aload_n 0, 1) := by decide +kernel
theorem dX11_make_8 : decode cX11_make 8 = .ok (.getfield 16, 3) := by decide +kernel
theorem dX11_make_11 : decode cX11_make 11 = .ok (.iload_n 1, 1) := by decide +kernel
theorem dX11_make_12 : decode cX11_make 12 = .ok (.iaload, 1) := by decide +kernel
theorem dX11_make_13 : decode cX11_make 13 = .ok (.istore_n 2, 1) := by decide +kernel
theorem dX11_make_14 : decode cX11_make 14 = .ok (.aload_n 0, 1) := by decide +kernel
theorem dX11_make_15 : decode cX11_make 15 = .ok (.getfield 7, 3) := by decide +kernel
theorem dX11_make_18 : decode cX11_make 18 = .ok (.iload_n 1, 1) := by decide +kernel
theorem dX11_make_19 : decode cX11_make 19 = .ok (.iaload, 1) := by decide +kernel
theorem dX11_make_20 : decode cX11_make 20 = .ok (.iconst 4, 1) := by decide +kernel
theorem dX11_make_21 : decode cX11_make 21 = .ok (.if_icmp .ne 11, 3) := by decide +kernel
theorem dX11_make_24 : decode cX11_make 24 = .ok (.aload_n 0, 1) := by decide +kernel
theorem dX11_make_25 : decode cX11_make 25 = .ok (.iload_n 1, 1) := by decide +kernel
theorem dX11_make_26 : decode cX11_make 26 = .ok (.invokevirtual 78, 3) := by decide +kernel
theorem dX11_make_29 : decode cX11_make 29 = .ok (.goto 121, 3) := by decide +kernel
theorem dX11_make_32 : decode cX11_make 32 = .ok (.aload_n 0, 1) := by decide +kernel
theorem dX11_make_33 : decode cX11_make 33 = .ok (.getfield 7, 3) := by decide +kernel
theorem dX11_make_36 : decode cX11_make 36 = .ok (.iload_n 1, 1) := by decide +kernel
theorem dX11_make_37 : decode cX11_make 37 = .ok (.iaload, 1) := by decide +kernel
theorem dX11_make_38 : decode cX11_make 38 = .ok (.bipush 8, 2) := by decide +kernel
theorem dX11_make_40 : decode cX11_make 40 = .ok (.if_icmp .ne 11, 3) := by decide +kernel
theorem dX11_make_43 : decode cX11_make 43 = .ok (.aload_n 0, 1) := by decide +kernel
theorem dX11_make_44 : decode cX11_make 44 = .ok (.iload_n 1, 1) := by decide +kernel
theorem dX11_make_45 : decode cX11_make 45 = .ok (.invokevirtual 82, 3) := by decide +kernel
theorem dX11_make_48 : decode cX11_make 48 = .ok (.goto 102, 3) := by decide +kernel
theorem dX11_make_51 : decode cX11_make 51 = .ok (.iconst 0, 1) := by decide +kernel
theorem dX11_make_52 : decode cX11_make 52 = .ok (.istore_n 3, 1) := by decide +kernel
theorem dX11_make_53 : decode cX11_make 53 = .ok (.aload_n 0, 1) := by decide +kernel
theorem dX11_make_54 : decode cX11_make 54 = .ok (.getfield 68, 3) := by decide +kernel
theorem dX11_make_57 : decode cX11_make 57 = .ok (.ifCond .eq 26, 3) := by decide +kernel
theorem dX11_make_60 : decode cX11_make 60 = .ok (.iload_n 3, 1) := by decide +kernel
theorem dX11_make_61 : decode cX11_make 61 = .ok (.aload_n 0, 1) := by decide +kernel
theorem dX11_make_62 : decode cX11_make 62 = .ok (.getfield 50, 3) := by decide +kernel
theorem dX11_make_65 : decode cX11_make 65 = .ok (.iload_n 2, 1) := by decide +kernel
theorem dX11_make_66 : decode cX11_make 66 = .ok (.iaload, 1) := by decide +kernel
theorem dX11_make_67 : decode cX11_make 67 = .ok (.if_icmp .ge 16, 3) := by decide +kernel
theorem dX11_make_70 : decode cX11_make 70 = .ok (.aload_n 0, 1) := by decide +kernel
theorem dX11_make_71 : decode cX11_make 71 = .ok (.iload_n 1, 1) := by decide +kernel
theorem dX11_make_72 : decode cX11_make 72 = .ok (.iload_n 2, 1) := by decide +kernel
theorem dX11_make_73 : decode cX11_make 73 = .ok (.iload_n 3, 1) := by decide +kernel
theorem dX11_make_74 : decode cX11_make 74 = .ok (.invokevirtual 85, 3) := by decide +kernel
theorem dX11_make_77 : decode cX11_make 77 = .ok (.iinc 3 1, 3) := by decide +kernel
theorem dX11_make_80 : decode cX11_make 80 = .ok (.goto (-27), 3) := by decide +kernel
theorem dX11_make_83 : decode cX11_make 83 = .ok (.iconst 0, 1) := by decide +kernel
theorem dX11_make_84 : decode cX11_make 84 = .ok (.istore_n 3, 1) := by decide +kernel
theorem dX11_make_85 : decode cX11_make 85 = .ok (.aload_n 0, 1) := by decide +kernel
theorem dX11_make_86 : decode cX11_make 86 = .ok (.getfield 68, 3) := by decide +kernel
theorem dX11_make_89 : decode cX11_make 89 = .ok (.ifCond .eq 61, 3) := by decide +kernel
theorem dX11_make_92 : decode cX11_make 92 = .ok (.aload_n 0, 1) := by decide +kernel
theorem dX11_make_93 : decode cX11_make 93 = .ok (.getfield 7, 3) := by decide +kernel
theorem dX11_make_96 : decode cX11_make 96 = .ok (.iload_n 1, 1) := by decide +kernel
theorem dX11_make_97 : decode cX11_make 97 = .ok (.iaload, 1) := by decide +kernel
theorem dX11_make_98 : decode cX11_make 98 = .ok (.iconst 5, 1) := by decide +kernel
theorem dX11_make_99 : decode cX11_make 99 = .ok (.if_icmp .ne 51, 3) := by decide +kernel
theorem dX11_make_102 : decode cX11_make 102 = .ok (.iload_n 3, 1) := by decide +kernel
theorem dX11_make_103 : decode cX11_make 103 = .ok (.aload_n 0, 1) := by decide +kernel
theorem dX11_make_104 : decode cX11_make 104 = .ok (.getfield 50, 3) := by decide +kernel
theorem dX11_make_107 : decode cX11_make 107 = .ok (.aload_n 0, 1) := by decide +kernel
theorem dX11_make_108 : decode cX11_make 108 = .ok (.getfield 19, 3) := by decide +kernel
theorem dX11_make_111 : decode cX11_make 111 = .ok (.iload_n 1, 1) := by decide +kernel
theorem dX11_make_112 : decode cX11_make 112 = .ok (.iaload, 1) := by decide +kernel
theorem dX11_make_113 : decode cX11_make 113 = .ok (.iaload, 1) := by decide +kernel
theorem dX11_make_114 : decode cX11_make 114 = .ok (.if_icmp .ge 36, 3) := by decide +kernel
theorem dX11_make_117 : decode cX11_make 117 = .ok (.aload_n 0, 1) := by decide +kernel
theorem dX11_make_118 : decode cX11_make 118 = .ok (.aload_n 0, 1) := by decide +kernel
theorem dX11_make_119 : decode cX11_make 119 = .ok (.getfield 19, 3) := by decide +kernel
theorem dX11_make_122 : decode cX11_make 122 = .ok (.iload_n 1, 1) := by decide +kernel
theorem dX11_make_123 : decode cX11_make 123 = .ok (.iaload, 1) := by decide +kernel
theorem dX11_make_124 : decode cX11_make 124 = .ok (.iload_n 3, 1) := by decide +kernel
theorem dX11_make_125 : decode cX11_make 125 = .ok (.invokevirtual 89, 3) := by decide +kernel
theorem dX11_make_128 : decode cX11_make 128 = .ok (.aload_n 0, 1) := by decide +kernel
theorem dX11_make_129 : decode cX11_make 129 = .ok (.iload_n 1, 1) := by decide +kernel
theorem dX11_make_130 : decode cX11_make 130 = .ok (.aload_n 0, 1) := by decide +kernel
theorem dX11_make_131 : decode cX11_make 131 = .ok (.aload_n 0, 1) := by decide +kernel
theorem dX11_make_132 : decode cX11_make 132 = .ok (.getfield 19, 3) := by decide +kernel
theorem dX11_make_135 : decode cX11_make 135 = .ok (.iload_n 1, 1) := by decide +kernel
theorem dX11_make_136 : decode cX11_make 136 = .ok (.iaload, 1) := by decide +kernel
theorem dX11_make_137 : decode cX11_make 137 = .ok (.iload_n 3, 1) := by decide +kernel
theorem dX11_make_138 : decode cX11_make 138 = .ok (.invokevirtual 93, 3) := by decide +kernel
theorem dX11_make_141 : decode cX11_make 141 = .ok (.invokevirtual 97, 3) := by decide +kernel
theorem dX11_make_144 : decode cX11_make 144 = .ok (.iinc 3 1, 3) := by decide +kernel
theorem dX11_make_147 : decode cX11_make 147 = .ok (.goto (-62), 3) := by decide +kernel
theorem dX11_make_150 : decode cX11_make 150 = .ok (.return_, 1) := by decide +kernel
theorem dX11_makeRow_0 : decode cX11_makeRow 0 = .ok (.iconst 4, 1) := by decide +kernel
theorem dX11_makeRow_1 : decode cX11_makeRow 1 = .ok (.iload_n 1, 1) := by decide +kernel
theorem dX11_makeRow_2 : decode cX11_makeRow 2 = .ok (.imul, 1) := by decide +kernel
theorem dX11_makeRow_3 : decode cX11_makeRow 3 = .ok (.istore 4, 2) := by decide +kernel
theorem dX11_makeRow_5 : decode cX11_makeRow 5 = .ok (.aload_n 0, 1) := by decide +kernel
theorem dX11_makeRow_6 : decode cX11_makeRow 6 = .ok (.iload_n 2, 1) := by decide +kernel
theorem dX11_makeRow_7 : decode cX11_makeRow 7 = .ok (.iload_n 3, 1) := by decide +kernel
theorem dX11_makeRow_8 : decode cX11_makeRow 8 = .ok (.invokevirtual 89, 3) := by decide +kernel
theorem dX11_makeRow_11 : decode cX11_makeRow 11 = .ok (.aload_n 0, 1) := by decide +kernel
theorem dX11_makeRow_12 : decode cX11_makeRow 12 = .ok (.getfield 7, 3) := by decide +kernel
theorem dX11_makeRow_15 : decode cX11_makeRow 15 = .ok (.iload_n 1, 1) := by decide +kernel
theorem dX11_makeRow_16 : decode cX11_makeRow 16 = .ok (.iaload, 1) := by decide +kernel
theorem dX11_makeRow_17 : decode cX11_makeRow 17 = .ok (.iconst 2, 1) := by decide +kernel
theorem dX11_makeRow_18 : decode cX11_makeRow 18 = .ok (.if_icmp .ne 85, 3) := by decide +kernel
theorem dX11_makeRow_21 : decode cX11_makeRow 21 = .ok (.aload_n 0, 1) := by decide +kernel
theorem dX11_makeRow_22 : decode cX11_makeRow 22 = .ok (.getfield 25, 3) := by decide +kernel
theorem dX11_makeRow_25 : decode cX11_makeRow 25 = .ok (.iload_n 1, 1) := by decide +kernel
theorem dX11_makeRow_26 : decode cX11_makeRow 26 = .ok (.baload, 1) := by decide +kernel
theorem dX11_makeRow_27 : decode cX11_makeRow 27 = .ok (.ifCond .eq 21, 3) := by decide +kernel
theorem dX11_makeRow_30 : decode cX11_makeRow 30 = .ok (.aload_n 0, 1) := by decide +kernel
theorem dX11_makeRow_31 : decode cX11_makeRow 31 = .ok (.iload_n 2, 1) := by decide +kernel
theorem dX11_makeRow_32 : decode cX11_makeRow 32 = .ok (.iload_n 3, 1) := by decide +kernel
theorem dX11_makeRow_33 : decode cX11_makeRow 33 = .ok (.aload_n 0, 1) := by decide +kernel
theorem dX11_makeRow_34 : decode cX11_makeRow 34 = .ok (.getfield 22, 3) := by decide +kernel
theorem dX11_makeRow_37 : decode cX11_makeRow 37 = .ok (.iload 4, 2) := by decide +kernel
theorem dX11_makeRow_39 : decode cX11_makeRow 39 = .ok (.iconst 2, 1) := by decide +kernel
theorem dX11_makeRow_40 : decode cX11_makeRow 40 = .ok (.iadd, 1) := by decide +kernel
theorem dX11_makeRow_41 : decode cX11_makeRow 41 = .ok (.iaload, 1) := by decide +kernel
theorem dX11_makeRow_42 : decode cX11_makeRow 42 = .ok (.invokevirtual 74, 3) := by decide +kernel
theorem dX11_makeRow_45 : decode cX11_makeRow 45 = .ok (.goto 12, 3) := by decide +kernel
theorem dX11_makeRow_48 : decode cX11_makeRow 48 = .ok (.aload_n 0, 1) := by decide +kernel
theorem dX11_makeRow_49 : decode cX11_makeRow 49 = .ok (.getfield 22, 3) := by decide +kernel
theorem dX11_makeRow_52 : decode cX11_makeRow 52 = .ok (.iload 4, 2) := by decide +kernel
theorem dX11_makeRow_54 : decode cX11_makeRow 54 = .ok (.iconst 2, 1) := by decide +kernel
theorem dX11_makeRow_55 : decode cX11_makeRow 55 = .ok (.iadd, 1) := by decide +kernel
theorem dX11_makeRow_56 : decode cX11_makeRow 56 = .ok (.iaload, 1) := by decide +kernel
theorem dX11_makeRow_57 : decode cX11_makeRow 57 = .ok (.istore 5, 2) := by decide +kernel
theorem dX11_makeRow_59 : decode cX11_makeRow 59 = .ok (.aload_n 0, 1) := by decide +kernel
theorem dX11_makeRow_60 : decode cX11_makeRow 60 = .ok (.getfield 22, 3) := by decide +kernel
theorem dX11_makeRow_63 : decode cX11_makeRow 63 = .ok (.iload 4, 2) := by decide +kernel
theorem dX11_makeRow_65 : decode cX11_makeRow 65 = .ok (.iconst 1, 1) := by decide +kernel
theorem dX11_makeRow_66 : decode cX11_makeRow 66 = .ok (.iadd, 1) := by decide +kernel
theorem dX11_makeRow_67 : decode cX11_makeRow 67 = .ok (.iaload, 1) := by decide +kernel
theorem dX11_makeRow_68 : decode cX11_makeRow 68 = .ok (.aload_n 0, 1) := by decide +kernel
theorem dX11_makeRow_69 : decode cX11_makeRow 69 = .ok (.iload_n 2, 1) := by decide +kernel
theorem dX11_makeRow_70 : decode cX11_makeRow 70 = .ok (.iload_n 3, 1) := by decide +kernel
theorem dX11_makeRow_71 : decode cX11_makeRow 71 = .ok (.aload_n 0, 1) := by decide +kernel
theorem dX11_makeRow_72 : decode cX11_makeRow 72 = .ok (.getfield 22, 3) := by decide +kernel
theorem dX11_makeRow_75 : decode cX11_makeRow 75 = .ok (.iload 4, 2) := by decide +kernel
theorem dX11_makeRow_77 : decode cX11_makeRow 77 = .ok (.iaload, 1) := by decide +kernel
theorem dX11_makeRow_78 : decode cX11_makeRow 78 = .ok (.invokevirtual 74, 3) := by decide +kernel
theorem dX11_makeRow_81 : decode cX11_makeRow 81 = .ok (.iload 5, 2) := by decide +kernel
theorem dX11_makeRow_83 : decode cX11_makeRow 83 = .ok (.invokestatic 101, 3) := by decide +kernel
theorem dX11_makeRow_86 : decode cX11_makeRow 86 = .ok (.ifCond .eq 14, 3) := by decide +kernel
theorem dX11_makeRow_89 : decode cX11_makeRow 89 = .ok (.aload_n 0, 1) := by decide +kernel
theorem dX11_makeRow_90 : decode cX11_makeRow 90 = .ok (.iload_n 1, 1) := by decide +kernel
theorem dX11_makeRow_91 : decode cX11_makeRow 91 = .ok (.aload_n 0, 1) := by decide +kernel
theorem dX11_makeRow_92 : decode cX11_makeRow 92 = .ok (.iload_n 2, 1) := by decide +kernel
theorem dX11_makeRow_93 : decode cX11_makeRow 93 = .ok (.iload_n 3, 1) := by decide +kernel
theorem dX11_makeRow_94 : decode cX11_makeRow 94 = .ok (.invokevirtual 93, 3) := by decide +kernel
theorem dX11_makeRow_97 : decode cX11_makeRow 97 = .ok (.invokevirtual 97, 3) := by decide +kernel
theorem dX11_makeRow_100 : decode cX11_makeRow 100 = .ok (.goto 181, 3) := by decide +kernel
theorem dX11_makeRow_103 : decode cX11_makeRow 103 = .ok (.aload_n 0, 1) := by decide +kernel
theorem dX11_makeRow_104 : decode cX11_makeRow 104 = .ok (.getfield 7, 3) := by decide +kernel
theorem dX11_makeRow_107 : decode cX11_makeRow 107 = .ok (.iload_n 1, 1) := by decide +kernel
theorem dX11_makeRow_108 : decode cX11_makeRow 108 = .ok (.iaload, 1) := by decide +kernel
theorem dX11_makeRow_109 : decode cX11_makeRow 109 = .ok (.iconst 3, 1) := by decide +kernel
theorem dX11_makeRow_110 : decode cX11_makeRow 110 = .ok (.if_icmp .ne 60, 3) := by decide +kernel
theorem dX11_makeRow_113 : decode cX11_makeRow 113 = .ok (.iconst 0, 1) := by decide +kernel
theorem dX11_makeRow_114 : decode cX11_makeRow 114 = .ok (.istore 5, 2) := by decide +kernel
theorem dX11_makeRow_116 : decode cX11_makeRow 116 = .ok (.iload 5, 2) := by decide +kernel
theorem dX11_makeRow_118 : decode cX11_makeRow 118 = .ok (.aload_n 0, 1) := by decide +kernel
theorem dX11_makeRow_119 : decode cX11_makeRow 119 = .ok (.getfield 13, 3) := by decide +kernel
theorem dX11_makeRow_122 : decode cX11_makeRow 122 = .ok (.iload_n 1, 1) := by decide +kernel
theorem dX11_makeRow_123 : decode cX11_makeRow 123 = .ok (.iaload, 1) := by decide +kernel
theorem dX11_makeRow_124 : decode cX11_makeRow 124 = .ok (.if_icmp .ge 32, 3) := by decide +kernel
theorem dX11_makeRow_127 : decode cX11_makeRow 127 = .ok (.aload_n 0, 1) := by decide +kernel
theorem dX11_makeRow_128 : decode cX11_makeRow 128 = .ok (.getfield 53, 3) := by decide +kernel
theorem dX11_makeRow_131 : decode cX11_makeRow 131 = .ok (.iload 5, 2) := by decide +kernel
theorem dX11_makeRow_133 : decode cX11_makeRow 133 = .ok (.aload_n 0, 1) := by decide +kernel
theorem dX11_makeRow_134 : decode cX11_makeRow 134 = .ok (.iload_n 2, 1) := by decide +kernel
theorem dX11_makeRow_135 : decode cX11_makeRow 135 = .ok (.iload_n 3, 1) := by decide +kernel
theorem dX11_makeRow_136 : decode cX11_makeRow 136 = .ok (.aload_n 0, 1) := by decide +kernel
theorem dX11_makeRow_137 : decode cX11_makeRow 137 = .ok (.getfield 22, 3) := by decide +kernel
theorem dX11_makeRow_140 : decode cX11_makeRow 140 = .ok (.iload 4, 2) := by decide +kernel
theorem dX11_makeRow_142 : decode cX11_makeRow 142 = .ok (.iload 5, 2) := by decide +kernel
theorem dX11_makeRow_144 : decode cX11_makeRow 144 = .ok (.iadd, 1) := by decide +kernel
theorem dX11_makeRow_145 : decode cX11_makeRow 145 = .ok (.iaload, 1) := by decide +kernel
theorem dX11_makeRow_146 : decode cX11_makeRow 146 = .ok (.invokevirtual 74, 3) := by decide +kernel
theorem dX11_makeRow_149 : decode cX11_makeRow 149 = .ok (.iastore, 1) := by decide +kernel
theorem dX11_makeRow_150 : decode cX11_makeRow 150 = .ok (.iinc 5 1, 3) := by decide +kernel
theorem dX11_makeRow_153 : decode cX11_makeRow 153 = .ok (.goto (-37), 3) := by decide +kernel
theorem dX11_makeRow_156 : decode cX11_makeRow 156 = .ok (.aload_n 0, 1) := by decide +kernel
theorem dX11_makeRow_157 : decode cX11_makeRow 157 = .ok (.iload_n 1, 1) := by decide +kernel
theorem dX11_makeRow_158 : decode cX11_makeRow 158 = .ok (.aload_n 0, 1) := by decide +kernel
theorem dX11_makeRow_159 : decode cX11_makeRow 159 = .ok (.iload_n 2, 1) := by decide +kernel
theorem dX11_makeRow_160 : decode cX11_makeRow 160 = .ok (.iload_n 3, 1) := by decide +kernel
theorem dX11_makeRow_161 : decode cX11_makeRow 161 = .ok (.invokevirtual 93, 3) := by decide +kernel
theorem dX11_makeRow_164 : decode cX11_makeRow 164 = .ok (.invokevirtual 97, 3) := by decide +kernel
theorem dX11_makeRow_167 : decode cX11_makeRow 167 = .ok (.goto 114, 3) := by decide +kernel
theorem dX11_makeRow_170 : decode cX11_makeRow 170 = .ok (.aload_n 0, 1) := by decide +kernel
theorem dX11_makeRow_171 : decode cX11_makeRow 171 = .ok (.getfield 7, 3) := by decide +kernel
theorem dX11_makeRow_174 : decode cX11_makeRow 174 = .ok (.iload_n 1, 1) := by decide +kernel
theorem dX11_makeRow_175 : decode cX11_makeRow 175 = .ok (.iaload, 1) := by decide +kernel
theorem dX11_makeRow_176 : decode cX11_makeRow 176 = .ok (.bipush 6, 2) := by decide +kernel
theorem dX11_makeRow_178 : decode cX11_makeRow 178 = .ok (.if_icmp .ne 77, 3) := by decide +kernel
theorem dX11_makeRow_181 : decode cX11_makeRow 181 = .ok (.aload_n 0, 1) := by decide +kernel
theorem dX11_makeRow_182 : decode cX11_makeRow 182 = .ok (.aload_n 0, 1) := by decide +kernel
theorem dX11_makeRow_183 : decode cX11_makeRow 183 = .ok (.getfield 19, 3) := by decide +kernel
theorem dX11_makeRow_186 : decode cX11_makeRow 186 = .ok (.iload_n 1, 1) := by decide +kernel
theorem dX11_makeRow_187 : decode cX11_makeRow 187 = .ok (.iaload, 1) := by decide +kernel
theorem dX11_makeRow_188 : decode cX11_makeRow 188 = .ok (.invokevirtual 60, 3) := by decide +kernel
theorem dX11_makeRow_191 : decode cX11_makeRow 191 = .ok (.istore 5, 2) := by decide +kernel
theorem dX11_makeRow_193 : decode cX11_makeRow 193 = .ok (.aload_n 0, 1) := by decide +kernel
theorem dX11_makeRow_194 : decode cX11_makeRow 194 = .ok (.aload_n 0, 1) := by decide +kernel
theorem dX11_makeRow_195 : decode cX11_makeRow 195 = .ok (.getfield 19, 3) := by decide +kernel
theorem dX11_makeRow_198 : decode cX11_makeRow 198 = .ok (.iload_n 1, 1) := by decide +kernel
theorem dX11_makeRow_199 : decode cX11_makeRow 199 = .ok (.iaload, 1) := by decide +kernel
theorem dX11_makeRow_200 : decode cX11_makeRow 200 = .ok (.iload 5, 2) := by decide +kernel
theorem dX11_makeRow_202 : decode cX11_makeRow 202 = .ok (.invokevirtual 64, 3) := by decide +kernel
theorem dX11_makeRow_205 : decode cX11_makeRow 205 = .ok (.ifCond .eq 18, 3) := by decide +kernel
theorem dX11_makeRow_208 : decode cX11_makeRow 208 = .ok (.aload_n 0, 1) := by decide +kernel
theorem dX11_makeRow_209 : decode cX11_makeRow 209 = .ok (.aload_n 0, 1) := by decide +kernel
theorem dX11_makeRow_210 : decode cX11_makeRow 210 = .ok (.getfield 19, 3) := by decide +kernel
theorem dX11_makeRow_213 : decode cX11_makeRow 213 = .ok (.iload_n 1, 1) := by decide +kernel
theorem dX11_makeRow_214 : decode cX11_makeRow 214 = .ok (.iaload, 1) := by decide +kernel
theorem dX11_makeRow_215 : decode cX11_makeRow 215 = .ok (.iload 5, 2) := by decide +kernel
theorem dX11_makeRow_217 : decode cX11_makeRow 217 = .ok (.invokevirtual 93, 3) := by decide +kernel
theorem dX11_makeRow_220 : decode cX11_makeRow 220 = .ok (.goto 4, 3) := by decide +kernel
theorem dX11_makeRow_223 : decode cX11_makeRow 223 = .ok (.lconst 0, 1) := by decide +kernel
theorem dX11_makeRow_224 : decode cX11_makeRow 224 = .ok (.lstore 6, 2) := by decide +kernel
theorem dX11_makeRow_226 : decode cX11_makeRow 226 = .ok (.aload_n 0, 1) := by decide +kernel
theorem dX11_makeRow_227 : decode cX11_makeRow 227 = .ok (.iload_n 2, 1) := by decide +kernel
theorem dX11_makeRow_228 : decode cX11_makeRow 228 = .ok (.iload_n 3, 1) := by decide +kernel
theorem dX11_makeRow_229 : decode cX11_makeRow 229 = .ok (.invokevirtual 93, 3) := by decide +kernel
theorem dX11_makeRow_232 : decode cX11_makeRow 232 = .ok (.lload 6, 2) := by decide +kernel
theorem dX11_makeRow_234 : decode cX11_makeRow 234 = .ok (.lcmp, 1) := by decide +kernel
theorem dX11_makeRow_235 : decode cX11_makeRow 235 = .ok (.ifCond .le 17, 3) := by decide +kernel
theorem dX11_makeRow_238 : decode cX11_makeRow 238 = .ok (.aload_n 0, 1) := by decide +kernel
theorem dX11_makeRow_239 : decode cX11_makeRow 239 = .ok (.iload_n 1, 1) := by decide +kernel
theorem dX11_makeRow_240 : decode cX11_makeRow 240 = .ok (.aload_n 0, 1) := by decide +kernel
theorem dX11_makeRow_241 : decode cX11_makeRow 241 = .ok (.iload_n 2, 1) := by decide +kernel
theorem dX11_makeRow_242 : decode cX11_makeRow 242 = .ok (.iload_n 3, 1) := by decide +kernel
theorem dX11_makeRow_243 : decode cX11_makeRow 243 = .ok (.invokevirtual 93, 3) := by decide +kernel
theorem dX11_makeRow_246 : decode cX11_makeRow 246 = .ok (.lload 6, 2) := by decide +kernel
theorem dX11_makeRow_248 : decode cX11_makeRow 248 = .ok (.lsub, 1) := by decide +kernel
theorem dX11_makeRow_249 : decode cX11_makeRow 249 = .ok (.invokevirtual 97, 3) := by decide +kernel
theorem dX11_makeRow_252 : decode cX11_makeRow 252 = .ok (.goto 29, 3) := by decide +kernel
theorem dX11_makeRow_255 : decode cX11_makeRow 255 = .ok (.aload_n 0, 1) := by decide +kernel
theorem dX11_makeRow_256 : decode cX11_makeRow 256 = .ok (.iload_n 1, 1) := by decide +kernel
theorem dX11_makeRow_257 : decode cX11_makeRow 257 = .ok (.aload_n 0, 1) := by decide +kernel
theorem dX11_makeRow_258 : decode cX11_makeRow 258 = .ok (.getfield 7, 3) := by decide +kernel
theorem dX11_makeRow_261 : decode cX11_makeRow 261 = .ok (.iload_n 1, 1) := by decide +kernel
theorem dX11_makeRow_262 : decode cX11_makeRow 262 = .ok (.iaload, 1) := by decide +kernel
theorem dX11_makeRow_263 : decode cX11_makeRow 263 = .ok (.bipush 7, 2) := by decide +kernel
theorem dX11_makeRow_265 : decode cX11_makeRow 265 = .ok (.if_icmp .ne 7, 3) := by decide +kernel
theorem dX11_makeRow_268 : decode cX11_makeRow 268 = .ok (.lconst 1, 1) := by decide +kernel
theorem dX11_makeRow_269 : decode cX11_makeRow 269 = .ok (.goto 9, 3) := by decide +kernel
theorem dX11_makeRow_272 : decode cX11_makeRow 272 = .ok (.aload_n 0, 1) := by decide +kernel
theorem dX11_makeRow_273 : decode cX11_makeRow 273 = .ok (.iload_n 2, 1) := by decide +kernel
theorem dX11_makeRow_274 : decode cX11_makeRow 274 = .ok (.iload_n 3, 1) := by decide +kernel
theorem dX11_makeRow_275 : decode cX11_makeRow 275 = .ok (.invokevirtual 93, 3) := by decide +kernel
theorem dX11_makeRow_278 : decode cX11_makeRow 278 = .ok (.invokevirtual 97, 3) := by decide +kernel
theorem dX11_makeRow_281 : decode cX11_makeRow 281 = .ok (.return_, 1) := by decide +kernel
theorem dX11_makeJoin_0 : decode cX11_makeJoin 0 = .ok (.aload_n 0, 1) := by decide +kernel
theorem dX11_makeJoin_1 : decode cX11_makeJoin 1 = .ok (.getfield 16, 3) := by decide +kernel
theorem dX11_makeJoin_4 : decode cX11_makeJoin 4 = .ok (.iload_n 1, 1) := by decide +kernel
theorem dX11_makeJoin_5 : decode cX11_makeJoin 5 = .ok (.iaload, 1) := by decide +kernel
theorem dX11_makeJoin_6 : decode cX11_makeJoin 6 = .ok (.istore_n 2, 1) := by decide +kernel
theorem dX11_makeJoin_7 : decode cX11_makeJoin 7 = .ok (.aload_n 0, 1) := by decide +kernel
theorem dX11_makeJoin_8 : decode cX11_makeJoin 8 = .ok (.getfield 19, 3) := by decide +kernel
theorem dX11_makeJoin_11 : decode cX11_makeJoin 11 = .ok (.iload_n 1, 1) := by decide +kernel
theorem dX11_makeJoin_12 : decode cX11_makeJoin 12 = .ok (.iaload, 1) := by decide +kernel
theorem dX11_makeJoin_13 : decode cX11_makeJoin 13 = .ok (.istore_n 3, 1) := by decide +kernel
theorem dX11_makeJoin_14 : decode cX11_makeJoin 14 = .ok (.iconst 0, 1) := by decide +kernel
theorem dX11_makeJoin_15 : decode cX11_makeJoin 15 = .ok (.istore 4, 2) := by decide +kernel
theorem dX11_makeJoin_17 : decode cX11_makeJoin 17 = .ok (.iload 4, 2) := by decide +kernel
theorem dX11_makeJoin_19 : decode cX11_makeJoin 19 = .ok (.aload_n 0, 1) := by decide +kernel
theorem dX11_makeJoin_20 : decode cX11_makeJoin 20 = .ok (.getfield 50, 3) := by decide +kernel
theorem dX11_makeJoin_23 : decode cX11_makeJoin 23 = .ok (.iload_n 2, 1) := by decide +kernel
theorem dX11_makeJoin_24 : decode cX11_makeJoin 24 = .ok (.iaload, 1) := by decide +kernel
theorem dX11_makeJoin_25 : decode cX11_makeJoin 25 = .ok (.if_icmp .ge 157, 3) := by decide +kernel
theorem dX11_makeJoin_28 : decode cX11_makeJoin 28 = .ok (.iconst 0, 1) := by decide +kernel
theorem dX11_makeJoin_29 : decode cX11_makeJoin 29 = .ok (.istore 5, 2) := by decide +kernel
theorem dX11_makeJoin_31 : decode cX11_makeJoin 31 = .ok (.aload_n 0, 1) := by decide +kernel
theorem dX11_makeJoin_32 : decode cX11_makeJoin 32 = .ok (.getfield 68, 3) := by decide +kernel
theorem dX11_makeJoin_35 : decode cX11_makeJoin 35 = .ok (.ifCond .eq 141, 3) := by decide +kernel
theorem dX11_makeJoin_38 : decode cX11_makeJoin 38 = .ok (.iload 5, 2) := by decide +kernel
theorem dX11_makeJoin_40 : decode cX11_makeJoin 40 = .ok (.aload_n 0, 1) := by decide +kernel
theorem dX11_makeJoin_41 : decode cX11_makeJoin 41 = .ok (.getfield 50, 3) := by decide +kernel
theorem dX11_makeJoin_44 : decode cX11_makeJoin 44 = .ok (.iload_n 3, 1) := by decide +kernel
theorem dX11_makeJoin_45 : decode cX11_makeJoin 45 = .ok (.iaload, 1) := by decide +kernel
theorem dX11_makeJoin_46 : decode cX11_makeJoin 46 = .ok (.if_icmp .ge 130, 3) := by decide +kernel
theorem dX11_makeJoin_49 : decode cX11_makeJoin 49 = .ok (.aload_n 0, 1) := by decide +kernel
theorem dX11_makeJoin_50 : decode cX11_makeJoin 50 = .ok (.iload_n 2, 1) := by decide +kernel
theorem dX11_makeJoin_51 : decode cX11_makeJoin 51 = .ok (.iload 4, 2) := by decide +kernel
theorem dX11_makeJoin_53 : decode cX11_makeJoin 53 = .ok (.aload_n 0, 1) := by decide +kernel
theorem dX11_makeJoin_54 : decode cX11_makeJoin 54 = .ok (.getfield 22, 3) := by decide +kernel
theorem dX11_makeJoin_57 : decode cX11_makeJoin 57 = .ok (.iconst 4, 1) := by decide +kernel
theorem dX11_makeJoin_58 : decode cX11_makeJoin 58 = .ok (.iload_n 1, 1) := by decide +kernel
theorem dX11_makeJoin_59 : decode cX11_makeJoin 59 = .ok (.imul, 1) := by decide +kernel
theorem dX11_makeJoin_60 : decode cX11_makeJoin 60 = .ok (.iaload, 1) := by decide +kernel
theorem dX11_makeJoin_61 : decode cX11_makeJoin 61 = .ok (.invokevirtual 74, 3) := by decide +kernel
theorem dX11_makeJoin_64 : decode cX11_makeJoin 64 = .ok (.aload_n 0, 1) := by decide +kernel
theorem dX11_makeJoin_65 : decode cX11_makeJoin 65 = .ok (.iload_n 3, 1) := by decide +kernel
theorem dX11_makeJoin_66 : decode cX11_makeJoin 66 = .ok (.iload 5, 2) := by decide +kernel
theorem dX11_makeJoin_68 : decode cX11_makeJoin 68 = .ok (.aload_n 0, 1) := by decide +kernel
theorem dX11_makeJoin_69 : decode cX11_makeJoin 69 = .ok (.getfield 22, 3) := by decide +kernel
theorem dX11_makeJoin_72 : decode cX11_makeJoin 72 = .ok (.iconst 4, 1) := by decide +kernel
theorem dX11_makeJoin_73 : decode cX11_makeJoin 73 = .ok (.iload_n 1, 1) := by decide +kernel
theorem dX11_makeJoin_74 : decode cX11_makeJoin 74 = .ok (.imul, 1) := by decide +kernel
theorem dX11_makeJoin_75 : decode cX11_makeJoin 75 = .ok (.iconst 1, 1) := by decide +kernel
theorem dX11_makeJoin_76 : decode cX11_makeJoin 76 = .ok (.iadd, 1) := by decide +kernel
theorem dX11_makeJoin_77 : decode cX11_makeJoin 77 = .ok (.iaload, 1) := by decide +kernel
theorem dX11_makeJoin_78 : decode cX11_makeJoin 78 = .ok (.invokevirtual 74, 3) := by decide +kernel
theorem dX11_makeJoin_81 : decode cX11_makeJoin 81 = .ok (.if_icmp .ne 89, 3) := by decide +kernel
theorem dX11_makeJoin_84 : decode cX11_makeJoin 84 = .ok (.iconst 0, 1) := by decide +kernel
theorem dX11_makeJoin_85 : decode cX11_makeJoin 85 = .ok (.istore 6, 2) := by decide +kernel
theorem dX11_makeJoin_87 : decode cX11_makeJoin 87 = .ok (.iload 6, 2) := by decide +kernel
theorem dX11_makeJoin_89 : decode cX11_makeJoin 89 = .ok (.aload_n 0, 1) := by decide +kernel
theorem dX11_makeJoin_90 : decode cX11_makeJoin 90 = .ok (.getfield 13, 3) := by decide +kernel
theorem dX11_makeJoin_93 : decode cX11_makeJoin 93 = .ok (.iload_n 1, 1) := by decide +kernel
theorem dX11_makeJoin_94 : decode cX11_makeJoin 94 = .ok (.iaload, 1) := by decide +kernel
theorem dX11_makeJoin_95 : decode cX11_makeJoin 95 = .ok (.if_icmp .ge 55, 3) := by decide +kernel
theorem dX11_makeJoin_98 : decode cX11_makeJoin 98 = .ok (.aload_n 0, 1) := by decide +kernel
theorem dX11_makeJoin_99 : decode cX11_makeJoin 99 = .ok (.getfield 53, 3) := by decide +kernel
theorem dX11_makeJoin_102 : decode cX11_makeJoin 102 = .ok (.iload 6, 2) := by decide +kernel
theorem dX11_makeJoin_104 : decode cX11_makeJoin 104 = .ok (.iload 6, 2) := by decide +kernel
theorem dX11_makeJoin_106 : decode cX11_makeJoin 106 = .ok (.aload_n 0, 1) := by decide +kernel
theorem dX11_makeJoin_107 : decode cX11_makeJoin 107 = .ok (.getfield 13, 3) := by decide +kernel
theorem dX11_makeJoin_110 : decode cX11_makeJoin 110 = .ok (.iload_n 2, 1) := by decide +kernel
theorem dX11_makeJoin_111 : decode cX11_makeJoin 111 = .ok (.iaload, 1) := by decide +kernel
theorem dX11_makeJoin_112 : decode cX11_makeJoin 112 = .ok (.if_icmp .ge 15, 3) := by decide +kernel
theorem dX11_makeJoin_115 : decode cX11_makeJoin 115 = .ok (.aload_n 0, 1) := by decide +kernel
theorem dX11_makeJoin_116 : decode cX11_makeJoin 116 = .ok (.iload_n 2, 1) := by decide +kernel
theorem dX11_makeJoin_117 : decode cX11_makeJoin 117 = .ok (.iload 4, 2) := by decide +kernel
theorem dX11_makeJoin_119 : decode cX11_makeJoin 119 = .ok (.iload 6, 2) := by decide +kernel
theorem dX11_makeJoin_121 : decode cX11_makeJoin 121 = .ok (.invokevirtual 74, 3) := by decide +kernel
theorem dX11_makeJoin_124 : decode cX11_makeJoin 124 = .ok (.goto 19, 3) := by decide +kernel
theorem dX11_makeJoin_127 : decode cX11_makeJoin 127 = .ok (.aload_n 0, 1) := by decide +kernel
theorem dX11_makeJoin_128 : decode cX11_makeJoin 128 = .ok (.iload_n 3, 1) := by decide +kernel
theorem dX11_makeJoin_129 : decode cX11_makeJoin 129 = .ok (.iload 5, 2) := by decide +kernel
theorem dX11_makeJoin_131 : decode cX11_makeJoin 131 = .ok (.iload 6, 2) := by decide +kernel
theorem dX11_makeJoin_133 : decode cX11_makeJoin 133 = .ok (.aload_n 0, 1) := by decide +kernel
theorem dX11_makeJoin_134 : decode cX11_makeJoin 134 = .ok (.getfield 13, 3) := by decide +kernel
theorem dX11_makeJoin_137 : decode cX11_makeJoin 137 = .ok (.iload_n 2, 1) := by decide +kernel
theorem dX11_makeJoin_138 : decode cX11_makeJoin 138 = .ok (.iaload, 1) := by decide +kernel
theorem dX11_makeJoin_139 : decode cX11_makeJoin 139 = .ok (.isub, 1) := by decide +kernel
theorem dX11_makeJoin_140 : decode cX11_makeJoin 140 = .ok (.invokevirtual 74, 3) := by decide +kernel
theorem dX11_makeJoin_143 : decode cX11_makeJoin 143 = .ok (.iastore, 1) := by decide +kernel
theorem dX11_makeJoin_144 : decode cX11_makeJoin 144 = .ok (.iinc 6 1, 3) := by decide +kernel
theorem dX11_makeJoin_147 : decode cX11_makeJoin 147 = .ok (.goto (-60), 3) := by decide +kernel
theorem dX11_makeJoin_150 : decode cX11_makeJoin 150 = .ok (.aload_n 0, 1) := by decide +kernel
theorem dX11_makeJoin_151 : decode cX11_makeJoin 151 = .ok (.iload_n 1, 1) := by decide +kernel
theorem dX11_makeJoin_152 : decode cX11_makeJoin 152 = .ok (.aload_n 0, 1) := by decide +kernel
theorem dX11_makeJoin_153 : decode cX11_makeJoin 153 = .ok (.iload_n 2, 1) := by decide +kernel
theorem dX11_makeJoin_154 : decode cX11_makeJoin 154 = .ok (.iload 4, 2) := by decide +kernel
theorem dX11_makeJoin_156 : decode cX11_makeJoin 156 = .ok (.invokevirtual 93, 3) := by decide +kernel
theorem dX11_makeJoin_159 : decode cX11_makeJoin 159 = .ok (.aload_n 0, 1) := by decide +kernel
theorem dX11_makeJoin_160 : decode cX11_makeJoin 160 = .ok (.iload_n 3, 1) := by decide +kernel
theorem dX11_makeJoin_161 : decode cX11_makeJoin 161 = .ok (.iload 5, 2) := by decide +kernel
theorem dX11_makeJoin_163 : decode cX11_makeJoin 163 = .ok (.invokevirtual 93, 3) := by decide +kernel
theorem dX11_makeJoin_166 : decode cX11_makeJoin 166 = .ok (.lmul, 1) := by decide +kernel
theorem dX11_makeJoin_167 : decode cX11_makeJoin 167 = .ok (.invokevirtual 97, 3) := by decide +kernel
theorem dX11_makeJoin_170 : decode cX11_makeJoin 170 = .ok (.iinc 5 1, 3) := by decide +kernel
theorem dX11_makeJoin_173 : decode cX11_makeJoin 173 = .ok (.goto (-142), 3) := by decide +kernel
theorem dX11_makeJoin_176 : decode cX11_makeJoin 176 = .ok (.iinc 4 1, 3) := by decide +kernel
theorem dX11_makeJoin_179 : decode cX11_makeJoin 179 = .ok (.goto (-162), 3) := by decide +kernel
theorem dX11_makeJoin_182 : decode cX11_makeJoin 182 = .ok (.return_, 1) := by decide +kernel
theorem dX11_isSameGroup_0 : decode cX11_isSameGroup 0 = .ok (.iload_n 2, 1) := by decide +kernel
theorem dX11_isSameGroup_1 : decode cX11_isSameGroup 1 = .ok (.ifCond .lt 21, 3) := by decide +kernel
theorem dX11_isSameGroup_4 : decode cX11_isSameGroup 4 = .ok (.aload_n 0, 1) := by decide +kernel
theorem dX11_isSameGroup_5 : decode cX11_isSameGroup 5 = .ok (.iload_n 1, 1) := by decide +kernel
theorem dX11_isSameGroup_6 : decode cX11_isSameGroup 6 = .ok (.iload_n 3, 1) := by decide +kernel
theorem dX11_isSameGroup_7 : decode cX11_isSameGroup 7 = .ok (.iload_n 2, 1) := by decide +kernel
theorem dX11_isSameGroup_8 : decode cX11_isSameGroup 8 = .ok (.invokevirtual 74, 3) := by decide +kernel
theorem dX11_isSameGroup_11 : decode cX11_isSameGroup 11 = .ok (.aload_n 0, 1) := by decide +kernel
theorem dX11_isSameGroup_12 : decode cX11_isSameGroup 12 = .ok (.iload_n 1, 1) := by decide +kernel
theorem dX11_isSameGroup_13 : decode cX11_isSameGroup 13 = .ok (.iload 4, 2) := by decide +kernel
theorem dX11_isSameGroup_15 : decode cX11_isSameGroup 15 = .ok (.iload_n 2, 1) := by decide +kernel
theorem dX11_isSameGroup_16 : decode cX11_isSameGroup 16 = .ok (.invokevirtual 74, 3) := by decide +kernel
theorem dX11_isSameGroup_19 : decode cX11_isSameGroup 19 = .ok (.if_icmp .ne 7, 3) := by decide +kernel
theorem dX11_isSameGroup_22 : decode cX11_isSameGroup 22 = .ok (.iconst 1, 1) := by decide +kernel
theorem dX11_isSameGroup_23 : decode cX11_isSameGroup 23 = .ok (.goto 4, 3) := by decide +kernel
theorem dX11_isSameGroup_26 : decode cX11_isSameGroup 26 = .ok (.iconst 0, 1) := by decide +kernel
theorem dX11_isSameGroup_27 : decode cX11_isSameGroup 27 = .ok (.ireturn, 1) := by decide +kernel
theorem dX11_makeGroups_0 : decode cX11_makeGroups 0 = .ok (.aload_n 0, 1) := by decide +kernel
theorem dX11_makeGroups_1 : decode cX11_makeGroups 1 = .ok (.getfield 16, 3) := by decide +kernel
theorem dX11_makeGroups_4 : decode cX11_makeGroups 4 = .ok (.iload_n 1, 1) := by decide +kernel
theorem dX11_makeGroups_5 : decode cX11_makeGroups 5 = .ok (.iaload, 1) := by decide +kernel
theorem dX11_makeGroups_6 : decode cX11_makeGroups 6 = .ok (.istore_n 2, 1) := by decide +kernel
theorem dX11_makeGroups_7 : decode cX11_makeGroups 7 = .ok (.aload_n 0, 1) := by decide +kernel
theorem dX11_makeGroups_8 : decode cX11_makeGroups 8 = .ok (.getfield 22, 3) := by decide +kernel
theorem dX11_makeGroups_11 : decode cX11_makeGroups 11 = .ok (.iconst 4, 1) := by decide +kernel
theorem dX11_makeGroups_12 : decode cX11_makeGroups 12 = .ok (.iload_n 1, 1) := by decide +kernel
theorem dX11_makeGroups_13 : decode cX11_makeGroups 13 = .ok (.imul, 1) := by decide +kernel
theorem dX11_makeGroups_14 : decode cX11_makeGroups 14 = .ok (.iaload, 1) := by decide +kernel
theorem dX11_makeGroups_15 : decode cX11_makeGroups 15 = .ok (.istore_n 3, 1) := by decide +kernel
theorem dX11_makeGroups_16 : decode cX11_makeGroups 16 = .ok (.aload_n 0, 1) := by decide +kernel
theorem dX11_makeGroups_17 : decode cX11_makeGroups 17 = .ok (.getfield 22, 3) := by decide +kernel
theorem dX11_makeGroups_20 : decode cX11_makeGroups 20 = .ok (.iconst 4, 1) := by decide +kernel
theorem dX11_makeGroups_21 : decode cX11_makeGroups 21 = .ok (.iload_n 1, 1) := by decide +kernel
theorem dX11_makeGroups_22 : decode cX11_makeGroups 22 = .ok (.imul, 1) := by decide +kernel
theorem dX11_makeGroups_23 : decode cX11_makeGroups 23 = .ok (.iconst 1, 1) := by decide +kernel
theorem dX11_makeGroups_24 : decode cX11_makeGroups 24 = .ok (.iadd, 1) := by decide +kernel
theorem dX11_makeGroups_25 : decode cX11_makeGroups 25 = .ok (.iaload, 1) := by decide +kernel
theorem dX11_makeGroups_26 : decode cX11_makeGroups 26 = .ok (.istore 4, 2) := by decide +kernel
theorem dX11_makeGroups_28 : decode cX11_makeGroups 28 = .ok (.aload_n 0, 1) := by decide +kernel
theorem dX11_makeGroups_29 : decode cX11_makeGroups 29 = .ok (.getfield 22, 3) := by decide +kernel
theorem dX11_makeGroups_32 : decode cX11_makeGroups 32 = .ok (.iconst 4, 1) := by decide +kernel
theorem dX11_makeGroups_33 : decode cX11_makeGroups 33 = .ok (.iload_n 1, 1) := by decide +kernel
theorem dX11_makeGroups_34 : decode cX11_makeGroups 34 = .ok (.imul, 1) := by decide +kernel
theorem dX11_makeGroups_35 : decode cX11_makeGroups 35 = .ok (.iconst 2, 1) := by decide +kernel
theorem dX11_makeGroups_36 : decode cX11_makeGroups 36 = .ok (.iadd, 1) := by decide +kernel
theorem dX11_makeGroups_37 : decode cX11_makeGroups 37 = .ok (.iaload, 1) := by decide +kernel
theorem dX11_makeGroups_38 : decode cX11_makeGroups 38 = .ok (.istore 5, 2) := by decide +kernel
theorem dX11_makeGroups_40 : decode cX11_makeGroups 40 = .ok (.iconst 0, 1) := by decide +kernel
theorem dX11_makeGroups_41 : decode cX11_makeGroups 41 = .ok (.istore 6, 2) := by decide +kernel
theorem dX11_makeGroups_43 : decode cX11_makeGroups 43 = .ok (.aload_n 0, 1) := by decide +kernel
theorem dX11_makeGroups_44 : decode cX11_makeGroups 44 = .ok (.getfield 68, 3) := by decide +kernel
theorem dX11_makeGroups_47 : decode cX11_makeGroups 47 = .ok (.ifCond .eq 251, 3) := by decide +kernel
theorem dX11_makeGroups_50 : decode cX11_makeGroups 50 = .ok (.iload 6, 2) := by decide +kernel
theorem dX11_makeGroups_52 : decode cX11_makeGroups 52 = .ok (.aload_n 0, 1) := by decide +kernel
theorem dX11_makeGroups_53 : decode cX11_makeGroups 53 = .ok (.getfield 50, 3) := by decide +kernel
theorem dX11_makeGroups_56 : decode cX11_makeGroups 56 = .ok (.iload_n 2, 1) := by decide +kernel
theorem dX11_makeGroups_57 : decode cX11_makeGroups 57 = .ok (.iaload, 1) := by decide +kernel
theorem dX11_makeGroups_58 : decode cX11_makeGroups 58 = .ok (.if_icmp .ge 240, 3) := by decide +kernel
theorem dX11_makeGroups_61 : decode cX11_makeGroups 61 = .ok (.iconst 1, 1) := by decide +kernel
theorem dX11_makeGroups_62 : decode cX11_makeGroups 62 = .ok (.istore 7, 2) := by decide +kernel
theorem dX11_makeGroups_64 : decode cX11_makeGroups 64 = .ok (.iconst 0, 1) := by decide +kernel
theorem dX11_makeGroups_65 : decode cX11_makeGroups 65 = .ok (.istore 8, 2) := by decide +kernel
theorem dX11_makeGroups_67 : decode cX11_makeGroups 67 = .ok (.iload 7, 2) := by decide +kernel
theorem dX11_makeGroups_69 : decode cX11_makeGroups 69 = .ok (.ifCond .eq 36, 3) := by decide +kernel
theorem dX11_makeGroups_72 : decode cX11_makeGroups 72 = .ok (.iload 8, 2) := by decide +kernel
theorem dX11_makeGroups_74 : decode cX11_makeGroups 74 = .ok (.iload 6, 2) := by decide +kernel
theorem dX11_makeGroups_76 : decode cX11_makeGroups 76 = .ok (.if_icmp .ge 29, 3) := by decide +kernel
theorem dX11_makeGroups_79 : decode cX11_makeGroups 79 = .ok (.aload_n 0, 1) := by decide +kernel
theorem dX11_makeGroups_80 : decode cX11_makeGroups 80 = .ok (.iload_n 2, 1) := by decide +kernel
theorem dX11_makeGroups_81 : decode cX11_makeGroups 81 = .ok (.iload_n 3, 1) := by decide +kernel
theorem dX11_makeGroups_82 : decode cX11_makeGroups 82 = .ok (.iload 8, 2) := by decide +kernel
theorem dX11_makeGroups_84 : decode cX11_makeGroups 84 = .ok (.iload 6, 2) := by decide +kernel
theorem dX11_makeGroups_86 : decode cX11_makeGroups 86 = .ok (.invokevirtual 105, 3) := by decide +kernel
theorem dX11_makeGroups_89 : decode cX11_makeGroups 89 = .ok (.ifCond .ne 7, 3) := by decide +kernel
theorem dX11_makeGroups_92 : decode cX11_makeGroups 92 = .ok (.iconst 1, 1) := by decide +kernel
theorem dX11_makeGroups_93 : decode cX11_makeGroups 93 = .ok (.goto 4, 3) := by decide +kernel
theorem dX11_makeGroups_96 : decode cX11_makeGroups 96 = .ok (.iconst 0, 1) := by decide +kernel
theorem dX11_makeGroups_97 : decode cX11_makeGroups 97 = .ok (.istore 7, 2) := by decide +kernel
theorem dX11_makeGroups_99 : decode cX11_makeGroups 99 = .ok (.iinc 8 1, 3) := by decide +kernel
theorem dX11_makeGroups_102 : decode cX11_makeGroups 102 = .ok (.goto (-35), 3) := by decide +kernel
theorem dX11_makeGroups_105 : decode cX11_makeGroups 105 = .ok (.iload 7, 2) := by decide +kernel
theorem dX11_makeGroups_107 : decode cX11_makeGroups 107 = .ok (.ifCond .eq 185, 3) := by decide +kernel
theorem dX11_makeGroups_110 : decode cX11_makeGroups 110 = .ok (.iload 4, 2) := by decide +kernel
theorem dX11_makeGroups_112 : decode cX11_makeGroups 112 = .ok (.iconst 2, 1) := by decide +kernel
theorem dX11_makeGroups_113 : decode cX11_makeGroups 113 = .ok (.if_icmp .ge 7, 3) := by decide +kernel
theorem dX11_makeGroups_116 : decode cX11_makeGroups 116 = .ok (.iconst 0, 1) := by decide +kernel
theorem dX11_makeGroups_117 : decode cX11_makeGroups 117 = .ok (.goto 12, 3) := by decide +kernel
theorem dX11_makeGroups_120 : decode cX11_makeGroups 120 = .ok (.aload_n 0, 1) := by decide +kernel
theorem dX11_makeGroups_121 : decode cX11_makeGroups 121 = .ok (.iload_n 2, 1) := by decide +kernel
theorem dX11_makeGroups_122 : decode cX11_makeGroups 122 = .ok (.iload 6, 2) := by decide +kernel
theorem dX11_makeGroups_124 : decode cX11_makeGroups 124 = .ok (.iload 5, 2) := by decide +kernel
theorem dX11_makeGroups_126 : decode cX11_makeGroups 126 = .ok (.invokevirtual 74, 3) := by decide +kernel
theorem dX11_makeGroups_129 : decode cX11_makeGroups 129 = .ok (.istore 8, 2) := by decide +kernel
theorem dX11_makeGroups_131 : decode cX11_makeGroups 131 = .ok (.iload 6, 2) := by decide +kernel
theorem dX11_makeGroups_133 : decode cX11_makeGroups 133 = .ok (.istore 9, 2) := by decide +kernel
theorem dX11_makeGroups_135 : decode cX11_makeGroups 135 = .ok (.iload 9, 2) := by decide +kernel
theorem dX11_makeGroups_137 : decode cX11_makeGroups 137 = .ok (.aload_n 0, 1) := by decide +kernel
theorem dX11_makeGroups_138 : decode cX11_makeGroups 138 = .ok (.getfield 50, 3) := by decide +kernel
theorem dX11_makeGroups_141 : decode cX11_makeGroups 141 = .ok (.iload_n 2, 1) := by decide +kernel
theorem dX11_makeGroups_142 : decode cX11_makeGroups 142 = .ok (.iaload, 1) := by decide +kernel
theorem dX11_makeGroups_143 : decode cX11_makeGroups 143 = .ok (.if_icmp .ge 112, 3) := by decide +kernel
theorem dX11_makeGroups_146 : decode cX11_makeGroups 146 = .ok (.aload_n 0, 1) := by decide +kernel
theorem dX11_makeGroups_147 : decode cX11_makeGroups 147 = .ok (.iload_n 2, 1) := by decide +kernel
theorem dX11_makeGroups_148 : decode cX11_makeGroups 148 = .ok (.iload_n 3, 1) := by decide +kernel
theorem dX11_makeGroups_149 : decode cX11_makeGroups 149 = .ok (.iload 9, 2) := by decide +kernel
theorem dX11_makeGroups_151 : decode cX11_makeGroups 151 = .ok (.iload 6, 2) := by decide +kernel
theorem dX11_makeGroups_153 : decode cX11_makeGroups 153 = .ok (.invokevirtual 105, 3) := by decide +kernel
theorem dX11_makeGroups_156 : decode cX11_makeGroups 156 = .ok (.ifCond .eq 93, 3) := by decide +kernel
theorem dX11_makeGroups_159 : decode cX11_makeGroups 159 = .ok (.aload_n 0, 1) := by decide +kernel
theorem dX11_makeGroups_160 : decode cX11_makeGroups 160 = .ok (.iload_n 2, 1) := by decide +kernel
theorem dX11_makeGroups_161 : decode cX11_makeGroups 161 = .ok (.iload 9, 2) := by decide +kernel
theorem dX11_makeGroups_163 : decode cX11_makeGroups 163 = .ok (.iload 5, 2) := by decide +kernel
theorem dX11_makeGroups_165 : decode cX11_makeGroups 165 = .ok (.invokevirtual 74, 3) := by decide +kernel
theorem dX11_makeGroups_168 : decode cX11_makeGroups 168 = .ok (.istore 10, 2) := by decide +kernel
theorem dX11_makeGroups_170 : decode cX11_makeGroups 170 = .ok (.aload_n 0, 1) := by decide +kernel
theorem dX11_makeGroups_171 : decode cX11_makeGroups 171 = .ok (.iload_n 2, 1) := by decide +kernel
theorem dX11_makeGroups_172 : decode cX11_makeGroups 172 = .ok (.iload 9, 2) := by decide +kernel
theorem dX11_makeGroups_174 : decode cX11_makeGroups 174 = .ok (.invokevirtual 93, 3) := by decide +kernel
theorem dX11_makeGroups_177 : decode cX11_makeGroups 177 = .ok (.l2i, 1) := by decide +kernel
theorem dX11_makeGroups_178 : decode cX11_makeGroups 178 = .ok (.istore 11, 2) := by decide +kernel
theorem dX11_makeGroups_180 : decode cX11_makeGroups 180 = .ok (.iload 4, 2) := by decide +kernel
theorem dX11_makeGroups_182 : decode cX11_makeGroups 182 = .ok (.ifCond .ne 11, 3) := by decide +kernel
theorem dX11_makeGroups_185 : decode cX11_makeGroups 185 = .ok (.iload 8, 2) := by decide +kernel
theorem dX11_makeGroups_187 : decode cX11_makeGroups 187 = .ok (.iload 11, 2) := by decide +kernel
theorem dX11_makeGroups_189 : decode cX11_makeGroups 189 = .ok (.iadd, 1) := by decide +kernel
theorem dX11_makeGroups_190 : decode cX11_makeGroups 190 = .ok (.goto 57, 3) := by decide +kernel
theorem dX11_makeGroups_193 : decode cX11_makeGroups 193 = .ok (.iload 4, 2) := by decide +kernel
theorem dX11_makeGroups_195 : decode cX11_makeGroups 195 = .ok (.iconst 1, 1) := by decide +kernel
theorem dX11_makeGroups_196 : decode cX11_makeGroups 196 = .ok (.if_icmp .ne 14, 3) := by decide +kernel
theorem dX11_makeGroups_199 : decode cX11_makeGroups 199 = .ok (.iload 8, 2) := by decide +kernel
theorem dX11_makeGroups_201 : decode cX11_makeGroups 201 = .ok (.iload 11, 2) := by decide +kernel
theorem dX11_makeGroups_203 : decode cX11_makeGroups 203 = .ok (.iload 10, 2) := by decide +kernel
theorem dX11_makeGroups_205 : decode cX11_makeGroups 205 = .ok (.imul, 1) := by decide +kernel
theorem dX11_makeGroups_206 : decode cX11_makeGroups 206 = .ok (.iadd, 1) := by decide +kernel
theorem dX11_makeGroups_207 : decode cX11_makeGroups 207 = .ok (.goto 40, 3) := by decide +kernel
theorem dX11_makeGroups_210 : decode cX11_makeGroups 210 = .ok (.iload 4, 2) := by decide +kernel
theorem dX11_makeGroups_212 : decode cX11_makeGroups 212 = .ok (.iconst 2, 1) := by decide +kernel
theorem dX11_makeGroups_213 : decode cX11_makeGroups 213 = .ok (.if_icmp .ne 20, 3) := by decide +kernel
theorem dX11_makeGroups_216 : decode cX11_makeGroups 216 = .ok (.iload 10, 2) := by decide +kernel
theorem dX11_makeGroups_218 : decode cX11_makeGroups 218 = .ok (.iload 8, 2) := by decide +kernel
theorem dX11_makeGroups_220 : decode cX11_makeGroups 220 = .ok (.if_icmp .ge 8, 3) := by decide +kernel
theorem dX11_makeGroups_223 : decode cX11_makeGroups 223 = .ok (.iload 10, 2) := by decide +kernel
theorem dX11_makeGroups_225 : decode cX11_makeGroups 225 = .ok (.goto 22, 3) := by decide +kernel
theorem dX11_makeGroups_228 : decode cX11_makeGroups 228 = .ok (.iload 8, 2) := by decide +kernel
theorem dX11_makeGroups_230 : decode cX11_makeGroups 230 = .ok (.goto 17, 3) := by decide +kernel
theorem dX11_makeGroups_233 : decode cX11_makeGroups 233 = .ok (.iload 10, 2) := by decide +kernel
theorem dX11_makeGroups_235 : decode cX11_makeGroups 235 = .ok (.iload 8, 2) := by decide +kernel
theorem dX11_makeGroups_237 : decode cX11_makeGroups 237 = .ok (.if_icmp .le 8, 3) := by decide +kernel
theorem dX11_makeGroups_240 : decode cX11_makeGroups 240 = .ok (.iload 10, 2) := by decide +kernel
theorem dX11_makeGroups_242 : decode cX11_makeGroups 242 = .ok (.goto 5, 3) := by decide +kernel
theorem dX11_makeGroups_245 : decode cX11_makeGroups 245 = .ok (.iload 8, 2) := by decide +kernel
theorem dX11_makeGroups_247 : decode cX11_makeGroups 247 = .ok (.istore 8, 2) := by decide +kernel
theorem dX11_makeGroups_249 : decode cX11_makeGroups 249 = .ok (.iinc 9 1, 3) := by decide +kernel
theorem dX11_makeGroups_252 : decode cX11_makeGroups 252 = .ok (.goto (-117), 3) := by decide +kernel
theorem dX11_makeGroups_255 : decode cX11_makeGroups 255 = .ok (.aload_n 0, 1) := by decide +kernel
theorem dX11_makeGroups_256 : decode cX11_makeGroups 256 = .ok (.getfield 53, 3) := by decide +kernel
theorem dX11_makeGroups_259 : decode cX11_makeGroups 259 = .ok (.iconst 0, 1) := by decide +kernel
theorem dX11_makeGroups_260 : decode cX11_makeGroups 260 = .ok (.iload_n 3, 1) := by decide +kernel
theorem dX11_makeGroups_261 : decode cX11_makeGroups 261 = .ok (.ifCond .ge 8, 3) := by decide +kernel
theorem dX11_makeGroups_264 : decode cX11_makeGroups 264 = .ok (.iload 8, 2) := by decide +kernel
theorem dX11_makeGroups_266 : decode cX11_makeGroups 266 = .ok (.goto 11, 3) := by decide +kernel
theorem dX11_makeGroups_269 : decode cX11_makeGroups 269 = .ok (.aload_n 0, 1) := by decide +kernel
theorem dX11_makeGroups_270 : decode cX11_makeGroups 270 = .ok (.iload_n 2, 1) := by decide +kernel
theorem dX11_makeGroups_271 : decode cX11_makeGroups 271 = .ok (.iload 6, 2) := by decide +kernel
theorem dX11_makeGroups_273 : decode cX11_makeGroups 273 = .ok (.iload_n 3, 1) := by decide +kernel
theorem dX11_makeGroups_274 : decode cX11_makeGroups 274 = .ok (.invokevirtual 74, 3) := by decide +kernel
theorem dX11_makeGroups_277 : decode cX11_makeGroups 277 = .ok (.iastore, 1) := by decide +kernel
theorem dX11_makeGroups_278 : decode cX11_makeGroups 278 = .ok (.aload_n 0, 1) := by decide +kernel
theorem dX11_makeGroups_279 : decode cX11_makeGroups 279 = .ok (.getfield 53, 3) := by decide +kernel
theorem dX11_makeGroups_282 : decode cX11_makeGroups 282 = .ok (.iconst 1, 1) := by decide +kernel
theorem dX11_makeGroups_283 : decode cX11_makeGroups 283 = .ok (.iload 8, 2) := by decide +kernel
theorem dX11_makeGroups_285 : decode cX11_makeGroups 285 = .ok (.iastore, 1) := by decide +kernel
theorem dX11_makeGroups_286 : decode cX11_makeGroups 286 = .ok (.aload_n 0, 1) := by decide +kernel
theorem dX11_makeGroups_287 : decode cX11_makeGroups 287 = .ok (.iload_n 1, 1) := by decide +kernel
theorem dX11_makeGroups_288 : decode cX11_makeGroups 288 = .ok (.lconst 1, 1) := by decide +kernel
theorem dX11_makeGroups_289 : decode cX11_makeGroups 289 = .ok (.invokevirtual 97, 3) := by decide +kernel
theorem dX11_makeGroups_292 : decode cX11_makeGroups 292 = .ok (.iinc 6 1, 3) := by decide +kernel
theorem dX11_makeGroups_295 : decode cX11_makeGroups 295 = .ok (.goto (-252), 3) := by decide +kernel
theorem dX11_makeGroups_298 : decode cX11_makeGroups 298 = .ok (.return_, 1) := by decide +kernel
theorem dX11_begin_0 : decode cX11_begin 0 = .ok (.aload_n 0, 1) := by decide +kernel
theorem dX11_begin_1 : decode cX11_begin 1 = .ok (.iconst 1, 1) := by decide +kernel
theorem dX11_begin_2 : decode cX11_begin 2 = .ok (.putfield 68, 3) := by decide +kernel
theorem dX11_begin_5 : decode cX11_begin 5 = .ok (.iconst 0, 1) := by decide +kernel
theorem dX11_begin_6 : decode cX11_begin 6 = .ok (.istore_n 1, 1) := by decide +kernel
theorem dX11_begin_7 : decode cX11_begin 7 = .ok (.iload_n 1, 1) := by decide +kernel
theorem dX11_begin_8 : decode cX11_begin 8 = .ok (.bipush 8, 2) := by decide +kernel
theorem dX11_begin_10 : decode cX11_begin 10 = .ok (.if_icmp .ge 92, 3) := by decide +kernel
theorem dX11_begin_13 : decode cX11_begin 13 = .ok (.aload_n 0, 1) := by decide +kernel
theorem dX11_begin_14 : decode cX11_begin 14 = .ok (.getfield 50, 3) := by decide +kernel
theorem dX11_begin_17 : decode cX11_begin 17 = .ok (.iload_n 1, 1) := by decide +kernel
theorem dX11_begin_18 : decode cX11_begin 18 = .ok (.aload_n 0, 1) := by decide +kernel
theorem dX11_begin_19 : decode cX11_begin 19 = .ok (.getfield 41, 3) := by decide +kernel
theorem dX11_begin_22 : decode cX11_begin 22 = .ok (.iload_n 1, 1) := by decide +kernel
theorem dX11_begin_23 : decode cX11_begin 23 = .ok (.iaload, 1) := by decide +kernel
theorem dX11_begin_24 : decode cX11_begin 24 = .ok (.iastore, 1) := by decide +kernel
theorem dX11_begin_25 : decode cX11_begin 25 = .ok (.bipush 20, 2) := by decide +kernel
theorem dX11_begin_27 : decode cX11_begin 27 = .ok (.iload_n 1, 1) := by decide +kernel
theorem dX11_begin_28 : decode cX11_begin 28 = .ok (.imul, 1) := by decide +kernel
theorem dX11_begin_29 : decode cX11_begin 29 = .ok (.istore_n 2, 1) := by decide +kernel
theorem dX11_begin_30 : decode cX11_begin 30 = .ok (.iload_n 2, 1) := by decide +kernel
theorem dX11_begin_31 : decode cX11_begin 31 = .ok (.bipush 20, 2) := by decide +kernel
theorem dX11_begin_33 : decode cX11_begin 33 = .ok (.iload_n 1, 1) := by decide +kernel
theorem dX11_begin_34 : decode cX11_begin 34 = .ok (.imul, 1) := by decide +kernel
theorem dX11_begin_35 : decode cX11_begin 35 = .ok (.aload_n 0, 1) := by decide +kernel
theorem dX11_begin_36 : decode cX11_begin 36 = .ok (.getfield 41, 3) := by decide +kernel
theorem dX11_begin_39 : decode cX11_begin 39 = .ok (.iload_n 1, 1) := by decide +kernel
theorem dX11_begin_40 : decode cX11_begin 40 = .ok (.iaload, 1) := by decide +kernel
theorem dX11_begin_41 : decode cX11_begin 41 = .ok (.iadd, 1) := by decide +kernel
theorem dX11_begin_42 : decode cX11_begin 42 = .ok (.if_icmp .ge 54, 3) := by decide +kernel
theorem dX11_begin_45 : decode cX11_begin 45 = .ok (.aload_n 0, 1) := by decide +kernel
theorem dX11_begin_46 : decode cX11_begin 46 = .ok (.getfield 47, 3) := by decide +kernel
theorem dX11_begin_49 : decode cX11_begin 49 = .ok (.iload_n 2, 1) := by decide +kernel
theorem dX11_begin_50 : decode cX11_begin 50 = .ok (.aload_n 0, 1) := by decide +kernel
theorem dX11_begin_51 : decode cX11_begin 51 = .ok (.getfield 38, 3) := by decide +kernel
theorem dX11_begin_54 : decode cX11_begin 54 = .ok (.iload_n 2, 1) := by decide +kernel
theorem dX11_begin_55 : decode cX11_begin 55 = .ok (.iaload, 1) := by decide +kernel
theorem dX11_begin_56 : decode cX11_begin 56 = .ok (.iastore, 1) := by decide +kernel
theorem dX11_begin_57 : decode cX11_begin 57 = .ok (.iconst 0, 1) := by decide +kernel
theorem dX11_begin_58 : decode cX11_begin 58 = .ok (.istore_n 3, 1) := by decide +kernel
theorem dX11_begin_59 : decode cX11_begin 59 = .ok (.iload_n 3, 1) := by decide +kernel
theorem dX11_begin_60 : decode cX11_begin 60 = .ok (.iconst 4, 1) := by decide +kernel
theorem dX11_begin_61 : decode cX11_begin 61 = .ok (.if_icmp .ge 29, 3) := by decide +kernel
theorem dX11_begin_64 : decode cX11_begin 64 = .ok (.aload_n 0, 1) := by decide +kernel
theorem dX11_begin_65 : decode cX11_begin 65 = .ok (.getfield 44, 3) := by decide +kernel
theorem dX11_begin_68 : decode cX11_begin 68 = .ok (.iconst 4, 1) := by decide +kernel
theorem dX11_begin_69 : decode cX11_begin 69 = .ok (.iload_n 2, 1) := by decide +kernel
theorem dX11_begin_70 : decode cX11_begin 70 = .ok (.imul, 1) := by decide +kernel
theorem dX11_begin_71 : decode cX11_begin 71 = .ok (.iload_n 3, 1) := by decide +kernel
theorem dX11_begin_72 : decode cX11_begin 72 = .ok (.iadd, 1) := by decide +kernel
theorem dX11_begin_73 : decode cX11_begin 73 = .ok (.aload_n 0, 1) := by decide +kernel
theorem dX11_begin_74 : decode cX11_begin 74 = .ok (.getfield 35, 3) := by decide +kernel
theorem dX11_begin_77 : decode cX11_begin 77 = .ok (.iconst 4, 1) := by decide +kernel
theorem dX11_begin_78 : decode cX11_begin 78 = .ok (.iload_n 2, 1) := by decide +kernel
theorem dX11_begin_79 : decode cX11_begin 79 = .ok (.imul, 1) := by decide +kernel
theorem dX11_begin_80 : decode cX11_begin 80 = .ok (.iload_n 3, 1) := by decide +kernel
theorem dX11_begin_81 : decode cX11_begin 81 = .ok (.iadd, 1) := by decide +kernel
theorem dX11_begin_82 : decode cX11_begin 82 = .ok (.iaload, 1) := by decide +kernel
theorem dX11_begin_83 : decode cX11_begin 83 = .ok (.iastore, 1) := by decide +kernel
theorem dX11_begin_84 : decode cX11_begin 84 = .ok (.iinc 3 1, 3) := by decide +kernel
theorem dX11_begin_87 : decode cX11_begin 87 = .ok (.goto (-28), 3) := by decide +kernel
theorem dX11_begin_90 : decode cX11_begin 90 = .ok (.iinc 2 1, 3) := by decide +kernel
theorem dX11_begin_93 : decode cX11_begin 93 = .ok (.goto (-63), 3) := by decide +kernel
theorem dX11_begin_96 : decode cX11_begin 96 = .ok (.iinc 1 1, 3) := by decide +kernel
theorem dX11_begin_99 : decode cX11_begin 99 = .ok (.goto (-92), 3) := by decide +kernel
theorem dX11_begin_102 : decode cX11_begin 102 = .ok (.return_, 1) := by decide +kernel
theorem dX11_become_0 : decode cX11_become 0 = .ok (.iconst 0, 1) := by decide +kernel
theorem dX11_become_1 : decode cX11_become 1 = .ok (.istore_n 1, 1) := by decide +kernel
theorem dX11_become_2 : decode cX11_become 2 = .ok (.iload_n 1, 1) := by decide +kernel
theorem dX11_become_3 : decode cX11_become 3 = .ok (.bipush 8, 2) := by decide +kernel
theorem dX11_become_5 : decode cX11_become 5 = .ok (.if_icmp .ge 92, 3) := by decide +kernel
theorem dX11_become_8 : decode cX11_become 8 = .ok (.aload_n 0, 1) := by decide +kernel
theorem dX11_become_9 : decode cX11_become 9 = .ok (.getfield 41, 3) := by decide +kernel
theorem dX11_become_12 : decode cX11_become 12 = .ok (.iload_n 1, 1) := by decide +kernel
theorem dX11_become_13 : decode cX11_become 13 = .ok (.aload_n 0, 1) := by decide +kernel
theorem dX11_become_14 : decode cX11_become 14 = .ok (.getfield 50, 3) := by decide +kernel
theorem dX11_become_17 : decode cX11_become 17 = .ok (.iload_n 1, 1) := by decide +kernel
theorem dX11_become_18 : decode cX11_become 18 = .ok (.iaload, 1) := by decide +kernel
theorem dX11_become_19 : decode cX11_become 19 = .ok (.iastore, 1) := by decide +kernel
theorem dX11_become_20 : decode cX11_become 20 = .ok (.bipush 20, 2) := by decide +kernel
theorem dX11_become_22 : decode cX11_become 22 = .ok (.iload_n 1, 1) := by decide +kernel
theorem dX11_become_23 : decode cX11_become 23 = .ok (.imul, 1) := by decide +kernel
theorem dX11_become_24 : decode cX11_become 24 = .ok (.istore_n 2, 1) := by decide +kernel
theorem dX11_become_25 : decode cX11_become 25 = .ok (.iload_n 2, 1) := by decide +kernel
theorem dX11_become_26 : decode cX11_become 26 = .ok (.bipush 20, 2) := by decide +kernel
theorem dX11_become_28 : decode cX11_become 28 = .ok (.iload_n 1, 1) := by decide +kernel
theorem dX11_become_29 : decode cX11_become 29 = .ok (.imul, 1) := by decide +kernel
theorem dX11_become_30 : decode cX11_become 30 = .ok (.aload_n 0, 1) := by decide +kernel
theorem dX11_become_31 : decode cX11_become 31 = .ok (.getfield 41, 3) := by decide +kernel
theorem dX11_become_34 : decode cX11_become 34 = .ok (.iload_n 1, 1) := by decide +kernel
theorem dX11_become_35 : decode cX11_become 35 = .ok (.iaload, 1) := by decide +kernel
theorem dX11_become_36 : decode cX11_become 36 = .ok (.iadd, 1) := by decide +kernel
theorem dX11_become_37 : decode cX11_become 37 = .ok (.if_icmp .ge 54, 3) := by decide +kernel
theorem dX11_become_40 : decode cX11_become 40 = .ok (.aload_n 0, 1) := by decide +kernel
theorem dX11_become_41 : decode cX11_become 41 = .ok (.getfield 38, 3) := by decide +kernel
theorem dX11_become_44 : decode cX11_become 44 = .ok (.iload_n 2, 1) := by decide +kernel
theorem dX11_become_45 : decode cX11_become 45 = .ok (.aload_n 0, 1) := by decide +kernel
theorem dX11_become_46 : decode cX11_become 46 = .ok (.getfield 47, 3) := by decide +kernel
theorem dX11_become_49 : decode cX11_become 49 = .ok (.iload_n 2, 1) := by decide +kernel
theorem dX11_become_50 : decode cX11_become 50 = .ok (.iaload, 1) := by decide +kernel
theorem dX11_become_51 : decode cX11_become 51 = .ok (.iastore, 1) := by decide +kernel
theorem dX11_become_52 : decode cX11_become 52 = .ok (.iconst 0, 1) := by decide +kernel
theorem dX11_become_53 : decode cX11_become 53 = .ok (.istore_n 3, 1) := by decide +kernel
theorem dX11_become_54 : decode cX11_become 54 = .ok (.iload_n 3, 1) := by decide +kernel
theorem dX11_become_55 : decode cX11_become 55 = .ok (.iconst 4, 1) := by decide +kernel
theorem dX11_become_56 : decode cX11_become 56 = .ok (.if_icmp .ge 29, 3) := by decide +kernel
theorem dX11_become_59 : decode cX11_become 59 = .ok (.aload_n 0, 1) := by decide +kernel
theorem dX11_become_60 : decode cX11_become 60 = .ok (.getfield 35, 3) := by decide +kernel
theorem dX11_become_63 : decode cX11_become 63 = .ok (.iconst 4, 1) := by decide +kernel
theorem dX11_become_64 : decode cX11_become 64 = .ok (.iload_n 2, 1) := by decide +kernel
theorem dX11_become_65 : decode cX11_become 65 = .ok (.imul, 1) := by decide +kernel
theorem dX11_become_66 : decode cX11_become 66 = .ok (.iload_n 3, 1) := by decide +kernel
theorem dX11_become_67 : decode cX11_become 67 = .ok (.iadd, 1) := by decide +kernel
theorem dX11_become_68 : decode cX11_become 68 = .ok (.aload_n 0, 1) := by decide +kernel
theorem dX11_become_69 : decode cX11_become 69 = .ok (.getfield 44, 3) := by decide +kernel
theorem dX11_become_72 : decode cX11_become 72 = .ok (.iconst 4, 1) := by decide +kernel
theorem dX11_become_73 : decode cX11_become 73 = .ok (.iload_n 2, 1) := by decide +kernel
theorem dX11_become_74 : decode cX11_become 74 = .ok (.imul, 1) := by decide +kernel
theorem dX11_become_75 : decode cX11_become 75 = .ok (.iload_n 3, 1) := by decide +kernel
theorem dX11_become_76 : decode cX11_become 76 = .ok (.iadd, 1) := by decide +kernel
theorem dX11_become_77 : decode cX11_become 77 = .ok (.iaload, 1) := by decide +kernel
theorem dX11_become_78 : decode cX11_become 78 = .ok (.iastore, 1) := by decide +kernel
theorem dX11_become_79 : decode cX11_become 79 = .ok (.iinc 3 1, 3) := by decide +kernel
theorem dX11_become_82 : decode cX11_become 82 = .ok (.goto (-28), 3) := by decide +kernel
theorem dX11_become_85 : decode cX11_become 85 = .ok (.iinc 2 1, 3) := by decide +kernel
theorem dX11_become_88 : decode cX11_become 88 = .ok (.goto (-63), 3) := by decide +kernel
theorem dX11_become_91 : decode cX11_become 91 = .ok (.iinc 1 1, 3) := by decide +kernel
theorem dX11_become_94 : decode cX11_become 94 = .ok (.goto (-92), 3) := by decide +kernel
theorem dX11_become_97 : decode cX11_become 97 = .ok (.return_, 1) := by decide +kernel
theorem dX11_difference_0 : decode cX11_difference 0 = .ok (.iconst 0, 1) := by decide +kernel
theorem dX11_difference_1 : decode cX11_difference 1 = .ok (.istore_n 2, 1) := by decide +kernel
theorem dX11_difference_2 : decode cX11_difference 2 = .ok (.iconst 0, 1) := by decide +kernel
theorem dX11_difference_3 : decode cX11_difference 3 = .ok (.istore_n 3, 1) := by decide +kernel
theorem dX11_difference_4 : decode cX11_difference 4 = .ok (.iconst 0, 1) := by decide +kernel
theorem dX11_difference_5 : decode cX11_difference 5 = .ok (.istore 4, 2) := by decide +kernel
theorem dX11_difference_7 : decode cX11_difference 7 = .ok (.iload_n 2, 1) := by decide +kernel
theorem dX11_difference_8 : decode cX11_difference 8 = .ok (.aload_n 0, 1) := by decide +kernel
theorem dX11_difference_9 : decode cX11_difference 9 = .ok (.getfield 41, 3) := by decide +kernel
theorem dX11_difference_12 : decode cX11_difference 12 = .ok (.iload_n 1, 1) := by decide +kernel
theorem dX11_difference_13 : decode cX11_difference 13 = .ok (.iaload, 1) := by decide +kernel
theorem dX11_difference_14 : decode cX11_difference 14 = .ok (.if_icmp .lt 13, 3) := by decide +kernel
theorem dX11_difference_17 : decode cX11_difference 17 = .ok (.iload_n 3, 1) := by decide +kernel
theorem dX11_difference_18 : decode cX11_difference 18 = .ok (.aload_n 0, 1) := by decide +kernel
theorem dX11_difference_19 : decode cX11_difference 19 = .ok (.getfield 50, 3) := by decide +kernel
theorem dX11_difference_22 : decode cX11_difference 22 = .ok (.iload_n 1, 1) := by decide +kernel
theorem dX11_difference_23 : decode cX11_difference 23 = .ok (.iaload, 1) := by decide +kernel
theorem dX11_difference_24 : decode cX11_difference 24 = .ok (.if_icmp .ge 199, 3) := by decide +kernel
theorem dX11_difference_27 : decode cX11_difference 27 = .ok (.iload_n 2, 1) := by decide +kernel
theorem dX11_difference_28 : decode cX11_difference 28 = .ok (.aload_n 0, 1) := by decide +kernel
theorem dX11_difference_29 : decode cX11_difference 29 = .ok (.getfield 41, 3) := by decide +kernel
theorem dX11_difference_32 : decode cX11_difference 32 = .ok (.iload_n 1, 1) := by decide +kernel
theorem dX11_difference_33 : decode cX11_difference 33 = .ok (.iaload, 1) := by decide +kernel
theorem dX11_difference_34 : decode cX11_difference 34 = .ok (.if_icmp .ne 7, 3) := by decide +kernel
theorem dX11_difference_37 : decode cX11_difference 37 = .ok (.iconst 1, 1) := by decide +kernel
theorem dX11_difference_38 : decode cX11_difference 38 = .ok (.goto 18, 3) := by decide +kernel
theorem dX11_difference_41 : decode cX11_difference 41 = .ok (.iload_n 3, 1) := by decide +kernel
theorem dX11_difference_42 : decode cX11_difference 42 = .ok (.aload_n 0, 1) := by decide +kernel
theorem dX11_difference_43 : decode cX11_difference 43 = .ok (.getfield 50, 3) := by decide +kernel
theorem dX11_difference_46 : decode cX11_difference 46 = .ok (.iload_n 1, 1) := by decide +kernel
theorem dX11_difference_47 : decode cX11_difference 47 = .ok (.iaload, 1) := by decide +kernel
theorem dX11_difference_48 : decode cX11_difference 48 = .ok (.if_icmp .ne 7, 3) := by decide +kernel
theorem dX11_difference_51 : decode cX11_difference 51 = .ok (.iconst (-1), 1) := by decide +kernel
theorem dX11_difference_52 : decode cX11_difference 52 = .ok (.goto 4, 3) := by decide +kernel
theorem dX11_difference_55 : decode cX11_difference 55 = .ok (.iconst 0, 1) := by decide +kernel
theorem dX11_difference_56 : decode cX11_difference 56 = .ok (.istore 5, 2) := by decide +kernel
theorem dX11_difference_58 : decode cX11_difference 58 = .ok (.iload 5, 2) := by decide +kernel
theorem dX11_difference_60 : decode cX11_difference 60 = .ok (.ifCond .ne 7, 3) := by decide +kernel
theorem dX11_difference_63 : decode cX11_difference 63 = .ok (.iconst 1, 1) := by decide +kernel
theorem dX11_difference_64 : decode cX11_difference 64 = .ok (.goto 4, 3) := by decide +kernel
theorem dX11_difference_67 : decode cX11_difference 67 = .ok (.iconst 0, 1) := by decide +kernel
theorem dX11_difference_68 : decode cX11_difference 68 = .ok (.istore 6, 2) := by decide +kernel
theorem dX11_difference_70 : decode cX11_difference 70 = .ok (.iconst 0, 1) := by decide +kernel
theorem dX11_difference_71 : decode cX11_difference 71 = .ok (.istore 7, 2) := by decide +kernel
theorem dX11_difference_73 : decode cX11_difference 73 = .ok (.iload 7, 2) := by decide +kernel
theorem dX11_difference_75 : decode cX11_difference 75 = .ok (.aload_n 0, 1) := by decide +kernel
theorem dX11_difference_76 : decode cX11_difference 76 = .ok (.getfield 13, 3) := by decide +kernel
theorem dX11_difference_79 : decode cX11_difference 79 = .ok (.iload_n 1, 1) := by decide +kernel
theorem dX11_difference_80 : decode cX11_difference 80 = .ok (.iaload, 1) := by decide +kernel
theorem dX11_difference_81 : decode cX11_difference 81 = .ok (.if_icmp .ge 72, 3) := by decide +kernel
theorem dX11_difference_84 : decode cX11_difference 84 = .ok (.iload 6, 2) := by decide +kernel
theorem dX11_difference_86 : decode cX11_difference 86 = .ok (.ifCond .eq 67, 3) := by decide +kernel
theorem dX11_difference_89 : decode cX11_difference 89 = .ok (.iload 5, 2) := by decide +kernel
theorem dX11_difference_91 : decode cX11_difference 91 = .ok (.ifCond .ne 62, 3) := by decide +kernel
theorem dX11_difference_94 : decode cX11_difference 94 = .ok (.aload_n 0, 1) := by decide +kernel
theorem dX11_difference_95 : decode cX11_difference 95 = .ok (.getfield 35, 3) := by decide +kernel
theorem dX11_difference_98 : decode cX11_difference 98 = .ok (.iconst 4, 1) := by decide +kernel
theorem dX11_difference_99 : decode cX11_difference 99 = .ok (.bipush 20, 2) := by decide +kernel
theorem dX11_difference_101 : decode cX11_difference 101 = .ok (.iload_n 1, 1) := by decide +kernel
theorem dX11_difference_102 : decode cX11_difference 102 = .ok (.imul, 1) := by decide +kernel
theorem dX11_difference_103 : decode cX11_difference 103 = .ok (.iload_n 2, 1) := by decide +kernel
theorem dX11_difference_104 : decode cX11_difference 104 = .ok (.iadd, 1) := by decide +kernel
theorem dX11_difference_105 : decode cX11_difference 105 = .ok (.imul, 1) := by decide +kernel
theorem dX11_difference_106 : decode cX11_difference 106 = .ok (.iload 7, 2) := by decide +kernel
theorem dX11_difference_108 : decode cX11_difference 108 = .ok (.iadd, 1) := by decide +kernel
theorem dX11_difference_109 : decode cX11_difference 109 = .ok (.iaload, 1) := by decide +kernel
theorem dX11_difference_110 : decode cX11_difference 110 = .ok (.istore 8, 2) := by decide +kernel
theorem dX11_difference_112 : decode cX11_difference 112 = .ok (.aload_n 0, 1) := by decide +kernel
theorem dX11_difference_113 : decode cX11_difference 113 = .ok (.iload_n 1, 1) := by decide +kernel
theorem dX11_difference_114 : decode cX11_difference 114 = .ok (.iload_n 3, 1) := by decide +kernel
theorem dX11_difference_115 : decode cX11_difference 115 = .ok (.iload 7, 2) := by decide +kernel
theorem dX11_difference_117 : decode cX11_difference 117 = .ok (.invokevirtual 74, 3) := by decide +kernel
theorem dX11_difference_120 : decode cX11_difference 120 = .ok (.istore 9, 2) := by decide +kernel
theorem dX11_difference_122 : decode cX11_difference 122 = .ok (.iload 8, 2) := by decide +kernel
theorem dX11_difference_124 : decode cX11_difference 124 = .ok (.iload 9, 2) := by decide +kernel
theorem dX11_difference_126 : decode cX11_difference 126 = .ok (.if_icmp .ge 7, 3) := by decide +kernel
theorem dX11_difference_129 : decode cX11_difference 129 = .ok (.iconst (-1), 1) := by decide +kernel
theorem dX11_difference_130 : decode cX11_difference 130 = .ok (.goto 15, 3) := by decide +kernel
theorem dX11_difference_133 : decode cX11_difference 133 = .ok (.iload 8, 2) := by decide +kernel
theorem dX11_difference_135 : decode cX11_difference 135 = .ok (.iload 9, 2) := by decide +kernel
theorem dX11_difference_137 : decode cX11_difference 137 = .ok (.if_icmp .le 7, 3) := by decide +kernel
theorem dX11_difference_140 : decode cX11_difference 140 = .ok (.iconst 1, 1) := by decide +kernel
theorem dX11_difference_141 : decode cX11_difference 141 = .ok (.goto 4, 3) := by decide +kernel
theorem dX11_difference_144 : decode cX11_difference 144 = .ok (.iconst 0, 1) := by decide +kernel
theorem dX11_difference_145 : decode cX11_difference 145 = .ok (.istore 5, 2) := by decide +kernel
theorem dX11_difference_147 : decode cX11_difference 147 = .ok (.iinc 7 1, 3) := by decide +kernel
theorem dX11_difference_150 : decode cX11_difference 150 = .ok (.goto (-77), 3) := by decide +kernel
theorem dX11_difference_153 : decode cX11_difference 153 = .ok (.iload 5, 2) := by decide +kernel
theorem dX11_difference_155 : decode cX11_difference 155 = .ok (.ifCond .ne 28, 3) := by decide +kernel
theorem dX11_difference_158 : decode cX11_difference 158 = .ok (.aload_n 0, 1) := by decide +kernel
theorem dX11_difference_159 : decode cX11_difference 159 = .ok (.getfield 38, 3) := by decide +kernel
theorem dX11_difference_162 : decode cX11_difference 162 = .ok (.bipush 20, 2) := by decide +kernel
theorem dX11_difference_164 : decode cX11_difference 164 = .ok (.iload_n 1, 1) := by decide +kernel
theorem dX11_difference_165 : decode cX11_difference 165 = .ok (.imul, 1) := by decide +kernel
theorem dX11_difference_166 : decode cX11_difference 166 = .ok (.iload_n 2, 1) := by decide +kernel
theorem dX11_difference_167 : decode cX11_difference 167 = .ok (.iadd, 1) := by decide +kernel
theorem dX11_difference_168 : decode cX11_difference 168 = .ok (.iaload, 1) := by decide +kernel
theorem dX11_difference_169 : decode cX11_difference 169 = .ok (.aload_n 0, 1) := by decide +kernel
theorem dX11_difference_170 : decode cX11_difference 170 = .ok (.getfield 47, 3) := by decide +kernel
theorem dX11_difference_173 : decode cX11_difference 173 = .ok (.bipush 20, 2) := by decide +kernel
theorem dX11_difference_175 : decode cX11_difference 175 = .ok (.iload_n 1, 1) := by decide +kernel
theorem dX11_difference_176 : decode cX11_difference 176 = .ok (.imul, 1) := by decide +kernel
theorem dX11_difference_177 : decode cX11_difference 177 = .ok (.iload_n 3, 1) := by decide +kernel
theorem dX11_difference_178 : decode cX11_difference 178 = .ok (.iadd, 1) := by decide +kernel
theorem dX11_difference_179 : decode cX11_difference 179 = .ok (.iaload, 1) := by decide +kernel
theorem dX11_difference_180 : decode cX11_difference 180 = .ok (.if_icmp .eq 10, 3) := by decide +kernel
theorem dX11_difference_183 : decode cX11_difference 183 = .ok (.iload 4, 2) := by decide +kernel
theorem dX11_difference_185 : decode cX11_difference 185 = .ok (.iconst 1, 1) := by decide +kernel
theorem dX11_difference_186 : decode cX11_difference 186 = .ok (.iadd, 1) := by decide +kernel
theorem dX11_difference_187 : decode cX11_difference 187 = .ok (.goto 5, 3) := by decide +kernel
theorem dX11_difference_190 : decode cX11_difference 190 = .ok (.iload 4, 2) := by decide +kernel
theorem dX11_difference_192 : decode cX11_difference 192 = .ok (.istore 4, 2) := by decide +kernel
theorem dX11_difference_194 : decode cX11_difference 194 = .ok (.iload 5, 2) := by decide +kernel
theorem dX11_difference_196 : decode cX11_difference 196 = .ok (.ifCond .gt 9, 3) := by decide +kernel
theorem dX11_difference_199 : decode cX11_difference 199 = .ok (.iload_n 2, 1) := by decide +kernel
theorem dX11_difference_200 : decode cX11_difference 200 = .ok (.iconst 1, 1) := by decide +kernel
theorem dX11_difference_201 : decode cX11_difference 201 = .ok (.iadd, 1) := by decide +kernel
theorem dX11_difference_202 : decode cX11_difference 202 = .ok (.goto 4, 3) := by decide +kernel
theorem dX11_difference_205 : decode cX11_difference 205 = .ok (.iload_n 2, 1) := by decide +kernel
theorem dX11_difference_206 : decode cX11_difference 206 = .ok (.istore_n 2, 1) := by decide +kernel
theorem dX11_difference_207 : decode cX11_difference 207 = .ok (.iload 5, 2) := by decide +kernel
theorem dX11_difference_209 : decode cX11_difference 209 = .ok (.ifCond .lt 9, 3) := by decide +kernel
theorem dX11_difference_212 : decode cX11_difference 212 = .ok (.iload_n 3, 1) := by decide +kernel
theorem dX11_difference_213 : decode cX11_difference 213 = .ok (.iconst 1, 1) := by decide +kernel
theorem dX11_difference_214 : decode cX11_difference 214 = .ok (.iadd, 1) := by decide +kernel
theorem dX11_difference_215 : decode cX11_difference 215 = .ok (.goto 4, 3) := by decide +kernel
theorem dX11_difference_218 : decode cX11_difference 218 = .ok (.iload_n 3, 1) := by decide +kernel
theorem dX11_difference_219 : decode cX11_difference 219 = .ok (.istore_n 3, 1) := by decide +kernel
theorem dX11_difference_220 : decode cX11_difference 220 = .ok (.goto (-213), 3) := by decide +kernel
theorem dX11_difference_223 : decode cX11_difference 223 = .ok (.iload 4, 2) := by decide +kernel
theorem dX11_difference_225 : decode cX11_difference 225 = .ok (.ireturn, 1) := by decide +kernel
theorem dX11_isPlace_0 : decode cX11_isPlace 0 = .ok (.iload_n 0, 1) := by decide +kernel
theorem dX11_isPlace_1 : decode cX11_isPlace 1 = .ok (.ifCond .lt 13, 3) := by decide +kernel
theorem dX11_isPlace_4 : decode cX11_isPlace 4 = .ok (.iload_n 0, 1) := by decide +kernel
theorem dX11_isPlace_5 : decode cX11_isPlace 5 = .ok (.bipush 8, 2) := by decide +kernel
theorem dX11_isPlace_7 : decode cX11_isPlace 7 = .ok (.if_icmp .ge 7, 3) := by decide +kernel
theorem dX11_isPlace_10 : decode cX11_isPlace 10 = .ok (.iconst 1, 1) := by decide +kernel
theorem dX11_isPlace_11 : decode cX11_isPlace 11 = .ok (.goto 4, 3) := by decide +kernel
theorem dX11_isPlace_14 : decode cX11_isPlace 14 = .ok (.iconst 0, 1) := by decide +kernel
theorem dX11_isPlace_15 : decode cX11_isPlace 15 = .ok (.ireturn, 1) := by decide +kernel
theorem dX11_is_0 : decode cX11_is 0 = .ok (.iload_n 1, 1) := by decide +kernel
theorem dX11_is_1 : decode cX11_is 1 = .ok (.invokestatic 109, 3) := by decide +kernel
theorem dX11_is_4 : decode cX11_is 4 = .ok (.ifCond .eq 16, 3) := by decide +kernel
theorem dX11_is_7 : decode cX11_is 7 = .ok (.aload_n 0, 1) := by decide +kernel
theorem dX11_is_8 : decode cX11_is 8 = .ok (.getfield 7, 3) := by decide +kernel
theorem dX11_is_11 : decode cX11_is 11 = .ok (.iload_n 1, 1) := by decide +kernel
theorem dX11_is_12 : decode cX11_is 12 = .ok (.iaload, 1) := by decide +kernel
theorem dX11_is_13 : decode cX11_is 13 = .ok (.ifCond .le 7, 3) := by decide +kernel
theorem dX11_is_16 : decode cX11_is 16 = .ok (.iconst 1, 1) := by decide +kernel
theorem dX11_is_17 : decode cX11_is 17 = .ok (.goto 4, 3) := by decide +kernel
theorem dX11_is_20 : decode cX11_is 20 = .ok (.iconst 0, 1) := by decide +kernel
theorem dX11_is_21 : decode cX11_is 21 = .ok (.ireturn, 1) := by decide +kernel
theorem dX11_isColumn_0 : decode cX11_isColumn 0 = .ok (.aload_n 0, 1) := by decide +kernel
theorem dX11_isColumn_1 : decode cX11_isColumn 1 = .ok (.iload_n 1, 1) := by decide +kernel
theorem dX11_isColumn_2 : decode cX11_isColumn 2 = .ok (.invokevirtual 113, 3) := by decide +kernel
theorem dX11_isColumn_5 : decode cX11_isColumn 5 = .ok (.ifCond .eq 21, 3) := by decide +kernel
theorem dX11_isColumn_8 : decode cX11_isColumn 8 = .ok (.iload_n 2, 1) := by decide +kernel
theorem dX11_isColumn_9 : decode cX11_isColumn 9 = .ok (.ifCond .lt 17, 3) := by decide +kernel
theorem dX11_isColumn_12 : decode cX11_isColumn 12 = .ok (.iload_n 2, 1) := by decide +kernel
theorem dX11_isColumn_13 : decode cX11_isColumn 13 = .ok (.aload_n 0, 1) := by decide +kernel
theorem dX11_isColumn_14 : decode cX11_isColumn 14 = .ok (.getfield 13, 3) := by decide +kernel
theorem dX11_isColumn_17 : decode cX11_isColumn 17 = .ok (.iload_n 1, 1) := by decide +kernel
theorem dX11_isColumn_18 : decode cX11_isColumn 18 = .ok (.iaload, 1) := by decide +kernel
theorem dX11_isColumn_19 : decode cX11_isColumn 19 = .ok (.if_icmp .ge 7, 3) := by decide +kernel
theorem dX11_isColumn_22 : decode cX11_isColumn 22 = .ok (.iconst 1, 1) := by decide +kernel
theorem dX11_isColumn_23 : decode cX11_isColumn 23 = .ok (.goto 4, 3) := by decide +kernel
theorem dX11_isColumn_26 : decode cX11_isColumn 26 = .ok (.iconst 0, 1) := by decide +kernel
theorem dX11_isColumn_27 : decode cX11_isColumn 27 = .ok (.ireturn, 1) := by decide +kernel
theorem dX11_enter_0 : decode cX11_enter 0 = .ok (.aload_n 0, 1) := by decide +kernel
theorem dX11_enter_1 : decode cX11_enter 1 = .ok (.getfield 7, 3) := by decide +kernel
theorem dX11_enter_4 : decode cX11_enter 4 = .ok (.iload_n 1, 1) := by decide +kernel
theorem dX11_enter_5 : decode cX11_enter 5 = .ok (.iload_n 2, 1) := by decide +kernel
theorem dX11_enter_6 : decode cX11_enter 6 = .ok (.iastore, 1) := by decide +kernel
theorem dX11_enter_7 : decode cX11_enter 7 = .ok (.aload_n 0, 1) := by decide +kernel
theorem dX11_enter_8 : decode cX11_enter 8 = .ok (.getfield 13, 3) := by decide +kernel
theorem dX11_enter_11 : decode cX11_enter 11 = .ok (.iload_n 1, 1) := by decide +kernel
theorem dX11_enter_12 : decode cX11_enter 12 = .ok (.iload_n 3, 1) := by decide +kernel
theorem dX11_enter_13 : decode cX11_enter 13 = .ok (.iastore, 1) := by decide +kernel
theorem dX11_enter_14 : decode cX11_enter 14 = .ok (.aload_n 0, 1) := by decide +kernel
theorem dX11_enter_15 : decode cX11_enter 15 = .ok (.getfield 16, 3) := by decide +kernel
theorem dX11_enter_18 : decode cX11_enter 18 = .ok (.iload_n 1, 1) := by decide +kernel
theorem dX11_enter_19 : decode cX11_enter 19 = .ok (.iload 4, 2) := by decide +kernel
theorem dX11_enter_21 : decode cX11_enter 21 = .ok (.iastore, 1) := by decide +kernel
theorem dX11_enter_22 : decode cX11_enter 22 = .ok (.aload_n 0, 1) := by decide +kernel
theorem dX11_enter_23 : decode cX11_enter 23 = .ok (.getfield 19, 3) := by decide +kernel
theorem dX11_enter_26 : decode cX11_enter 26 = .ok (.iload_n 1, 1) := by decide +kernel
theorem dX11_enter_27 : decode cX11_enter 27 = .ok (.iload 5, 2) := by decide +kernel
theorem dX11_enter_29 : decode cX11_enter 29 = .ok (.iastore, 1) := by decide +kernel
theorem dX11_enter_30 : decode cX11_enter 30 = .ok (.aload_n 0, 1) := by decide +kernel
theorem dX11_enter_31 : decode cX11_enter 31 = .ok (.getfield 41, 3) := by decide +kernel
theorem dX11_enter_34 : decode cX11_enter 34 = .ok (.iload_n 1, 1) := by decide +kernel
theorem dX11_enter_35 : decode cX11_enter 35 = .ok (.iconst 0, 1) := by decide +kernel
theorem dX11_enter_36 : decode cX11_enter 36 = .ok (.iastore, 1) := by decide +kernel
theorem dX11_enter_37 : decode cX11_enter 37 = .ok (.aload_n 0, 1) := by decide +kernel
theorem dX11_enter_38 : decode cX11_enter 38 = .ok (.getfield 32, 3) := by decide +kernel
theorem dX11_enter_41 : decode cX11_enter 41 = .ok (.iload_n 1, 1) := by decide +kernel
theorem dX11_enter_42 : decode cX11_enter 42 = .ok (.iconst 0, 1) := by decide +kernel
theorem dX11_enter_43 : decode cX11_enter 43 = .ok (.iastore, 1) := by decide +kernel
theorem dX11_enter_44 : decode cX11_enter 44 = .ok (.aload_n 0, 1) := by decide +kernel
theorem dX11_enter_45 : decode cX11_enter 45 = .ok (.getfield 29, 3) := by decide +kernel
theorem dX11_enter_48 : decode cX11_enter 48 = .ok (.aload_n 0, 1) := by decide +kernel
theorem dX11_enter_49 : decode cX11_enter 49 = .ok (.getfield 116, 3) := by decide +kernel
theorem dX11_enter_52 : decode cX11_enter 52 = .ok (.iload_n 1, 1) := by decide +kernel
theorem dX11_enter_53 : decode cX11_enter 53 = .ok (.iastore, 1) := by decide +kernel
theorem dX11_enter_54 : decode cX11_enter 54 = .ok (.aload_n 0, 1) := by decide +kernel
theorem dX11_enter_55 : decode cX11_enter 55 = .ok (.dup, 1) := by decide +kernel
theorem dX11_enter_56 : decode cX11_enter 56 = .ok (.getfield 116, 3) := by decide +kernel
theorem dX11_enter_59 : decode cX11_enter 59 = .ok (.iconst 1, 1) := by decide +kernel
theorem dX11_enter_60 : decode cX11_enter 60 = .ok (.iadd, 1) := by decide +kernel
theorem dX11_enter_61 : decode cX11_enter 61 = .ok (.putfield 116, 3) := by decide +kernel
theorem dX11_enter_64 : decode cX11_enter 64 = .ok (.return_, 1) := by decide +kernel
theorem dX11_leave_0 : decode cX11_leave 0 = .ok (.aload_n 0, 1) := by decide +kernel
theorem dX11_leave_1 : decode cX11_leave 1 = .ok (.getfield 7, 3) := by decide +kernel
theorem dX11_leave_4 : decode cX11_leave 4 = .ok (.iload_n 1, 1) := by decide +kernel
theorem dX11_leave_5 : decode cX11_leave 5 = .ok (.iconst 0, 1) := by decide +kernel
theorem dX11_leave_6 : decode cX11_leave 6 = .ok (.iastore, 1) := by decide +kernel
theorem dX11_leave_7 : decode cX11_leave 7 = .ok (.aload_n 0, 1) := by decide +kernel
theorem dX11_leave_8 : decode cX11_leave 8 = .ok (.getfield 13, 3) := by decide +kernel
theorem dX11_leave_11 : decode cX11_leave 11 = .ok (.iload_n 1, 1) := by decide +kernel
theorem dX11_leave_12 : decode cX11_leave 12 = .ok (.iconst 0, 1) := by decide +kernel
theorem dX11_leave_13 : decode cX11_leave 13 = .ok (.iastore, 1) := by decide +kernel
theorem dX11_leave_14 : decode cX11_leave 14 = .ok (.aload_n 0, 1) := by decide +kernel
theorem dX11_leave_15 : decode cX11_leave 15 = .ok (.getfield 41, 3) := by decide +kernel
theorem dX11_leave_18 : decode cX11_leave 18 = .ok (.iload_n 1, 1) := by decide +kernel
theorem dX11_leave_19 : decode cX11_leave 19 = .ok (.iconst 0, 1) := by decide +kernel
theorem dX11_leave_20 : decode cX11_leave 20 = .ok (.iastore, 1) := by decide +kernel
theorem dX11_leave_21 : decode cX11_leave 21 = .ok (.iconst 0, 1) := by decide +kernel
theorem dX11_leave_22 : decode cX11_leave 22 = .ok (.istore_n 2, 1) := by decide +kernel
theorem dX11_leave_23 : decode cX11_leave 23 = .ok (.iconst 0, 1) := by decide +kernel
theorem dX11_leave_24 : decode cX11_leave 24 = .ok (.istore_n 3, 1) := by decide +kernel
theorem dX11_leave_25 : decode cX11_leave 25 = .ok (.iload_n 3, 1) := by decide +kernel
theorem dX11_leave_26 : decode cX11_leave 26 = .ok (.aload_n 0, 1) := by decide +kernel
theorem dX11_leave_27 : decode cX11_leave 27 = .ok (.getfield 116, 3) := by decide +kernel
theorem dX11_leave_30 : decode cX11_leave 30 = .ok (.if_icmp .ge 34, 3) := by decide +kernel
theorem dX11_leave_33 : decode cX11_leave 33 = .ok (.aload_n 0, 1) := by decide +kernel
theorem dX11_leave_34 : decode cX11_leave 34 = .ok (.getfield 29, 3) := by decide +kernel
theorem dX11_leave_37 : decode cX11_leave 37 = .ok (.iload_n 3, 1) := by decide +kernel
theorem dX11_leave_38 : decode cX11_leave 38 = .ok (.iaload, 1) := by decide +kernel
theorem dX11_leave_39 : decode cX11_leave 39 = .ok (.iload_n 1, 1) := by decide +kernel
theorem dX11_leave_40 : decode cX11_leave 40 = .ok (.if_icmp .eq 18, 3) := by decide +kernel
theorem dX11_leave_43 : decode cX11_leave 43 = .ok (.aload_n 0, 1) := by decide +kernel
theorem dX11_leave_44 : decode cX11_leave 44 = .ok (.getfield 29, 3) := by decide +kernel
theorem dX11_leave_47 : decode cX11_leave 47 = .ok (.iload_n 2, 1) := by decide +kernel
theorem dX11_leave_48 : decode cX11_leave 48 = .ok (.aload_n 0, 1) := by decide +kernel
theorem dX11_leave_49 : decode cX11_leave 49 = .ok (.getfield 29, 3) := by decide +kernel
theorem dX11_leave_52 : decode cX11_leave 52 = .ok (.iload_n 3, 1) := by decide +kernel
theorem dX11_leave_53 : decode cX11_leave 53 = .ok (.iaload, 1) := by decide +kernel
theorem dX11_leave_54 : decode cX11_leave 54 = .ok (.iastore, 1) := by decide +kernel
theorem dX11_leave_55 : decode cX11_leave 55 = .ok (.iinc 2 1, 3) := by decide +kernel
theorem dX11_leave_58 : decode cX11_leave 58 = .ok (.iinc 3 1, 3) := by decide +kernel
theorem dX11_leave_61 : decode cX11_leave 61 = .ok (.goto (-36), 3) := by decide +kernel
theorem dX11_leave_64 : decode cX11_leave 64 = .ok (.aload_n 0, 1) := by decide +kernel
theorem dX11_leave_65 : decode cX11_leave 65 = .ok (.iload_n 2, 1) := by decide +kernel
theorem dX11_leave_66 : decode cX11_leave 66 = .ok (.putfield 116, 3) := by decide +kernel
theorem dX11_leave_69 : decode cX11_leave 69 = .ok (.return_, 1) := by decide +kernel
theorem dX11_view_0 : decode cX11_view 0 = .ok (.aload_n 0, 1) := by decide +kernel
theorem dX11_view_1 : decode cX11_view 1 = .ok (.iload_n 1, 1) := by decide +kernel
theorem dX11_view_2 : decode cX11_view 2 = .ok (.iload_n 2, 1) := by decide +kernel
theorem dX11_view_3 : decode cX11_view 3 = .ok (.iload_n 3, 1) := by decide +kernel
theorem dX11_view_4 : decode cX11_view 4 = .ok (.iload 4, 2) := by decide +kernel
theorem dX11_view_6 : decode cX11_view 6 = .ok (.iload 5, 2) := by decide +kernel
theorem dX11_view_8 : decode cX11_view 8 = .ok (.invokevirtual 119, 3) := by decide +kernel
theorem dX11_view_11 : decode cX11_view 11 = .ok (.aload_n 0, 1) := by decide +kernel
theorem dX11_view_12 : decode cX11_view 12 = .ok (.invokevirtual 123, 3) := by decide +kernel
theorem dX11_view_15 : decode cX11_view 15 = .ok (.aload_n 0, 1) := by decide +kernel
theorem dX11_view_16 : decode cX11_view 16 = .ok (.iload_n 1, 1) := by decide +kernel
theorem dX11_view_17 : decode cX11_view 17 = .ok (.invokevirtual 126, 3) := by decide +kernel
theorem dX11_view_20 : decode cX11_view 20 = .ok (.aload_n 0, 1) := by decide +kernel
theorem dX11_view_21 : decode cX11_view 21 = .ok (.getfield 68, 3) := by decide +kernel
theorem dX11_view_24 : decode cX11_view 24 = .ok (.ifCond .eq 10, 3) := by decide +kernel
theorem dX11_view_27 : decode cX11_view 27 = .ok (.aload_n 0, 1) := by decide +kernel
theorem dX11_view_28 : decode cX11_view 28 = .ok (.invokevirtual 129, 3) := by decide +kernel
theorem dX11_view_31 : decode cX11_view 31 = .ok (.goto 13, 3) := by decide +kernel
theorem dX11_view_34 : decode cX11_view 34 = .ok (.aload_n 0, 1) := by decide +kernel
theorem dX11_view_35 : decode cX11_view 35 = .ok (.iload_n 1, 1) := by decide +kernel
theorem dX11_view_36 : decode cX11_view 36 = .ok (.invokevirtual 132, 3) := by decide +kernel
theorem dX11_view_39 : decode cX11_view 39 = .ok (.aload_n 0, 1) := by decide +kernel
theorem dX11_view_40 : decode cX11_view 40 = .ok (.iconst 4, 1) := by decide +kernel
theorem dX11_view_41 : decode cX11_view 41 = .ok (.putfield 56, 3) := by decide +kernel
theorem dX11_view_44 : decode cX11_view 44 = .ok (.return_, 1) := by decide +kernel
theorem dX11_table_0 : decode cX11_table 0 = .ok (.aload_n 0, 1) := by decide +kernel
theorem dX11_table_1 : decode cX11_table 1 = .ok (.iload_n 1, 1) := by decide +kernel
theorem dX11_table_2 : decode cX11_table 2 = .ok (.invokestatic 109, 3) := by decide +kernel
theorem dX11_table_5 : decode cX11_table 5 = .ok (.ifCond .ne 7, 3) := by decide +kernel
theorem dX11_table_8 : decode cX11_table 8 = .ok (.iconst 1, 1) := by decide +kernel
theorem dX11_table_9 : decode cX11_table 9 = .ok (.goto 31, 3) := by decide +kernel
theorem dX11_table_12 : decode cX11_table 12 = .ok (.aload_n 0, 1) := by decide +kernel
theorem dX11_table_13 : decode cX11_table 13 = .ok (.getfield 7, 3) := by decide +kernel
theorem dX11_table_16 : decode cX11_table 16 = .ok (.iload_n 1, 1) := by decide +kernel
theorem dX11_table_17 : decode cX11_table 17 = .ok (.iaload, 1) := by decide +kernel
theorem dX11_table_18 : decode cX11_table 18 = .ok (.ifCond .le 7, 3) := by decide +kernel
theorem dX11_table_21 : decode cX11_table 21 = .ok (.iconst 2, 1) := by decide +kernel
theorem dX11_table_22 : decode cX11_table 22 = .ok (.goto 18, 3) := by decide +kernel
theorem dX11_table_25 : decode cX11_table 25 = .ok (.iload_n 2, 1) := by decide +kernel
theorem dX11_table_26 : decode cX11_table 26 = .ok (.iconst 1, 1) := by decide +kernel
theorem dX11_table_27 : decode cX11_table 27 = .ok (.if_icmp .lt 8, 3) := by decide +kernel
theorem dX11_table_30 : decode cX11_table 30 = .ok (.iload_n 2, 1) := by decide +kernel
theorem dX11_table_31 : decode cX11_table 31 = .ok (.iconst 4, 1) := by decide +kernel
theorem dX11_table_32 : decode cX11_table 32 = .ok (.if_icmp .le 7, 3) := by decide +kernel
theorem dX11_table_35 : decode cX11_table 35 = .ok (.iconst 3, 1) := by decide +kernel
theorem dX11_table_36 : decode cX11_table 36 = .ok (.goto 4, 3) := by decide +kernel
theorem dX11_table_39 : decode cX11_table 39 = .ok (.iconst 0, 1) := by decide +kernel
theorem dX11_table_40 : decode cX11_table 40 = .ok (.putfield 56, 3) := by decide +kernel
theorem dX11_table_43 : decode cX11_table 43 = .ok (.aload_n 0, 1) := by decide +kernel
theorem dX11_table_44 : decode cX11_table 44 = .ok (.getfield 56, 3) := by decide +kernel
theorem dX11_table_47 : decode cX11_table 47 = .ok (.ifCond .ne 12, 3) := by decide +kernel
theorem dX11_table_50 : decode cX11_table 50 = .ok (.aload_n 0, 1) := by decide +kernel
theorem dX11_table_51 : decode cX11_table 51 = .ok (.iload_n 1, 1) := by decide +kernel
theorem dX11_table_52 : decode cX11_table 52 = .ok (.iconst 1, 1) := by decide +kernel
theorem dX11_table_53 : decode cX11_table 53 = .ok (.iload_n 2, 1) := by decide +kernel
theorem dX11_table_54 : decode cX11_table 54 = .ok (.iconst (-1), 1) := by decide +kernel
theorem dX11_table_55 : decode cX11_table 55 = .ok (.iconst (-1), 1) := by decide +kernel
theorem dX11_table_56 : decode cX11_table 56 = .ok (.invokevirtual 119, 3) := by decide +kernel
theorem dX11_table_59 : decode cX11_table 59 = .ok (.return_, 1) := by decide +kernel
theorem dX11_select_0 : decode cX11_select 0 = .ok (.iload_n 1, 1) := by decide +kernel
theorem dX11_select_1 : decode cX11_select 1 = .ok (.invokestatic 109, 3) := by decide +kernel
theorem dX11_select_4 : decode cX11_select 4 = .ok (.ifCond .eq 31, 3) := by decide +kernel
theorem dX11_select_7 : decode cX11_select 7 = .ok (.aload_n 0, 1) := by decide +kernel
theorem dX11_select_8 : decode cX11_select 8 = .ok (.iload_n 2, 1) := by decide +kernel
theorem dX11_select_9 : decode cX11_select 9 = .ok (.iload_n 3, 1) := by decide +kernel
theorem dX11_select_10 : decode cX11_select 10 = .ok (.invokevirtual 135, 3) := by decide +kernel
theorem dX11_select_13 : decode cX11_select 13 = .ok (.ifCond .eq 22, 3) := by decide +kernel
theorem dX11_select_16 : decode cX11_select 16 = .ok (.iload 6, 2) := by decide +kernel
theorem dX11_select_18 : decode cX11_select 18 = .ok (.ifCond .eq 13, 3) := by decide +kernel
theorem dX11_select_21 : decode cX11_select 21 = .ok (.aload_n 0, 1) := by decide +kernel
theorem dX11_select_22 : decode cX11_select 22 = .ok (.iload_n 2, 1) := by decide +kernel
theorem dX11_select_23 : decode cX11_select 23 = .ok (.iload 5, 2) := by decide +kernel
theorem dX11_select_25 : decode cX11_select 25 = .ok (.invokevirtual 135, 3) := by decide +kernel
theorem dX11_select_28 : decode cX11_select 28 = .ok (.ifCond .eq 7, 3) := by decide +kernel
theorem dX11_select_31 : decode cX11_select 31 = .ok (.iconst 1, 1) := by decide +kernel
theorem dX11_select_32 : decode cX11_select 32 = .ok (.goto 4, 3) := by decide +kernel
theorem dX11_select_35 : decode cX11_select 35 = .ok (.iconst 0, 1) := by decide +kernel
theorem dX11_select_36 : decode cX11_select 36 = .ok (.istore 7, 2) := by decide +kernel
theorem dX11_select_38 : decode cX11_select 38 = .ok (.aload_n 0, 1) := by decide +kernel
theorem dX11_select_39 : decode cX11_select 39 = .ok (.iload 7, 2) := by decide +kernel
theorem dX11_select_41 : decode cX11_select 41 = .ok (.ifCond .ne 7, 3) := by decide +kernel
theorem dX11_select_44 : decode cX11_select 44 = .ok (.iconst 1, 1) := by decide +kernel
theorem dX11_select_45 : decode cX11_select 45 = .ok (.goto 32, 3) := by decide +kernel
theorem dX11_select_48 : decode cX11_select 48 = .ok (.aload_n 0, 1) := by decide +kernel
theorem dX11_select_49 : decode cX11_select 49 = .ok (.getfield 7, 3) := by decide +kernel
theorem dX11_select_52 : decode cX11_select 52 = .ok (.iload_n 1, 1) := by decide +kernel
theorem dX11_select_53 : decode cX11_select 53 = .ok (.iaload, 1) := by decide +kernel
theorem dX11_select_54 : decode cX11_select 54 = .ok (.ifCond .le 7, 3) := by decide +kernel
theorem dX11_select_57 : decode cX11_select 57 = .ok (.iconst 2, 1) := by decide +kernel
theorem dX11_select_58 : decode cX11_select 58 = .ok (.goto 19, 3) := by decide +kernel
theorem dX11_select_61 : decode cX11_select 61 = .ok (.iload 4, 2) := by decide +kernel
theorem dX11_select_63 : decode cX11_select 63 = .ok (.ifCond .lt 9, 3) := by decide +kernel
theorem dX11_select_66 : decode cX11_select 66 = .ok (.iload 4, 2) := by decide +kernel
theorem dX11_select_68 : decode cX11_select 68 = .ok (.iconst 5, 1) := by decide +kernel
theorem dX11_select_69 : decode cX11_select 69 = .ok (.if_icmp .le 7, 3) := by decide +kernel
theorem dX11_select_72 : decode cX11_select 72 = .ok (.iconst 3, 1) := by decide +kernel
theorem dX11_select_73 : decode cX11_select 73 = .ok (.goto 4, 3) := by decide +kernel
theorem dX11_select_76 : decode cX11_select 76 = .ok (.iconst 0, 1) := by decide +kernel
theorem dX11_select_77 : decode cX11_select 77 = .ok (.putfield 56, 3) := by decide +kernel
theorem dX11_select_80 : decode cX11_select 80 = .ok (.aload_n 0, 1) := by decide +kernel
theorem dX11_select_81 : decode cX11_select 81 = .ok (.getfield 56, 3) := by decide +kernel
theorem dX11_select_84 : decode cX11_select 84 = .ok (.ifCond .ne 58, 3) := by decide +kernel
theorem dX11_select_87 : decode cX11_select 87 = .ok (.aload_n 0, 1) := by decide +kernel
theorem dX11_select_88 : decode cX11_select 88 = .ok (.getfield 22, 3) := by decide +kernel
theorem dX11_select_91 : decode cX11_select 91 = .ok (.iconst 4, 1) := by decide +kernel
theorem dX11_select_92 : decode cX11_select 92 = .ok (.iload_n 1, 1) := by decide +kernel
theorem dX11_select_93 : decode cX11_select 93 = .ok (.imul, 1) := by decide +kernel
theorem dX11_select_94 : decode cX11_select 94 = .ok (.iload_n 3, 1) := by decide +kernel
theorem dX11_select_95 : decode cX11_select 95 = .ok (.iastore, 1) := by decide +kernel
theorem dX11_select_96 : decode cX11_select 96 = .ok (.aload_n 0, 1) := by decide +kernel
theorem dX11_select_97 : decode cX11_select 97 = .ok (.getfield 22, 3) := by decide +kernel
theorem dX11_select_100 : decode cX11_select 100 = .ok (.iconst 4, 1) := by decide +kernel
theorem dX11_select_101 : decode cX11_select 101 = .ok (.iload_n 1, 1) := by decide +kernel
theorem dX11_select_102 : decode cX11_select 102 = .ok (.imul, 1) := by decide +kernel
theorem dX11_select_103 : decode cX11_select 103 = .ok (.iconst 1, 1) := by decide +kernel
theorem dX11_select_104 : decode cX11_select 104 = .ok (.iadd, 1) := by decide +kernel
theorem dX11_select_105 : decode cX11_select 105 = .ok (.iload 4, 2) := by decide +kernel
theorem dX11_select_107 : decode cX11_select 107 = .ok (.iastore, 1) := by decide +kernel
theorem dX11_select_108 : decode cX11_select 108 = .ok (.aload_n 0, 1) := by decide +kernel
theorem dX11_select_109 : decode cX11_select 109 = .ok (.getfield 22, 3) := by decide +kernel
theorem dX11_select_112 : decode cX11_select 112 = .ok (.iconst 4, 1) := by decide +kernel
theorem dX11_select_113 : decode cX11_select 113 = .ok (.iload_n 1, 1) := by decide +kernel
theorem dX11_select_114 : decode cX11_select 114 = .ok (.imul, 1) := by decide +kernel
theorem dX11_select_115 : decode cX11_select 115 = .ok (.iconst 2, 1) := by decide +kernel
theorem dX11_select_116 : decode cX11_select 116 = .ok (.iadd, 1) := by decide +kernel
theorem dX11_select_117 : decode cX11_select 117 = .ok (.iload 5, 2) := by decide +kernel
theorem dX11_select_119 : decode cX11_select 119 = .ok (.iastore, 1) := by decide +kernel
theorem dX11_select_120 : decode cX11_select 120 = .ok (.aload_n 0, 1) := by decide +kernel
theorem dX11_select_121 : decode cX11_select 121 = .ok (.getfield 25, 3) := by decide +kernel
theorem dX11_select_124 : decode cX11_select 124 = .ok (.iload_n 1, 1) := by decide +kernel
theorem dX11_select_125 : decode cX11_select 125 = .ok (.iload 6, 2) := by decide +kernel
theorem dX11_select_127 : decode cX11_select 127 = .ok (.bastore, 1) := by decide +kernel
theorem dX11_select_128 : decode cX11_select 128 = .ok (.aload_n 0, 1) := by decide +kernel
theorem dX11_select_129 : decode cX11_select 129 = .ok (.iload_n 1, 1) := by decide +kernel
theorem dX11_select_130 : decode cX11_select 130 = .ok (.iconst 2, 1) := by decide +kernel
theorem dX11_select_131 : decode cX11_select 131 = .ok (.aload_n 0, 1) := by decide +kernel
theorem dX11_select_132 : decode cX11_select 132 = .ok (.getfield 13, 3) := by decide +kernel
theorem dX11_select_135 : decode cX11_select 135 = .ok (.iload_n 2, 1) := by decide +kernel
theorem dX11_select_136 : decode cX11_select 136 = .ok (.iaload, 1) := by decide +kernel
theorem dX11_select_137 : decode cX11_select 137 = .ok (.iload_n 2, 1) := by decide +kernel
theorem dX11_select_138 : decode cX11_select 138 = .ok (.iconst (-1), 1) := by decide +kernel
theorem dX11_select_139 : decode cX11_select 139 = .ok (.invokevirtual 138, 3) := by decide +kernel
theorem dX11_select_142 : decode cX11_select 142 = .ok (.return_, 1) := by decide +kernel
theorem dX11_columns_0 : decode cX11_columns 0 = .ok (.iload_n 1, 1) := by decide +kernel
theorem dX11_columns_1 : decode cX11_columns 1 = .ok (.invokestatic 109, 3) := by decide +kernel
theorem dX11_columns_4 : decode cX11_columns 4 = .ok (.ifCond .eq 15, 3) := by decide +kernel
theorem dX11_columns_7 : decode cX11_columns 7 = .ok (.aload_n 0, 1) := by decide +kernel
theorem dX11_columns_8 : decode cX11_columns 8 = .ok (.iload_n 2, 1) := by decide +kernel
theorem dX11_columns_9 : decode cX11_columns 9 = .ok (.invokevirtual 113, 3) := by decide +kernel
theorem dX11_columns_12 : decode cX11_columns 12 = .ok (.ifCond .eq 7, 3) := by decide +kernel
theorem dX11_columns_15 : decode cX11_columns 15 = .ok (.iconst 1, 1) := by decide +kernel
theorem dX11_columns_16 : decode cX11_columns 16 = .ok (.goto 4, 3) := by decide +kernel
theorem dX11_columns_19 : decode cX11_columns 19 = .ok (.iconst 0, 1) := by decide +kernel
theorem dX11_columns_20 : decode cX11_columns 20 = .ok (.istore 7, 2) := by decide +kernel
theorem dX11_columns_22 : decode cX11_columns 22 = .ok (.iload_n 3, 1) := by decide +kernel
theorem dX11_columns_23 : decode cX11_columns 23 = .ok (.iconst (-1), 1) := by decide +kernel
theorem dX11_columns_24 : decode cX11_columns 24 = .ok (.if_icmp .eq 7, 3) := by decide +kernel
theorem dX11_columns_27 : decode cX11_columns 27 = .ok (.iconst 1, 1) := by decide +kernel
theorem dX11_columns_28 : decode cX11_columns 28 = .ok (.goto 4, 3) := by decide +kernel
theorem dX11_columns_31 : decode cX11_columns 31 = .ok (.iconst 0, 1) := by decide +kernel
theorem dX11_columns_32 : decode cX11_columns 32 = .ok (.istore 8, 2) := by decide +kernel
theorem dX11_columns_34 : decode cX11_columns 34 = .ok (.iconst 0, 1) := by decide +kernel
theorem dX11_columns_35 : decode cX11_columns 35 = .ok (.istore 9, 2) := by decide +kernel
theorem dX11_columns_37 : decode cX11_columns 37 = .ok (.iconst 0, 1) := by decide +kernel
theorem dX11_columns_38 : decode cX11_columns 38 = .ok (.istore 10, 2) := by decide +kernel
theorem dX11_columns_40 : decode cX11_columns 40 = .ok (.iload 10, 2) := by decide +kernel
theorem dX11_columns_42 : decode cX11_columns 42 = .ok (.iconst 4, 1) := by decide +kernel
theorem dX11_columns_43 : decode cX11_columns 43 = .ok (.if_icmp .ge 114, 3) := by decide +kernel
theorem dX11_columns_46 : decode cX11_columns 46 = .ok (.iload 10, 2) := by decide +kernel
theorem dX11_columns_48 : decode cX11_columns 48 = .ok (.ifCond .ne 7, 3) := by decide +kernel
theorem dX11_columns_51 : decode cX11_columns 51 = .ok (.iload_n 3, 1) := by decide +kernel
theorem dX11_columns_52 : decode cX11_columns 52 = .ok (.goto 27, 3) := by decide +kernel
theorem dX11_columns_55 : decode cX11_columns 55 = .ok (.iload 10, 2) := by decide +kernel
theorem dX11_columns_57 : decode cX11_columns 57 = .ok (.iconst 1, 1) := by decide +kernel
theorem dX11_columns_58 : decode cX11_columns 58 = .ok (.if_icmp .ne 8, 3) := by decide +kernel
theorem dX11_columns_61 : decode cX11_columns 61 = .ok (.iload 4, 2) := by decide +kernel
theorem dX11_columns_63 : decode cX11_columns 63 = .ok (.goto 16, 3) := by decide +kernel
theorem dX11_columns_66 : decode cX11_columns 66 = .ok (.iload 10, 2) := by decide +kernel
theorem dX11_columns_68 : decode cX11_columns 68 = .ok (.iconst 2, 1) := by decide +kernel
theorem dX11_columns_69 : decode cX11_columns 69 = .ok (.if_icmp .ne 8, 3) := by decide +kernel
theorem dX11_columns_72 : decode cX11_columns 72 = .ok (.iload 5, 2) := by decide +kernel
theorem dX11_columns_74 : decode cX11_columns 74 = .ok (.goto 5, 3) := by decide +kernel
theorem dX11_columns_77 : decode cX11_columns 77 = .ok (.iload 6, 2) := by decide +kernel
theorem dX11_columns_79 : decode cX11_columns 79 = .ok (.istore 11, 2) := by decide +kernel
theorem dX11_columns_81 : decode cX11_columns 81 = .ok (.iload 7, 2) := by decide +kernel
theorem dX11_columns_83 : decode cX11_columns 83 = .ok (.ifCond .eq 23, 3) := by decide +kernel
theorem dX11_columns_86 : decode cX11_columns 86 = .ok (.iload 11, 2) := by decide +kernel
theorem dX11_columns_88 : decode cX11_columns 88 = .ok (.iconst (-1), 1) := by decide +kernel
theorem dX11_columns_89 : decode cX11_columns 89 = .ok (.if_icmp .eq 13, 3) := by decide +kernel
theorem dX11_columns_92 : decode cX11_columns 92 = .ok (.aload_n 0, 1) := by decide +kernel
theorem dX11_columns_93 : decode cX11_columns 93 = .ok (.iload_n 2, 1) := by decide +kernel
theorem dX11_columns_94 : decode cX11_columns 94 = .ok (.iload 11, 2) := by decide +kernel
theorem dX11_columns_96 : decode cX11_columns 96 = .ok (.invokevirtual 135, 3) := by decide +kernel
theorem dX11_columns_99 : decode cX11_columns 99 = .ok (.ifCond .eq 7, 3) := by decide +kernel
theorem dX11_columns_102 : decode cX11_columns 102 = .ok (.iconst 1, 1) := by decide +kernel
theorem dX11_columns_103 : decode cX11_columns 103 = .ok (.goto 4, 3) := by decide +kernel
theorem dX11_columns_106 : decode cX11_columns 106 = .ok (.iconst 0, 1) := by decide +kernel
theorem dX11_columns_107 : decode cX11_columns 107 = .ok (.istore 7, 2) := by decide +kernel
theorem dX11_columns_109 : decode cX11_columns 109 = .ok (.iload 8, 2) := by decide +kernel
theorem dX11_columns_111 : decode cX11_columns 111 = .ok (.ifCond .eq 20, 3) := by decide +kernel
theorem dX11_columns_114 : decode cX11_columns 114 = .ok (.iload 11, 2) := by decide +kernel
theorem dX11_columns_116 : decode cX11_columns 116 = .ok (.iconst (-1), 1) := by decide +kernel
theorem dX11_columns_117 : decode cX11_columns 117 = .ok (.if_icmp .eq 10, 3) := by decide +kernel
theorem dX11_columns_120 : decode cX11_columns 120 = .ok (.iload 9, 2) := by decide +kernel
theorem dX11_columns_122 : decode cX11_columns 122 = .ok (.iload 10, 2) := by decide +kernel
theorem dX11_columns_124 : decode cX11_columns 124 = .ok (.if_icmp .ne 7, 3) := by decide +kernel
theorem dX11_columns_127 : decode cX11_columns 127 = .ok (.iconst 1, 1) := by decide +kernel
theorem dX11_columns_128 : decode cX11_columns 128 = .ok (.goto 4, 3) := by decide +kernel
theorem dX11_columns_131 : decode cX11_columns 131 = .ok (.iconst 0, 1) := by decide +kernel
theorem dX11_columns_132 : decode cX11_columns 132 = .ok (.istore 8, 2) := by decide +kernel
theorem dX11_columns_134 : decode cX11_columns 134 = .ok (.iload 11, 2) := by decide +kernel
theorem dX11_columns_136 : decode cX11_columns 136 = .ok (.iconst (-1), 1) := by decide +kernel
theorem dX11_columns_137 : decode cX11_columns 137 = .ok (.if_icmp .ne 8, 3) := by decide +kernel
theorem dX11_columns_140 : decode cX11_columns 140 = .ok (.iload 9, 2) := by decide +kernel
theorem dX11_columns_142 : decode cX11_columns 142 = .ok (.goto 7, 3) := by decide +kernel
theorem dX11_columns_145 : decode cX11_columns 145 = .ok (.iload 9, 2) := by decide +kernel
theorem dX11_columns_147 : decode cX11_columns 147 = .ok (.iconst 1, 1) := by decide +kernel
theorem dX11_columns_148 : decode cX11_columns 148 = .ok (.iadd, 1) := by decide +kernel
theorem dX11_columns_149 : decode cX11_columns 149 = .ok (.istore 9, 2) := by decide +kernel
theorem dX11_columns_151 : decode cX11_columns 151 = .ok (.iinc 10 1, 3) := by decide +kernel
theorem dX11_columns_154 : decode cX11_columns 154 = .ok (.goto (-114), 3) := by decide +kernel
theorem dX11_columns_157 : decode cX11_columns 157 = .ok (.aload_n 0, 1) := by decide +kernel
theorem dX11_columns_158 : decode cX11_columns 158 = .ok (.iload 7, 2) := by decide +kernel
theorem dX11_columns_160 : decode cX11_columns 160 = .ok (.ifCond .ne 7, 3) := by decide +kernel
theorem dX11_columns_163 : decode cX11_columns 163 = .ok (.iconst 1, 1) := by decide +kernel
theorem dX11_columns_164 : decode cX11_columns 164 = .ok (.goto 26, 3) := by decide +kernel
theorem dX11_columns_167 : decode cX11_columns 167 = .ok (.aload_n 0, 1) := by decide +kernel
theorem dX11_columns_168 : decode cX11_columns 168 = .ok (.getfield 7, 3) := by decide +kernel
theorem dX11_columns_171 : decode cX11_columns 171 = .ok (.iload_n 1, 1) := by decide +kernel
theorem dX11_columns_172 : decode cX11_columns 172 = .ok (.iaload, 1) := by decide +kernel
theorem dX11_columns_173 : decode cX11_columns 173 = .ok (.ifCond .le 7, 3) := by decide +kernel
theorem dX11_columns_176 : decode cX11_columns 176 = .ok (.iconst 2, 1) := by decide +kernel
theorem dX11_columns_177 : decode cX11_columns 177 = .ok (.goto 13, 3) := by decide +kernel
theorem dX11_columns_180 : decode cX11_columns 180 = .ok (.iload 8, 2) := by decide +kernel
theorem dX11_columns_182 : decode cX11_columns 182 = .ok (.ifCond .ne 7, 3) := by decide +kernel
theorem dX11_columns_185 : decode cX11_columns 185 = .ok (.iconst 3, 1) := by decide +kernel
theorem dX11_columns_186 : decode cX11_columns 186 = .ok (.goto 4, 3) := by decide +kernel
theorem dX11_columns_189 : decode cX11_columns 189 = .ok (.iconst 0, 1) := by decide +kernel
theorem dX11_columns_190 : decode cX11_columns 190 = .ok (.putfield 56, 3) := by decide +kernel
theorem dX11_columns_193 : decode cX11_columns 193 = .ok (.aload_n 0, 1) := by decide +kernel
theorem dX11_columns_194 : decode cX11_columns 194 = .ok (.getfield 56, 3) := by decide +kernel
theorem dX11_columns_197 : decode cX11_columns 197 = .ok (.ifCond .ne 58, 3) := by decide +kernel
theorem dX11_columns_200 : decode cX11_columns 200 = .ok (.aload_n 0, 1) := by decide +kernel
theorem dX11_columns_201 : decode cX11_columns 201 = .ok (.getfield 22, 3) := by decide +kernel
theorem dX11_columns_204 : decode cX11_columns 204 = .ok (.iconst 4, 1) := by decide +kernel
theorem dX11_columns_205 : decode cX11_columns 205 = .ok (.iload_n 1, 1) := by decide +kernel
theorem dX11_columns_206 : decode cX11_columns 206 = .ok (.imul, 1) := by decide +kernel
theorem dX11_columns_207 : decode cX11_columns 207 = .ok (.iload_n 3, 1) := by decide +kernel
theorem dX11_columns_208 : decode cX11_columns 208 = .ok (.iastore, 1) := by decide +kernel
theorem dX11_columns_209 : decode cX11_columns 209 = .ok (.aload_n 0, 1) := by decide +kernel
theorem dX11_columns_210 : decode cX11_columns 210 = .ok (.getfield 22, 3) := by decide +kernel
theorem dX11_columns_213 : decode cX11_columns 213 = .ok (.iconst 4, 1) := by decide +kernel
theorem dX11_columns_214 : decode cX11_columns 214 = .ok (.iload_n 1, 1) := by decide +kernel
theorem dX11_columns_215 : decode cX11_columns 215 = .ok (.imul, 1) := by decide +kernel
theorem dX11_columns_216 : decode cX11_columns 216 = .ok (.iconst 1, 1) := by decide +kernel
theorem dX11_columns_217 : decode cX11_columns 217 = .ok (.iadd, 1) := by decide +kernel
theorem dX11_columns_218 : decode cX11_columns 218 = .ok (.iload 4, 2) := by decide +kernel
theorem dX11_columns_220 : decode cX11_columns 220 = .ok (.iastore, 1) := by decide +kernel
theorem dX11_columns_221 : decode cX11_columns 221 = .ok (.aload_n 0, 1) := by decide +kernel
theorem dX11_columns_222 : decode cX11_columns 222 = .ok (.getfield 22, 3) := by decide +kernel
theorem dX11_columns_225 : decode cX11_columns 225 = .ok (.iconst 4, 1) := by decide +kernel
theorem dX11_columns_226 : decode cX11_columns 226 = .ok (.iload_n 1, 1) := by decide +kernel
theorem dX11_columns_227 : decode cX11_columns 227 = .ok (.imul, 1) := by decide +kernel
theorem dX11_columns_228 : decode cX11_columns 228 = .ok (.iconst 2, 1) := by decide +kernel
theorem dX11_columns_229 : decode cX11_columns 229 = .ok (.iadd, 1) := by decide +kernel
theorem dX11_columns_230 : decode cX11_columns 230 = .ok (.iload 5, 2) := by decide +kernel
theorem dX11_columns_232 : decode cX11_columns 232 = .ok (.iastore, 1) := by decide +kernel
theorem dX11_columns_233 : decode cX11_columns 233 = .ok (.aload_n 0, 1) := by decide +kernel
theorem dX11_columns_234 : decode cX11_columns 234 = .ok (.getfield 22, 3) := by decide +kernel
theorem dX11_columns_237 : decode cX11_columns 237 = .ok (.iconst 4, 1) := by decide +kernel
theorem dX11_columns_238 : decode cX11_columns 238 = .ok (.iload_n 1, 1) := by decide +kernel
theorem dX11_columns_239 : decode cX11_columns 239 = .ok (.imul, 1) := by decide +kernel
theorem dX11_columns_240 : decode cX11_columns 240 = .ok (.iconst 3, 1) := by decide +kernel
theorem dX11_columns_241 : decode cX11_columns 241 = .ok (.iadd, 1) := by decide +kernel
theorem dX11_columns_242 : decode cX11_columns 242 = .ok (.iload 6, 2) := by decide +kernel
theorem dX11_columns_244 : decode cX11_columns 244 = .ok (.iastore, 1) := by decide +kernel
theorem dX11_columns_245 : decode cX11_columns 245 = .ok (.aload_n 0, 1) := by decide +kernel
theorem dX11_columns_246 : decode cX11_columns 246 = .ok (.iload_n 1, 1) := by decide +kernel
theorem dX11_columns_247 : decode cX11_columns 247 = .ok (.iconst 3, 1) := by decide +kernel
theorem dX11_columns_248 : decode cX11_columns 248 = .ok (.iload 9, 2) := by decide +kernel
theorem dX11_columns_250 : decode cX11_columns 250 = .ok (.iload_n 2, 1) := by decide +kernel
theorem dX11_columns_251 : decode cX11_columns 251 = .ok (.iconst (-1), 1) := by decide +kernel
theorem dX11_columns_252 : decode cX11_columns 252 = .ok (.invokevirtual 138, 3) := by decide +kernel
theorem dX11_columns_255 : decode cX11_columns 255 = .ok (.return_, 1) := by decide +kernel
theorem dX11_join_0 : decode cX11_join 0 = .ok (.iload_n 1, 1) := by decide +kernel
theorem dX11_join_1 : decode cX11_join 1 = .ok (.invokestatic 109, 3) := by decide +kernel
theorem dX11_join_4 : decode cX11_join 4 = .ok (.ifCond .eq 27, 3) := by decide +kernel
theorem dX11_join_7 : decode cX11_join 7 = .ok (.aload_n 0, 1) := by decide +kernel
theorem dX11_join_8 : decode cX11_join 8 = .ok (.iload_n 2, 1) := by decide +kernel
theorem dX11_join_9 : decode cX11_join 9 = .ok (.iload 4, 2) := by decide +kernel
theorem dX11_join_11 : decode cX11_join 11 = .ok (.invokevirtual 135, 3) := by decide +kernel
theorem dX11_join_14 : decode cX11_join 14 = .ok (.ifCond .eq 17, 3) := by decide +kernel
theorem dX11_join_17 : decode cX11_join 17 = .ok (.aload_n 0, 1) := by decide +kernel
theorem dX11_join_18 : decode cX11_join 18 = .ok (.iload_n 3, 1) := by decide +kernel
theorem dX11_join_19 : decode cX11_join 19 = .ok (.iload 5, 2) := by decide +kernel
theorem dX11_join_21 : decode cX11_join 21 = .ok (.invokevirtual 135, 3) := by decide +kernel
theorem dX11_join_24 : decode cX11_join 24 = .ok (.ifCond .eq 7, 3) := by decide +kernel
theorem dX11_join_27 : decode cX11_join 27 = .ok (.iconst 1, 1) := by decide +kernel
theorem dX11_join_28 : decode cX11_join 28 = .ok (.goto 4, 3) := by decide +kernel
theorem dX11_join_31 : decode cX11_join 31 = .ok (.iconst 0, 1) := by decide +kernel
theorem dX11_join_32 : decode cX11_join 32 = .ok (.istore 6, 2) := by decide +kernel
theorem dX11_join_34 : decode cX11_join 34 = .ok (.aload_n 0, 1) := by decide +kernel
theorem dX11_join_35 : decode cX11_join 35 = .ok (.iload 6, 2) := by decide +kernel
theorem dX11_join_37 : decode cX11_join 37 = .ok (.ifCond .ne 7, 3) := by decide +kernel
theorem dX11_join_40 : decode cX11_join 40 = .ok (.iconst 1, 1) := by decide +kernel
theorem dX11_join_41 : decode cX11_join 41 = .ok (.goto 38, 3) := by decide +kernel
theorem dX11_join_44 : decode cX11_join 44 = .ok (.aload_n 0, 1) := by decide +kernel
theorem dX11_join_45 : decode cX11_join 45 = .ok (.getfield 7, 3) := by decide +kernel
theorem dX11_join_48 : decode cX11_join 48 = .ok (.iload_n 1, 1) := by decide +kernel
theorem dX11_join_49 : decode cX11_join 49 = .ok (.iaload, 1) := by decide +kernel
theorem dX11_join_50 : decode cX11_join 50 = .ok (.ifCond .le 7, 3) := by decide +kernel
theorem dX11_join_53 : decode cX11_join 53 = .ok (.iconst 2, 1) := by decide +kernel
theorem dX11_join_54 : decode cX11_join 54 = .ok (.goto 25, 3) := by decide +kernel
theorem dX11_join_57 : decode cX11_join 57 = .ok (.aload_n 0, 1) := by decide +kernel
theorem dX11_join_58 : decode cX11_join 58 = .ok (.getfield 13, 3) := by decide +kernel
theorem dX11_join_61 : decode cX11_join 61 = .ok (.iload_n 2, 1) := by decide +kernel
theorem dX11_join_62 : decode cX11_join 62 = .ok (.iaload, 1) := by decide +kernel
theorem dX11_join_63 : decode cX11_join 63 = .ok (.aload_n 0, 1) := by decide +kernel
theorem dX11_join_64 : decode cX11_join 64 = .ok (.getfield 13, 3) := by decide +kernel
theorem dX11_join_67 : decode cX11_join 67 = .ok (.iload_n 3, 1) := by decide +kernel
theorem dX11_join_68 : decode cX11_join 68 = .ok (.iaload, 1) := by decide +kernel
theorem dX11_join_69 : decode cX11_join 69 = .ok (.iadd, 1) := by decide +kernel
theorem dX11_join_70 : decode cX11_join 70 = .ok (.iconst 4, 1) := by decide +kernel
theorem dX11_join_71 : decode cX11_join 71 = .ok (.if_icmp .le 7, 3) := by decide +kernel
theorem dX11_join_74 : decode cX11_join 74 = .ok (.iconst 3, 1) := by decide +kernel
theorem dX11_join_75 : decode cX11_join 75 = .ok (.goto 4, 3) := by decide +kernel
theorem dX11_join_78 : decode cX11_join 78 = .ok (.iconst 0, 1) := by decide +kernel
theorem dX11_join_79 : decode cX11_join 79 = .ok (.putfield 56, 3) := by decide +kernel
theorem dX11_join_82 : decode cX11_join 82 = .ok (.aload_n 0, 1) := by decide +kernel
theorem dX11_join_83 : decode cX11_join 83 = .ok (.getfield 56, 3) := by decide +kernel
theorem dX11_join_86 : decode cX11_join 86 = .ok (.ifCond .ne 46, 3) := by decide +kernel
theorem dX11_join_89 : decode cX11_join 89 = .ok (.aload_n 0, 1) := by decide +kernel
theorem dX11_join_90 : decode cX11_join 90 = .ok (.getfield 22, 3) := by decide +kernel
theorem dX11_join_93 : decode cX11_join 93 = .ok (.iconst 4, 1) := by decide +kernel
theorem dX11_join_94 : decode cX11_join 94 = .ok (.iload_n 1, 1) := by decide +kernel
theorem dX11_join_95 : decode cX11_join 95 = .ok (.imul, 1) := by decide +kernel
theorem dX11_join_96 : decode cX11_join 96 = .ok (.iload 4, 2) := by decide +kernel
theorem dX11_join_98 : decode cX11_join 98 = .ok (.iastore, 1) := by decide +kernel
theorem dX11_join_99 : decode cX11_join 99 = .ok (.aload_n 0, 1) := by decide +kernel
theorem dX11_join_100 : decode cX11_join 100 = .ok (.getfield 22, 3) := by decide +kernel
theorem dX11_join_103 : decode cX11_join 103 = .ok (.iconst 4, 1) := by decide +kernel
theorem dX11_join_104 : decode cX11_join 104 = .ok (.iload_n 1, 1) := by decide +kernel
theorem dX11_join_105 : decode cX11_join 105 = .ok (.imul, 1) := by decide +kernel
theorem dX11_join_106 : decode cX11_join 106 = .ok (.iconst 1, 1) := by decide +kernel
theorem dX11_join_107 : decode cX11_join 107 = .ok (.iadd, 1) := by decide +kernel
theorem dX11_join_108 : decode cX11_join 108 = .ok (.iload 5, 2) := by decide +kernel
theorem dX11_join_110 : decode cX11_join 110 = .ok (.iastore, 1) := by decide +kernel
theorem dX11_join_111 : decode cX11_join 111 = .ok (.aload_n 0, 1) := by decide +kernel
theorem dX11_join_112 : decode cX11_join 112 = .ok (.iload_n 1, 1) := by decide +kernel
theorem dX11_join_113 : decode cX11_join 113 = .ok (.iconst 4, 1) := by decide +kernel
theorem dX11_join_114 : decode cX11_join 114 = .ok (.aload_n 0, 1) := by decide +kernel
theorem dX11_join_115 : decode cX11_join 115 = .ok (.getfield 13, 3) := by decide +kernel
theorem dX11_join_118 : decode cX11_join 118 = .ok (.iload_n 2, 1) := by decide +kernel
theorem dX11_join_119 : decode cX11_join 119 = .ok (.iaload, 1) := by decide +kernel
theorem dX11_join_120 : decode cX11_join 120 = .ok (.aload_n 0, 1) := by decide +kernel
theorem dX11_join_121 : decode cX11_join 121 = .ok (.getfield 13, 3) := by decide +kernel
theorem dX11_join_124 : decode cX11_join 124 = .ok (.iload_n 3, 1) := by decide +kernel
theorem dX11_join_125 : decode cX11_join 125 = .ok (.iaload, 1) := by decide +kernel
theorem dX11_join_126 : decode cX11_join 126 = .ok (.iadd, 1) := by decide +kernel
theorem dX11_join_127 : decode cX11_join 127 = .ok (.iload_n 2, 1) := by decide +kernel
theorem dX11_join_128 : decode cX11_join 128 = .ok (.iload_n 3, 1) := by decide +kernel
theorem dX11_join_129 : decode cX11_join 129 = .ok (.invokevirtual 138, 3) := by decide +kernel
theorem dX11_join_132 : decode cX11_join 132 = .ok (.return_, 1) := by decide +kernel
theorem dX11_both_0 : decode cX11_both 0 = .ok (.iload_n 1, 1) := by decide +kernel
theorem dX11_both_1 : decode cX11_both 1 = .ok (.invokestatic 109, 3) := by decide +kernel
theorem dX11_both_4 : decode cX11_both 4 = .ok (.ifCond .eq 23, 3) := by decide +kernel
theorem dX11_both_7 : decode cX11_both 7 = .ok (.aload_n 0, 1) := by decide +kernel
theorem dX11_both_8 : decode cX11_both 8 = .ok (.iload_n 2, 1) := by decide +kernel
theorem dX11_both_9 : decode cX11_both 9 = .ok (.invokevirtual 113, 3) := by decide +kernel
theorem dX11_both_12 : decode cX11_both 12 = .ok (.ifCond .eq 15, 3) := by decide +kernel
theorem dX11_both_15 : decode cX11_both 15 = .ok (.aload_n 0, 1) := by decide +kernel
theorem dX11_both_16 : decode cX11_both 16 = .ok (.iload_n 3, 1) := by decide +kernel
theorem dX11_both_17 : decode cX11_both 17 = .ok (.invokevirtual 113, 3) := by decide +kernel
theorem dX11_both_20 : decode cX11_both 20 = .ok (.ifCond .eq 7, 3) := by decide +kernel
theorem dX11_both_23 : decode cX11_both 23 = .ok (.iconst 1, 1) := by decide +kernel
theorem dX11_both_24 : decode cX11_both 24 = .ok (.goto 4, 3) := by decide +kernel
theorem dX11_both_27 : decode cX11_both 27 = .ok (.iconst 0, 1) := by decide +kernel
theorem dX11_both_28 : decode cX11_both 28 = .ok (.istore 5, 2) := by decide +kernel
theorem dX11_both_30 : decode cX11_both 30 = .ok (.aload_n 0, 1) := by decide +kernel
theorem dX11_both_31 : decode cX11_both 31 = .ok (.iload 5, 2) := by decide +kernel
theorem dX11_both_33 : decode cX11_both 33 = .ok (.ifCond .ne 7, 3) := by decide +kernel
theorem dX11_both_36 : decode cX11_both 36 = .ok (.iconst 1, 1) := by decide +kernel
theorem dX11_both_37 : decode cX11_both 37 = .ok (.goto 36, 3) := by decide +kernel
theorem dX11_both_40 : decode cX11_both 40 = .ok (.aload_n 0, 1) := by decide +kernel
theorem dX11_both_41 : decode cX11_both 41 = .ok (.getfield 7, 3) := by decide +kernel
theorem dX11_both_44 : decode cX11_both 44 = .ok (.iload_n 1, 1) := by decide +kernel
theorem dX11_both_45 : decode cX11_both 45 = .ok (.iaload, 1) := by decide +kernel
theorem dX11_both_46 : decode cX11_both 46 = .ok (.ifCond .le 7, 3) := by decide +kernel
theorem dX11_both_49 : decode cX11_both 49 = .ok (.iconst 2, 1) := by decide +kernel
theorem dX11_both_50 : decode cX11_both 50 = .ok (.goto 23, 3) := by decide +kernel
theorem dX11_both_53 : decode cX11_both 53 = .ok (.aload_n 0, 1) := by decide +kernel
theorem dX11_both_54 : decode cX11_both 54 = .ok (.getfield 13, 3) := by decide +kernel
theorem dX11_both_57 : decode cX11_both 57 = .ok (.iload_n 2, 1) := by decide +kernel
theorem dX11_both_58 : decode cX11_both 58 = .ok (.iaload, 1) := by decide +kernel
theorem dX11_both_59 : decode cX11_both 59 = .ok (.aload_n 0, 1) := by decide +kernel
theorem dX11_both_60 : decode cX11_both 60 = .ok (.getfield 13, 3) := by decide +kernel
theorem dX11_both_63 : decode cX11_both 63 = .ok (.iload_n 3, 1) := by decide +kernel
theorem dX11_both_64 : decode cX11_both 64 = .ok (.iaload, 1) := by decide +kernel
theorem dX11_both_65 : decode cX11_both 65 = .ok (.if_icmp .eq 7, 3) := by decide +kernel
theorem dX11_both_68 : decode cX11_both 68 = .ok (.iconst 3, 1) := by decide +kernel
theorem dX11_both_69 : decode cX11_both 69 = .ok (.goto 4, 3) := by decide +kernel
theorem dX11_both_72 : decode cX11_both 72 = .ok (.iconst 0, 1) := by decide +kernel
theorem dX11_both_73 : decode cX11_both 73 = .ok (.putfield 56, 3) := by decide +kernel
theorem dX11_both_76 : decode cX11_both 76 = .ok (.aload_n 0, 1) := by decide +kernel
theorem dX11_both_77 : decode cX11_both 77 = .ok (.getfield 56, 3) := by decide +kernel
theorem dX11_both_80 : decode cX11_both 80 = .ok (.ifCond .ne 27, 3) := by decide +kernel
theorem dX11_both_83 : decode cX11_both 83 = .ok (.aload_n 0, 1) := by decide +kernel
theorem dX11_both_84 : decode cX11_both 84 = .ok (.iload_n 1, 1) := by decide +kernel
theorem dX11_both_85 : decode cX11_both 85 = .ok (.iload 4, 2) := by decide +kernel
theorem dX11_both_87 : decode cX11_both 87 = .ok (.ifCond .eq 8, 3) := by decide +kernel
theorem dX11_both_90 : decode cX11_both 90 = .ok (.bipush 6, 2) := by decide +kernel
theorem dX11_both_92 : decode cX11_both 92 = .ok (.goto 4, 3) := by decide +kernel
theorem dX11_both_95 : decode cX11_both 95 = .ok (.iconst 5, 1) := by decide +kernel
theorem dX11_both_96 : decode cX11_both 96 = .ok (.aload_n 0, 1) := by decide +kernel
theorem dX11_both_97 : decode cX11_both 97 = .ok (.getfield 13, 3) := by decide +kernel
theorem dX11_both_100 : decode cX11_both 100 = .ok (.iload_n 2, 1) := by decide +kernel
theorem dX11_both_101 : decode cX11_both 101 = .ok (.iaload, 1) := by decide +kernel
theorem dX11_both_102 : decode cX11_both 102 = .ok (.iload_n 2, 1) := by decide +kernel
theorem dX11_both_103 : decode cX11_both 103 = .ok (.iload_n 3, 1) := by decide +kernel
theorem dX11_both_104 : decode cX11_both 104 = .ok (.invokevirtual 138, 3) := by decide +kernel
theorem dX11_both_107 : decode cX11_both 107 = .ok (.return_, 1) := by decide +kernel
theorem dX11_once_0 : decode cX11_once 0 = .ok (.iload_n 1, 1) := by decide +kernel
theorem dX11_once_1 : decode cX11_once 1 = .ok (.invokestatic 109, 3) := by decide +kernel
theorem dX11_once_4 : decode cX11_once 4 = .ok (.ifCond .eq 15, 3) := by decide +kernel
theorem dX11_once_7 : decode cX11_once 7 = .ok (.aload_n 0, 1) := by decide +kernel
theorem dX11_once_8 : decode cX11_once 8 = .ok (.iload_n 2, 1) := by decide +kernel
theorem dX11_once_9 : decode cX11_once 9 = .ok (.invokevirtual 113, 3) := by decide +kernel
theorem dX11_once_12 : decode cX11_once 12 = .ok (.ifCond .eq 7, 3) := by decide +kernel
theorem dX11_once_15 : decode cX11_once 15 = .ok (.iconst 1, 1) := by decide +kernel
theorem dX11_once_16 : decode cX11_once 16 = .ok (.goto 4, 3) := by decide +kernel
theorem dX11_once_19 : decode cX11_once 19 = .ok (.iconst 0, 1) := by decide +kernel
theorem dX11_once_20 : decode cX11_once 20 = .ok (.istore_n 3, 1) := by decide +kernel
theorem dX11_once_21 : decode cX11_once 21 = .ok (.aload_n 0, 1) := by decide +kernel
theorem dX11_once_22 : decode cX11_once 22 = .ok (.iload_n 3, 1) := by decide +kernel
theorem dX11_once_23 : decode cX11_once 23 = .ok (.ifCond .ne 7, 3) := by decide +kernel
theorem dX11_once_26 : decode cX11_once 26 = .ok (.iconst 1, 1) := by decide +kernel
theorem dX11_once_27 : decode cX11_once 27 = .ok (.goto 17, 3) := by decide +kernel
theorem dX11_once_30 : decode cX11_once 30 = .ok (.aload_n 0, 1) := by decide +kernel
theorem dX11_once_31 : decode cX11_once 31 = .ok (.getfield 7, 3) := by decide +kernel
theorem dX11_once_34 : decode cX11_once 34 = .ok (.iload_n 1, 1) := by decide +kernel
theorem dX11_once_35 : decode cX11_once 35 = .ok (.iaload, 1) := by decide +kernel
theorem dX11_once_36 : decode cX11_once 36 = .ok (.ifCond .le 7, 3) := by decide +kernel
theorem dX11_once_39 : decode cX11_once 39 = .ok (.iconst 2, 1) := by decide +kernel
theorem dX11_once_40 : decode cX11_once 40 = .ok (.goto 4, 3) := by decide +kernel
theorem dX11_once_43 : decode cX11_once 43 = .ok (.iconst 0, 1) := by decide +kernel
theorem dX11_once_44 : decode cX11_once 44 = .ok (.putfield 56, 3) := by decide +kernel
theorem dX11_once_47 : decode cX11_once 47 = .ok (.aload_n 0, 1) := by decide +kernel
theorem dX11_once_48 : decode cX11_once 48 = .ok (.getfield 56, 3) := by decide +kernel
theorem dX11_once_51 : decode cX11_once 51 = .ok (.ifCond .ne 34, 3) := by decide +kernel
theorem dX11_once_54 : decode cX11_once 54 = .ok (.aload_n 0, 1) := by decide +kernel
theorem dX11_once_55 : decode cX11_once 55 = .ok (.iload_n 1, 1) := by decide +kernel
theorem dX11_once_56 : decode cX11_once 56 = .ok (.bipush 7, 2) := by decide +kernel
theorem dX11_once_58 : decode cX11_once 58 = .ok (.aload_n 0, 1) := by decide +kernel
theorem dX11_once_59 : decode cX11_once 59 = .ok (.getfield 13, 3) := by decide +kernel
theorem dX11_once_62 : decode cX11_once 62 = .ok (.iload_n 2, 1) := by decide +kernel
theorem dX11_once_63 : decode cX11_once 63 = .ok (.iaload, 1) := by decide +kernel
theorem dX11_once_64 : decode cX11_once 64 = .ok (.iload_n 2, 1) := by decide +kernel
theorem dX11_once_65 : decode cX11_once 65 = .ok (.iconst (-1), 1) := by decide +kernel
theorem dX11_once_66 : decode cX11_once 66 = .ok (.invokevirtual 138, 3) := by decide +kernel
theorem dX11_once_69 : decode cX11_once 69 = .ok (.aload_n 0, 1) := by decide +kernel
theorem dX11_once_70 : decode cX11_once 70 = .ok (.aload_n 0, 1) := by decide +kernel
theorem dX11_once_71 : decode cX11_once 71 = .ok (.getfield 56, 3) := by decide +kernel
theorem dX11_once_74 : decode cX11_once 74 = .ok (.ifCond .le 7, 3) := by decide +kernel
theorem dX11_once_77 : decode cX11_once 77 = .ok (.iconst 3, 1) := by decide +kernel
theorem dX11_once_78 : decode cX11_once 78 = .ok (.goto 4, 3) := by decide +kernel
theorem dX11_once_81 : decode cX11_once 81 = .ok (.iconst 0, 1) := by decide +kernel
theorem dX11_once_82 : decode cX11_once 82 = .ok (.putfield 56, 3) := by decide +kernel
theorem dX11_once_85 : decode cX11_once 85 = .ok (.return_, 1) := by decide +kernel
theorem dX11_group_0 : decode cX11_group 0 = .ok (.iload_n 1, 1) := by decide +kernel
theorem dX11_group_1 : decode cX11_group 1 = .ok (.invokestatic 109, 3) := by decide +kernel
theorem dX11_group_4 : decode cX11_group 4 = .ok (.ifCond .eq 31, 3) := by decide +kernel
theorem dX11_group_7 : decode cX11_group 7 = .ok (.aload_n 0, 1) := by decide +kernel
theorem dX11_group_8 : decode cX11_group 8 = .ok (.iload_n 2, 1) := by decide +kernel
theorem dX11_group_9 : decode cX11_group 9 = .ok (.iload 5, 2) := by decide +kernel
theorem dX11_group_11 : decode cX11_group 11 = .ok (.invokevirtual 135, 3) := by decide +kernel
theorem dX11_group_14 : decode cX11_group 14 = .ok (.ifCond .eq 21, 3) := by decide +kernel
theorem dX11_group_17 : decode cX11_group 17 = .ok (.iload_n 3, 1) := by decide +kernel
theorem dX11_group_18 : decode cX11_group 18 = .ok (.iconst (-1), 1) := by decide +kernel
theorem dX11_group_19 : decode cX11_group 19 = .ok (.if_icmp .eq 12, 3) := by decide +kernel
theorem dX11_group_22 : decode cX11_group 22 = .ok (.aload_n 0, 1) := by decide +kernel
theorem dX11_group_23 : decode cX11_group 23 = .ok (.iload_n 2, 1) := by decide +kernel
theorem dX11_group_24 : decode cX11_group 24 = .ok (.iload_n 3, 1) := by decide +kernel
theorem dX11_group_25 : decode cX11_group 25 = .ok (.invokevirtual 135, 3) := by decide +kernel
theorem dX11_group_28 : decode cX11_group 28 = .ok (.ifCond .eq 7, 3) := by decide +kernel
theorem dX11_group_31 : decode cX11_group 31 = .ok (.iconst 1, 1) := by decide +kernel
theorem dX11_group_32 : decode cX11_group 32 = .ok (.goto 4, 3) := by decide +kernel
theorem dX11_group_35 : decode cX11_group 35 = .ok (.iconst 0, 1) := by decide +kernel
theorem dX11_group_36 : decode cX11_group 36 = .ok (.istore 6, 2) := by decide +kernel
theorem dX11_group_38 : decode cX11_group 38 = .ok (.aload_n 0, 1) := by decide +kernel
theorem dX11_group_39 : decode cX11_group 39 = .ok (.iload 6, 2) := by decide +kernel
theorem dX11_group_41 : decode cX11_group 41 = .ok (.ifCond .ne 7, 3) := by decide +kernel
theorem dX11_group_44 : decode cX11_group 44 = .ok (.iconst 1, 1) := by decide +kernel
theorem dX11_group_45 : decode cX11_group 45 = .ok (.goto 32, 3) := by decide +kernel
theorem dX11_group_48 : decode cX11_group 48 = .ok (.aload_n 0, 1) := by decide +kernel
theorem dX11_group_49 : decode cX11_group 49 = .ok (.getfield 7, 3) := by decide +kernel
theorem dX11_group_52 : decode cX11_group 52 = .ok (.iload_n 1, 1) := by decide +kernel
theorem dX11_group_53 : decode cX11_group 53 = .ok (.iaload, 1) := by decide +kernel
theorem dX11_group_54 : decode cX11_group 54 = .ok (.ifCond .le 7, 3) := by decide +kernel
theorem dX11_group_57 : decode cX11_group 57 = .ok (.iconst 2, 1) := by decide +kernel
theorem dX11_group_58 : decode cX11_group 58 = .ok (.goto 19, 3) := by decide +kernel
theorem dX11_group_61 : decode cX11_group 61 = .ok (.iload 4, 2) := by decide +kernel
theorem dX11_group_63 : decode cX11_group 63 = .ok (.ifCond .lt 9, 3) := by decide +kernel
theorem dX11_group_66 : decode cX11_group 66 = .ok (.iload 4, 2) := by decide +kernel
theorem dX11_group_68 : decode cX11_group 68 = .ok (.iconst 3, 1) := by decide +kernel
theorem dX11_group_69 : decode cX11_group 69 = .ok (.if_icmp .le 7, 3) := by decide +kernel
theorem dX11_group_72 : decode cX11_group 72 = .ok (.iconst 3, 1) := by decide +kernel
theorem dX11_group_73 : decode cX11_group 73 = .ok (.goto 4, 3) := by decide +kernel
theorem dX11_group_76 : decode cX11_group 76 = .ok (.iconst 0, 1) := by decide +kernel
theorem dX11_group_77 : decode cX11_group 77 = .ok (.putfield 56, 3) := by decide +kernel
theorem dX11_group_80 : decode cX11_group 80 = .ok (.aload_n 0, 1) := by decide +kernel
theorem dX11_group_81 : decode cX11_group 81 = .ok (.getfield 56, 3) := by decide +kernel
theorem dX11_group_84 : decode cX11_group 84 = .ok (.ifCond .ne 54, 3) := by decide +kernel
theorem dX11_group_87 : decode cX11_group 87 = .ok (.aload_n 0, 1) := by decide +kernel
theorem dX11_group_88 : decode cX11_group 88 = .ok (.getfield 22, 3) := by decide +kernel
theorem dX11_group_91 : decode cX11_group 91 = .ok (.iconst 4, 1) := by decide +kernel
theorem dX11_group_92 : decode cX11_group 92 = .ok (.iload_n 1, 1) := by decide +kernel
theorem dX11_group_93 : decode cX11_group 93 = .ok (.imul, 1) := by decide +kernel
theorem dX11_group_94 : decode cX11_group 94 = .ok (.iload_n 3, 1) := by decide +kernel
theorem dX11_group_95 : decode cX11_group 95 = .ok (.iastore, 1) := by decide +kernel
theorem dX11_group_96 : decode cX11_group 96 = .ok (.aload_n 0, 1) := by decide +kernel
theorem dX11_group_97 : decode cX11_group 97 = .ok (.getfield 22, 3) := by decide +kernel
theorem dX11_group_100 : decode cX11_group 100 = .ok (.iconst 4, 1) := by decide +kernel
theorem dX11_group_101 : decode cX11_group 101 = .ok (.iload_n 1, 1) := by decide +kernel
theorem dX11_group_102 : decode cX11_group 102 = .ok (.imul, 1) := by decide +kernel
theorem dX11_group_103 : decode cX11_group 103 = .ok (.iconst 1, 1) := by decide +kernel
theorem dX11_group_104 : decode cX11_group 104 = .ok (.iadd, 1) := by decide +kernel
theorem dX11_group_105 : decode cX11_group 105 = .ok (.iload 4, 2) := by decide +kernel
theorem dX11_group_107 : decode cX11_group 107 = .ok (.iastore, 1) := by decide +kernel
theorem dX11_group_108 : decode cX11_group 108 = .ok (.aload_n 0, 1) := by decide +kernel
theorem dX11_group_109 : decode cX11_group 109 = .ok (.getfield 22, 3) := by decide +kernel
theorem dX11_group_112 : decode cX11_group 112 = .ok (.iconst 4, 1) := by decide +kernel
theorem dX11_group_113 : decode cX11_group 113 = .ok (.iload_n 1, 1) := by decide +kernel
theorem dX11_group_114 : decode cX11_group 114 = .ok (.imul, 1) := by decide +kernel
theorem dX11_group_115 : decode cX11_group 115 = .ok (.iconst 2, 1) := by decide +kernel
theorem dX11_group_116 : decode cX11_group 116 = .ok (.iadd, 1) := by decide +kernel
theorem dX11_group_117 : decode cX11_group 117 = .ok (.iload 5, 2) := by decide +kernel
theorem dX11_group_119 : decode cX11_group 119 = .ok (.iastore, 1) := by decide +kernel
theorem dX11_group_120 : decode cX11_group 120 = .ok (.aload_n 0, 1) := by decide +kernel
theorem dX11_group_121 : decode cX11_group 121 = .ok (.iload_n 1, 1) := by decide +kernel
theorem dX11_group_122 : decode cX11_group 122 = .ok (.bipush 8, 2) := by decide +kernel
theorem dX11_group_124 : decode cX11_group 124 = .ok (.iload_n 3, 1) := by decide +kernel
theorem dX11_group_125 : decode cX11_group 125 = .ok (.ifCond .ge 7, 3) := by decide +kernel
theorem dX11_group_128 : decode cX11_group 128 = .ok (.iconst 1, 1) := by decide +kernel
theorem dX11_group_129 : decode cX11_group 129 = .ok (.goto 4, 3) := by decide +kernel
theorem dX11_group_132 : decode cX11_group 132 = .ok (.iconst 2, 1) := by decide +kernel
theorem dX11_group_133 : decode cX11_group 133 = .ok (.iload_n 2, 1) := by decide +kernel
theorem dX11_group_134 : decode cX11_group 134 = .ok (.iconst (-1), 1) := by decide +kernel
theorem dX11_group_135 : decode cX11_group 135 = .ok (.invokevirtual 138, 3) := by decide +kernel
theorem dX11_group_138 : decode cX11_group 138 = .ok (.return_, 1) := by decide +kernel
theorem dX11_drop_0 : decode cX11_drop 0 = .ok (.iconst 0, 1) := by decide +kernel
theorem dX11_drop_1 : decode cX11_drop 1 = .ok (.istore_n 2, 1) := by decide +kernel
theorem dX11_drop_2 : decode cX11_drop 2 = .ok (.iconst 0, 1) := by decide +kernel
theorem dX11_drop_3 : decode cX11_drop 3 = .ok (.istore_n 3, 1) := by decide +kernel
theorem dX11_drop_4 : decode cX11_drop 4 = .ok (.iload_n 3, 1) := by decide +kernel
theorem dX11_drop_5 : decode cX11_drop 5 = .ok (.bipush 8, 2) := by decide +kernel
theorem dX11_drop_7 : decode cX11_drop 7 = .ok (.if_icmp .ge 49, 3) := by decide +kernel
theorem dX11_drop_10 : decode cX11_drop 10 = .ok (.iload_n 2, 1) := by decide +kernel
theorem dX11_drop_11 : decode cX11_drop 11 = .ok (.ifCond .ne 33, 3) := by decide +kernel
theorem dX11_drop_14 : decode cX11_drop 14 = .ok (.aload_n 0, 1) := by decide +kernel
theorem dX11_drop_15 : decode cX11_drop 15 = .ok (.getfield 7, 3) := by decide +kernel
theorem dX11_drop_18 : decode cX11_drop 18 = .ok (.iload_n 3, 1) := by decide +kernel
theorem dX11_drop_19 : decode cX11_drop 19 = .ok (.iaload, 1) := by decide +kernel
theorem dX11_drop_20 : decode cX11_drop 20 = .ok (.iconst 1, 1) := by decide +kernel
theorem dX11_drop_21 : decode cX11_drop 21 = .ok (.if_icmp .le 27, 3) := by decide +kernel
theorem dX11_drop_24 : decode cX11_drop 24 = .ok (.aload_n 0, 1) := by decide +kernel
theorem dX11_drop_25 : decode cX11_drop 25 = .ok (.getfield 16, 3) := by decide +kernel
theorem dX11_drop_28 : decode cX11_drop 28 = .ok (.iload_n 3, 1) := by decide +kernel
theorem dX11_drop_29 : decode cX11_drop 29 = .ok (.iaload, 1) := by decide +kernel
theorem dX11_drop_30 : decode cX11_drop 30 = .ok (.iload_n 1, 1) := by decide +kernel
theorem dX11_drop_31 : decode cX11_drop 31 = .ok (.if_icmp .eq 13, 3) := by decide +kernel
theorem dX11_drop_34 : decode cX11_drop 34 = .ok (.aload_n 0, 1) := by decide +kernel
theorem dX11_drop_35 : decode cX11_drop 35 = .ok (.getfield 19, 3) := by decide +kernel
theorem dX11_drop_38 : decode cX11_drop 38 = .ok (.iload_n 3, 1) := by decide +kernel
theorem dX11_drop_39 : decode cX11_drop 39 = .ok (.iaload, 1) := by decide +kernel
theorem dX11_drop_40 : decode cX11_drop 40 = .ok (.iload_n 1, 1) := by decide +kernel
theorem dX11_drop_41 : decode cX11_drop 41 = .ok (.if_icmp .ne 7, 3) := by decide +kernel
theorem dX11_drop_44 : decode cX11_drop 44 = .ok (.iconst 1, 1) := by decide +kernel
theorem dX11_drop_45 : decode cX11_drop 45 = .ok (.goto 4, 3) := by decide +kernel
theorem dX11_drop_48 : decode cX11_drop 48 = .ok (.iconst 0, 1) := by decide +kernel
theorem dX11_drop_49 : decode cX11_drop 49 = .ok (.istore_n 2, 1) := by decide +kernel
theorem dX11_drop_50 : decode cX11_drop 50 = .ok (.iinc 3 1, 3) := by decide +kernel
theorem dX11_drop_53 : decode cX11_drop 53 = .ok (.goto (-49), 3) := by decide +kernel
theorem dX11_drop_56 : decode cX11_drop 56 = .ok (.aload_n 0, 1) := by decide +kernel
theorem dX11_drop_57 : decode cX11_drop 57 = .ok (.aload_n 0, 1) := by decide +kernel
theorem dX11_drop_58 : decode cX11_drop 58 = .ok (.iload_n 1, 1) := by decide +kernel
theorem dX11_drop_59 : decode cX11_drop 59 = .ok (.invokevirtual 113, 3) := by decide +kernel
theorem dX11_drop_62 : decode cX11_drop 62 = .ok (.ifCond .ne 7, 3) := by decide +kernel
theorem dX11_drop_65 : decode cX11_drop 65 = .ok (.iconst 1, 1) := by decide +kernel
theorem dX11_drop_66 : decode cX11_drop 66 = .ok (.goto 12, 3) := by decide +kernel
theorem dX11_drop_69 : decode cX11_drop 69 = .ok (.iload_n 2, 1) := by decide +kernel
theorem dX11_drop_70 : decode cX11_drop 70 = .ok (.ifCond .eq 7, 3) := by decide +kernel
theorem dX11_drop_73 : decode cX11_drop 73 = .ok (.iconst 2, 1) := by decide +kernel
theorem dX11_drop_74 : decode cX11_drop 74 = .ok (.goto 4, 3) := by decide +kernel
theorem dX11_drop_77 : decode cX11_drop 77 = .ok (.iconst 0, 1) := by decide +kernel
theorem dX11_drop_78 : decode cX11_drop 78 = .ok (.putfield 56, 3) := by decide +kernel
theorem dX11_drop_81 : decode cX11_drop 81 = .ok (.aload_n 0, 1) := by decide +kernel
theorem dX11_drop_82 : decode cX11_drop 82 = .ok (.getfield 56, 3) := by decide +kernel
theorem dX11_drop_85 : decode cX11_drop 85 = .ok (.ifCond .ne 8, 3) := by decide +kernel
theorem dX11_drop_88 : decode cX11_drop 88 = .ok (.aload_n 0, 1) := by decide +kernel
theorem dX11_drop_89 : decode cX11_drop 89 = .ok (.iload_n 1, 1) := by decide +kernel
theorem dX11_drop_90 : decode cX11_drop 90 = .ok (.invokevirtual 132, 3) := by decide +kernel
theorem dX11_drop_93 : decode cX11_drop 93 = .ok (.return_, 1) := by decide +kernel
theorem dX11_change_0 : decode cX11_change 0 = .ok (.aload_n 0, 1) := by decide +kernel
theorem dX11_change_1 : decode cX11_change 1 = .ok (.iload_n 1, 1) := by decide +kernel
theorem dX11_change_2 : decode cX11_change 2 = .ok (.invokevirtual 60, 3) := by decide +kernel
theorem dX11_change_5 : decode cX11_change 5 = .ok (.istore_n 3, 1) := by decide +kernel
theorem dX11_change_6 : decode cX11_change 6 = .ok (.iload_n 2, 1) := by decide +kernel
theorem dX11_change_7 : decode cX11_change 7 = .ok (.ifCond .ge 41, 3) := by decide +kernel
theorem dX11_change_10 : decode cX11_change 10 = .ok (.aload_n 0, 1) := by decide +kernel
theorem dX11_change_11 : decode cX11_change 11 = .ok (.getfield 47, 3) := by decide +kernel
theorem dX11_change_14 : decode cX11_change 14 = .ok (.bipush 20, 2) := by decide +kernel
theorem dX11_change_16 : decode cX11_change 16 = .ok (.iload_n 1, 1) := by decide +kernel
theorem dX11_change_17 : decode cX11_change 17 = .ok (.imul, 1) := by decide +kernel
theorem dX11_change_18 : decode cX11_change 18 = .ok (.iload_n 3, 1) := by decide +kernel
theorem dX11_change_19 : decode cX11_change 19 = .ok (.iadd, 1) := by decide +kernel
theorem dX11_change_20 : decode cX11_change 20 = .ok (.dup2, 1) := by decide +kernel
theorem dX11_change_21 : decode cX11_change 21 = .ok (.iaload, 1) := by decide +kernel
theorem dX11_change_22 : decode cX11_change 22 = .ok (.iload_n 2, 1) := by decide +kernel
theorem dX11_change_23 : decode cX11_change 23 = .ok (.iadd, 1) := by decide +kernel
theorem dX11_change_24 : decode cX11_change 24 = .ok (.iastore, 1) := by decide +kernel
theorem dX11_change_25 : decode cX11_change 25 = .ok (.aload_n 0, 1) := by decide +kernel
theorem dX11_change_26 : decode cX11_change 26 = .ok (.getfield 47, 3) := by decide +kernel
theorem dX11_change_29 : decode cX11_change 29 = .ok (.bipush 20, 2) := by decide +kernel
theorem dX11_change_31 : decode cX11_change 31 = .ok (.iload_n 1, 1) := by decide +kernel
theorem dX11_change_32 : decode cX11_change 32 = .ok (.imul, 1) := by decide +kernel
theorem dX11_change_33 : decode cX11_change 33 = .ok (.iload_n 3, 1) := by decide +kernel
theorem dX11_change_34 : decode cX11_change 34 = .ok (.iadd, 1) := by decide +kernel
theorem dX11_change_35 : decode cX11_change 35 = .ok (.iaload, 1) := by decide +kernel
theorem dX11_change_36 : decode cX11_change 36 = .ok (.ifCond .ne 19, 3) := by decide +kernel
theorem dX11_change_39 : decode cX11_change 39 = .ok (.aload_n 0, 1) := by decide +kernel
theorem dX11_change_40 : decode cX11_change 40 = .ok (.iload_n 1, 1) := by decide +kernel
theorem dX11_change_41 : decode cX11_change 41 = .ok (.iload_n 3, 1) := by decide +kernel
theorem dX11_change_42 : decode cX11_change 42 = .ok (.invokevirtual 141, 3) := by decide +kernel
theorem dX11_change_45 : decode cX11_change 45 = .ok (.goto 10, 3) := by decide +kernel
theorem dX11_change_48 : decode cX11_change 48 = .ok (.aload_n 0, 1) := by decide +kernel
theorem dX11_change_49 : decode cX11_change 49 = .ok (.iload_n 1, 1) := by decide +kernel
theorem dX11_change_50 : decode cX11_change 50 = .ok (.iload_n 2, 1) := by decide +kernel
theorem dX11_change_51 : decode cX11_change 51 = .ok (.i2l, 1) := by decide +kernel
theorem dX11_change_52 : decode cX11_change 52 = .ok (.invokevirtual 97, 3) := by decide +kernel
theorem dX11_change_55 : decode cX11_change 55 = .ok (.return_, 1) := by decide +kernel
theorem dX11_settle_0 : decode cX11_settle 0 = .ok (.iconst 0, 1) := by decide +kernel
theorem dX11_settle_1 : decode cX11_settle 1 = .ok (.istore_n 1, 1) := by decide +kernel
theorem dX11_settle_2 : decode cX11_settle 2 = .ok (.aload_n 0, 1) := by decide +kernel
theorem dX11_settle_3 : decode cX11_settle 3 = .ok (.getfield 68, 3) := by decide +kernel
theorem dX11_settle_6 : decode cX11_settle 6 = .ok (.ifCond .eq 42, 3) := by decide +kernel
theorem dX11_settle_9 : decode cX11_settle 9 = .ok (.iload_n 1, 1) := by decide +kernel
theorem dX11_settle_10 : decode cX11_settle 10 = .ok (.aload_n 0, 1) := by decide +kernel
theorem dX11_settle_11 : decode cX11_settle 11 = .ok (.getfield 116, 3) := by decide +kernel
theorem dX11_settle_14 : decode cX11_settle 14 = .ok (.if_icmp .ge 34, 3) := by decide +kernel
theorem dX11_settle_17 : decode cX11_settle 17 = .ok (.aload_n 0, 1) := by decide +kernel
theorem dX11_settle_18 : decode cX11_settle 18 = .ok (.getfield 7, 3) := by decide +kernel
theorem dX11_settle_21 : decode cX11_settle 21 = .ok (.aload_n 0, 1) := by decide +kernel
theorem dX11_settle_22 : decode cX11_settle 22 = .ok (.getfield 29, 3) := by decide +kernel
theorem dX11_settle_25 : decode cX11_settle 25 = .ok (.iload_n 1, 1) := by decide +kernel
theorem dX11_settle_26 : decode cX11_settle 26 = .ok (.iaload, 1) := by decide +kernel
theorem dX11_settle_27 : decode cX11_settle 27 = .ok (.iaload, 1) := by decide +kernel
theorem dX11_settle_28 : decode cX11_settle 28 = .ok (.iconst 1, 1) := by decide +kernel
theorem dX11_settle_29 : decode cX11_settle 29 = .ok (.if_icmp .eq 13, 3) := by decide +kernel
theorem dX11_settle_32 : decode cX11_settle 32 = .ok (.aload_n 0, 1) := by decide +kernel
theorem dX11_settle_33 : decode cX11_settle 33 = .ok (.aload_n 0, 1) := by decide +kernel
theorem dX11_settle_34 : decode cX11_settle 34 = .ok (.getfield 29, 3) := by decide +kernel
theorem dX11_settle_37 : decode cX11_settle 37 = .ok (.iload_n 1, 1) := by decide +kernel
theorem dX11_settle_38 : decode cX11_settle 38 = .ok (.iaload, 1) := by decide +kernel
theorem dX11_settle_39 : decode cX11_settle 39 = .ok (.invokevirtual 126, 3) := by decide +kernel
theorem dX11_settle_42 : decode cX11_settle 42 = .ok (.iinc 1 1, 3) := by decide +kernel
theorem dX11_settle_45 : decode cX11_settle 45 = .ok (.goto (-43), 3) := by decide +kernel
theorem dX11_settle_48 : decode cX11_settle 48 = .ok (.aload_n 0, 1) := by decide +kernel
theorem dX11_settle_49 : decode cX11_settle 49 = .ok (.getfield 68, 3) := by decide +kernel
theorem dX11_settle_52 : decode cX11_settle 52 = .ok (.ifCond .ne 5, 3) := by decide +kernel
theorem dX11_settle_55 : decode cX11_settle 55 = .ok (.iconst 0, 1) := by decide +kernel
theorem dX11_settle_56 : decode cX11_settle 56 = .ok (.ireturn, 1) := by decide +kernel
theorem dX11_settle_57 : decode cX11_settle 57 = .ok (.iconst 0, 1) := by decide +kernel
theorem dX11_settle_58 : decode cX11_settle 58 = .ok (.istore_n 1, 1) := by decide +kernel
theorem dX11_settle_59 : decode cX11_settle 59 = .ok (.iload_n 1, 1) := by decide +kernel
theorem dX11_settle_60 : decode cX11_settle 60 = .ok (.bipush 8, 2) := by decide +kernel
theorem dX11_settle_62 : decode cX11_settle 62 = .ok (.if_icmp .ge 33, 3) := by decide +kernel
theorem dX11_settle_65 : decode cX11_settle 65 = .ok (.aload_n 0, 1) := by decide +kernel
theorem dX11_settle_66 : decode cX11_settle 66 = .ok (.getfield 32, 3) := by decide +kernel
theorem dX11_settle_69 : decode cX11_settle 69 = .ok (.iload_n 1, 1) := by decide +kernel
theorem dX11_settle_70 : decode cX11_settle 70 = .ok (.aload_n 0, 1) := by decide +kernel
theorem dX11_settle_71 : decode cX11_settle 71 = .ok (.getfield 7, 3) := by decide +kernel
theorem dX11_settle_74 : decode cX11_settle 74 = .ok (.iload_n 1, 1) := by decide +kernel
theorem dX11_settle_75 : decode cX11_settle 75 = .ok (.iaload, 1) := by decide +kernel
theorem dX11_settle_76 : decode cX11_settle 76 = .ok (.ifCond .le 11, 3) := by decide +kernel
theorem dX11_settle_79 : decode cX11_settle 79 = .ok (.aload_n 0, 1) := by decide +kernel
theorem dX11_settle_80 : decode cX11_settle 80 = .ok (.iload_n 1, 1) := by decide +kernel
theorem dX11_settle_81 : decode cX11_settle 81 = .ok (.invokevirtual 144, 3) := by decide +kernel
theorem dX11_settle_84 : decode cX11_settle 84 = .ok (.goto 4, 3) := by decide +kernel
theorem dX11_settle_87 : decode cX11_settle 87 = .ok (.iconst 0, 1) := by decide +kernel
theorem dX11_settle_88 : decode cX11_settle 88 = .ok (.iastore, 1) := by decide +kernel
theorem dX11_settle_89 : decode cX11_settle 89 = .ok (.iinc 1 1, 3) := by decide +kernel
theorem dX11_settle_92 : decode cX11_settle 92 = .ok (.goto (-33), 3) := by decide +kernel
theorem dX11_settle_95 : decode cX11_settle 95 = .ok (.aload_n 0, 1) := by decide +kernel
theorem dX11_settle_96 : decode cX11_settle 96 = .ok (.invokevirtual 129, 3) := by decide +kernel
theorem dX11_settle_99 : decode cX11_settle 99 = .ok (.iconst 1, 1) := by decide +kernel
theorem dX11_settle_100 : decode cX11_settle 100 = .ok (.ireturn, 1) := by decide +kernel
theorem dX11_setRow_0 : decode cX11_setRow 0 = .ok (.aload_n 0, 1) := by decide +kernel
theorem dX11_setRow_1 : decode cX11_setRow 1 = .ok (.getfield 53, 3) := by decide +kernel
theorem dX11_setRow_4 : decode cX11_setRow 4 = .ok (.iconst 0, 1) := by decide +kernel
theorem dX11_setRow_5 : decode cX11_setRow 5 = .ok (.iload_n 1, 1) := by decide +kernel
theorem dX11_setRow_6 : decode cX11_setRow 6 = .ok (.iastore, 1) := by decide +kernel
theorem dX11_setRow_7 : decode cX11_setRow 7 = .ok (.aload_n 0, 1) := by decide +kernel
theorem dX11_setRow_8 : decode cX11_setRow 8 = .ok (.getfield 53, 3) := by decide +kernel
theorem dX11_setRow_11 : decode cX11_setRow 11 = .ok (.iconst 1, 1) := by decide +kernel
theorem dX11_setRow_12 : decode cX11_setRow 12 = .ok (.iload_n 2, 1) := by decide +kernel
theorem dX11_setRow_13 : decode cX11_setRow 13 = .ok (.iastore, 1) := by decide +kernel
theorem dX11_setRow_14 : decode cX11_setRow 14 = .ok (.aload_n 0, 1) := by decide +kernel
theorem dX11_setRow_15 : decode cX11_setRow 15 = .ok (.getfield 53, 3) := by decide +kernel
theorem dX11_setRow_18 : decode cX11_setRow 18 = .ok (.iconst 2, 1) := by decide +kernel
theorem dX11_setRow_19 : decode cX11_setRow 19 = .ok (.iload_n 3, 1) := by decide +kernel
theorem dX11_setRow_20 : decode cX11_setRow 20 = .ok (.iastore, 1) := by decide +kernel
theorem dX11_setRow_21 : decode cX11_setRow 21 = .ok (.aload_n 0, 1) := by decide +kernel
theorem dX11_setRow_22 : decode cX11_setRow 22 = .ok (.getfield 53, 3) := by decide +kernel
theorem dX11_setRow_25 : decode cX11_setRow 25 = .ok (.iconst 3, 1) := by decide +kernel
theorem dX11_setRow_26 : decode cX11_setRow 26 = .ok (.iload 4, 2) := by decide +kernel
theorem dX11_setRow_28 : decode cX11_setRow 28 = .ok (.iastore, 1) := by decide +kernel
theorem dX11_setRow_29 : decode cX11_setRow 29 = .ok (.return_, 1) := by decide +kernel
theorem dX11_timesHere_0 : decode cX11_timesHere 0 = .ok (.iconst 0, 1) := by decide +kernel
theorem dX11_timesHere_1 : decode cX11_timesHere 1 = .ok (.istore_n 2, 1) := by decide +kernel
theorem dX11_timesHere_2 : decode cX11_timesHere 2 = .ok (.iload_n 2, 1) := by decide +kernel
theorem dX11_timesHere_3 : decode cX11_timesHere 3 = .ok (.bipush 8, 2) := by decide +kernel
theorem dX11_timesHere_5 : decode cX11_timesHere 5 = .ok (.if_icmp .ge 21, 3) := by decide +kernel
theorem dX11_timesHere_8 : decode cX11_timesHere 8 = .ok (.aload_n 0, 1) := by decide +kernel
theorem dX11_timesHere_9 : decode cX11_timesHere 9 = .ok (.getfield 50, 3) := by decide +kernel
theorem dX11_timesHere_12 : decode cX11_timesHere 12 = .ok (.iload_n 2, 1) := by decide +kernel
theorem dX11_timesHere_13 : decode cX11_timesHere 13 = .ok (.aload_n 0, 1) := by decide +kernel
theorem dX11_timesHere_14 : decode cX11_timesHere 14 = .ok (.getfield 41, 3) := by decide +kernel
theorem dX11_timesHere_17 : decode cX11_timesHere 17 = .ok (.iload_n 2, 1) := by decide +kernel
theorem dX11_timesHere_18 : decode cX11_timesHere 18 = .ok (.iaload, 1) := by decide +kernel
theorem dX11_timesHere_19 : decode cX11_timesHere 19 = .ok (.iastore, 1) := by decide +kernel
theorem dX11_timesHere_20 : decode cX11_timesHere 20 = .ok (.iinc 2 1, 3) := by decide +kernel
theorem dX11_timesHere_23 : decode cX11_timesHere 23 = .ok (.goto (-21), 3) := by decide +kernel
theorem dX11_timesHere_26 : decode cX11_timesHere 26 = .ok (.iconst 0, 1) := by decide +kernel
theorem dX11_timesHere_27 : decode cX11_timesHere 27 = .ok (.istore_n 2, 1) := by decide +kernel
theorem dX11_timesHere_28 : decode cX11_timesHere 28 = .ok (.iload_n 2, 1) := by decide +kernel
theorem dX11_timesHere_29 : decode cX11_timesHere 29 = .ok (.aload_n 0, 1) := by decide +kernel
theorem dX11_timesHere_30 : decode cX11_timesHere 30 = .ok (.getfield 41, 3) := by decide +kernel
theorem dX11_timesHere_33 : decode cX11_timesHere 33 = .ok (.iload_n 1, 1) := by decide +kernel
theorem dX11_timesHere_34 : decode cX11_timesHere 34 = .ok (.iaload, 1) := by decide +kernel
theorem dX11_timesHere_35 : decode cX11_timesHere 35 = .ok (.if_icmp .ge 83, 3) := by decide +kernel
theorem dX11_timesHere_38 : decode cX11_timesHere 38 = .ok (.iconst 1, 1) := by decide +kernel
theorem dX11_timesHere_39 : decode cX11_timesHere 39 = .ok (.istore_n 3, 1) := by decide +kernel
theorem dX11_timesHere_40 : decode cX11_timesHere 40 = .ok (.iconst 0, 1) := by decide +kernel
theorem dX11_timesHere_41 : decode cX11_timesHere 41 = .ok (.istore 4, 2) := by decide +kernel
theorem dX11_timesHere_43 : decode cX11_timesHere 43 = .ok (.iload_n 3, 1) := by decide +kernel
theorem dX11_timesHere_44 : decode cX11_timesHere 44 = .ok (.ifCond .eq 52, 3) := by decide +kernel
theorem dX11_timesHere_47 : decode cX11_timesHere 47 = .ok (.iload 4, 2) := by decide +kernel
theorem dX11_timesHere_49 : decode cX11_timesHere 49 = .ok (.aload_n 0, 1) := by decide +kernel
theorem dX11_timesHere_50 : decode cX11_timesHere 50 = .ok (.getfield 13, 3) := by decide +kernel
theorem dX11_timesHere_53 : decode cX11_timesHere 53 = .ok (.iload_n 1, 1) := by decide +kernel
theorem dX11_timesHere_54 : decode cX11_timesHere 54 = .ok (.iaload, 1) := by decide +kernel
theorem dX11_timesHere_55 : decode cX11_timesHere 55 = .ok (.if_icmp .ge 41, 3) := by decide +kernel
theorem dX11_timesHere_58 : decode cX11_timesHere 58 = .ok (.aload_n 0, 1) := by decide +kernel
theorem dX11_timesHere_59 : decode cX11_timesHere 59 = .ok (.getfield 35, 3) := by decide +kernel
theorem dX11_timesHere_62 : decode cX11_timesHere 62 = .ok (.iconst 4, 1) := by decide +kernel
theorem dX11_timesHere_63 : decode cX11_timesHere 63 = .ok (.bipush 20, 2) := by decide +kernel
theorem dX11_timesHere_65 : decode cX11_timesHere 65 = .ok (.iload_n 1, 1) := by decide +kernel
theorem dX11_timesHere_66 : decode cX11_timesHere 66 = .ok (.imul, 1) := by decide +kernel
theorem dX11_timesHere_67 : decode cX11_timesHere 67 = .ok (.iload_n 2, 1) := by decide +kernel
theorem dX11_timesHere_68 : decode cX11_timesHere 68 = .ok (.iadd, 1) := by decide +kernel
theorem dX11_timesHere_69 : decode cX11_timesHere 69 = .ok (.imul, 1) := by decide +kernel
theorem dX11_timesHere_70 : decode cX11_timesHere 70 = .ok (.iload 4, 2) := by decide +kernel
theorem dX11_timesHere_72 : decode cX11_timesHere 72 = .ok (.iadd, 1) := by decide +kernel
theorem dX11_timesHere_73 : decode cX11_timesHere 73 = .ok (.iaload, 1) := by decide +kernel
theorem dX11_timesHere_74 : decode cX11_timesHere 74 = .ok (.aload_n 0, 1) := by decide +kernel
theorem dX11_timesHere_75 : decode cX11_timesHere 75 = .ok (.getfield 53, 3) := by decide +kernel
theorem dX11_timesHere_78 : decode cX11_timesHere 78 = .ok (.iload 4, 2) := by decide +kernel
theorem dX11_timesHere_80 : decode cX11_timesHere 80 = .ok (.iaload, 1) := by decide +kernel
theorem dX11_timesHere_81 : decode cX11_timesHere 81 = .ok (.if_icmp .ne 7, 3) := by decide +kernel
theorem dX11_timesHere_84 : decode cX11_timesHere 84 = .ok (.iconst 1, 1) := by decide +kernel
theorem dX11_timesHere_85 : decode cX11_timesHere 85 = .ok (.goto 4, 3) := by decide +kernel
theorem dX11_timesHere_88 : decode cX11_timesHere 88 = .ok (.iconst 0, 1) := by decide +kernel
theorem dX11_timesHere_89 : decode cX11_timesHere 89 = .ok (.istore_n 3, 1) := by decide +kernel
theorem dX11_timesHere_90 : decode cX11_timesHere 90 = .ok (.iinc 4 1, 3) := by decide +kernel
theorem dX11_timesHere_93 : decode cX11_timesHere 93 = .ok (.goto (-50), 3) := by decide +kernel
theorem dX11_timesHere_96 : decode cX11_timesHere 96 = .ok (.iload_n 3, 1) := by decide +kernel
theorem dX11_timesHere_97 : decode cX11_timesHere 97 = .ok (.ifCond .eq 15, 3) := by decide +kernel
theorem dX11_timesHere_100 : decode cX11_timesHere 100 = .ok (.aload_n 0, 1) := by decide +kernel
theorem dX11_timesHere_101 : decode cX11_timesHere 101 = .ok (.getfield 38, 3) := by decide +kernel
theorem dX11_timesHere_104 : decode cX11_timesHere 104 = .ok (.bipush 20, 2) := by decide +kernel
theorem dX11_timesHere_106 : decode cX11_timesHere 106 = .ok (.iload_n 1, 1) := by decide +kernel
theorem dX11_timesHere_107 : decode cX11_timesHere 107 = .ok (.imul, 1) := by decide +kernel
theorem dX11_timesHere_108 : decode cX11_timesHere 108 = .ok (.iload_n 2, 1) := by decide +kernel
theorem dX11_timesHere_109 : decode cX11_timesHere 109 = .ok (.iadd, 1) := by decide +kernel
theorem dX11_timesHere_110 : decode cX11_timesHere 110 = .ok (.iaload, 1) := by decide +kernel
theorem dX11_timesHere_111 : decode cX11_timesHere 111 = .ok (.ireturn, 1) := by decide +kernel
theorem dX11_timesHere_112 : decode cX11_timesHere 112 = .ok (.iinc 2 1, 3) := by decide +kernel
theorem dX11_timesHere_115 : decode cX11_timesHere 115 = .ok (.goto (-87), 3) := by decide +kernel
theorem dX11_timesHere_118 : decode cX11_timesHere 118 = .ok (.iconst 0, 1) := by decide +kernel
theorem dX11_timesHere_119 : decode cX11_timesHere 119 = .ok (.ireturn, 1) := by decide +kernel
theorem dX11_put_0 : decode cX11_put 0 = .ok (.aload_n 0, 1) := by decide +kernel
theorem dX11_put_1 : decode cX11_put 1 = .ok (.iload_n 2, 1) := by decide +kernel
theorem dX11_put_2 : decode cX11_put 2 = .ok (.iload_n 3, 1) := by decide +kernel
theorem dX11_put_3 : decode cX11_put 3 = .ok (.iload 4, 2) := by decide +kernel
theorem dX11_put_5 : decode cX11_put 5 = .ok (.iload 5, 2) := by decide +kernel
theorem dX11_put_7 : decode cX11_put 7 = .ok (.invokevirtual 147, 3) := by decide +kernel
theorem dX11_put_10 : decode cX11_put 10 = .ok (.iload 6, 2) := by decide +kernel
theorem dX11_put_12 : decode cX11_put 12 = .ok (.ifCond .eq 21, 3) := by decide +kernel
theorem dX11_put_15 : decode cX11_put 15 = .ok (.iload 6, 2) := by decide +kernel
theorem dX11_put_17 : decode cX11_put 17 = .ok (.ldc 151, 2) := by decide +kernel
theorem dX11_put_19 : decode cX11_put 19 = .ok (.if_icmp .lt 14, 3) := by decide +kernel
theorem dX11_put_22 : decode cX11_put 22 = .ok (.iload 6, 2) := by decide +kernel
theorem dX11_put_24 : decode cX11_put 24 = .ok (.ldc 152, 2) := by decide +kernel
theorem dX11_put_26 : decode cX11_put 26 = .ok (.if_icmp .gt 7, 3) := by decide +kernel
theorem dX11_put_29 : decode cX11_put 29 = .ok (.iconst 1, 1) := by decide +kernel
theorem dX11_put_30 : decode cX11_put 30 = .ok (.goto 4, 3) := by decide +kernel
theorem dX11_put_33 : decode cX11_put 33 = .ok (.iconst 0, 1) := by decide +kernel
theorem dX11_put_34 : decode cX11_put 34 = .ok (.istore 7, 2) := by decide +kernel
theorem dX11_put_36 : decode cX11_put 36 = .ok (.aload_n 0, 1) := by decide +kernel
theorem dX11_put_37 : decode cX11_put 37 = .ok (.aload_n 0, 1) := by decide +kernel
theorem dX11_put_38 : decode cX11_put 38 = .ok (.iload_n 1, 1) := by decide +kernel
theorem dX11_put_39 : decode cX11_put 39 = .ok (.invokevirtual 113, 3) := by decide +kernel
theorem dX11_put_42 : decode cX11_put 42 = .ok (.ifCond .ne 7, 3) := by decide +kernel
theorem dX11_put_45 : decode cX11_put 45 = .ok (.iconst 1, 1) := by decide +kernel
theorem dX11_put_46 : decode cX11_put 46 = .ok (.goto 38, 3) := by decide +kernel
theorem dX11_put_49 : decode cX11_put 49 = .ok (.aload_n 0, 1) := by decide +kernel
theorem dX11_put_50 : decode cX11_put 50 = .ok (.getfield 7, 3) := by decide +kernel
theorem dX11_put_53 : decode cX11_put 53 = .ok (.iload_n 1, 1) := by decide +kernel
theorem dX11_put_54 : decode cX11_put 54 = .ok (.iaload, 1) := by decide +kernel
theorem dX11_put_55 : decode cX11_put 55 = .ok (.iconst 1, 1) := by decide +kernel
theorem dX11_put_56 : decode cX11_put 56 = .ok (.if_icmp .eq 7, 3) := by decide +kernel
theorem dX11_put_59 : decode cX11_put 59 = .ok (.iconst 2, 1) := by decide +kernel
theorem dX11_put_60 : decode cX11_put 60 = .ok (.goto 24, 3) := by decide +kernel
theorem dX11_put_63 : decode cX11_put 63 = .ok (.iload 7, 2) := by decide +kernel
theorem dX11_put_65 : decode cX11_put 65 = .ok (.ifCond .eq 14, 3) := by decide +kernel
theorem dX11_put_68 : decode cX11_put 68 = .ok (.aload_n 0, 1) := by decide +kernel
theorem dX11_put_69 : decode cX11_put 69 = .ok (.iload_n 1, 1) := by decide +kernel
theorem dX11_put_70 : decode cX11_put 70 = .ok (.invokevirtual 153, 3) := by decide +kernel
theorem dX11_put_73 : decode cX11_put 73 = .ok (.iload 6, 2) := by decide +kernel
theorem dX11_put_75 : decode cX11_put 75 = .ok (.iadd, 1) := by decide +kernel
theorem dX11_put_76 : decode cX11_put 76 = .ok (.ifCond .ge 7, 3) := by decide +kernel
theorem dX11_put_79 : decode cX11_put 79 = .ok (.iconst 3, 1) := by decide +kernel
theorem dX11_put_80 : decode cX11_put 80 = .ok (.goto 4, 3) := by decide +kernel
theorem dX11_put_83 : decode cX11_put 83 = .ok (.iconst 0, 1) := by decide +kernel
theorem dX11_put_84 : decode cX11_put 84 = .ok (.putfield 56, 3) := by decide +kernel
theorem dX11_put_87 : decode cX11_put 87 = .ok (.aload_n 0, 1) := by decide +kernel
theorem dX11_put_88 : decode cX11_put 88 = .ok (.getfield 56, 3) := by decide +kernel
theorem dX11_put_91 : decode cX11_put 91 = .ok (.ifCond .le 5, 3) := by decide +kernel
theorem dX11_put_94 : decode cX11_put 94 = .ok (.iconst 0, 1) := by decide +kernel
theorem dX11_put_95 : decode cX11_put 95 = .ok (.ireturn, 1) := by decide +kernel
theorem dX11_put_96 : decode cX11_put 96 = .ok (.aload_n 0, 1) := by decide +kernel
theorem dX11_put_97 : decode cX11_put 97 = .ok (.invokevirtual 123, 3) := by decide +kernel
theorem dX11_put_100 : decode cX11_put 100 = .ok (.aload_n 0, 1) := by decide +kernel
theorem dX11_put_101 : decode cX11_put 101 = .ok (.iload_n 1, 1) := by decide +kernel
theorem dX11_put_102 : decode cX11_put 102 = .ok (.iload 6, 2) := by decide +kernel
theorem dX11_put_104 : decode cX11_put 104 = .ok (.invokevirtual 156, 3) := by decide +kernel
theorem dX11_put_107 : decode cX11_put 107 = .ok (.aload_n 0, 1) := by decide +kernel
theorem dX11_put_108 : decode cX11_put 108 = .ok (.aload_n 0, 1) := by decide +kernel
theorem dX11_put_109 : decode cX11_put 109 = .ok (.invokevirtual 159, 3) := by decide +kernel
theorem dX11_put_112 : decode cX11_put 112 = .ok (.ifCond .eq 7, 3) := by decide +kernel
theorem dX11_put_115 : decode cX11_put 115 = .ok (.iconst 0, 1) := by decide +kernel
theorem dX11_put_116 : decode cX11_put 116 = .ok (.goto 4, 3) := by decide +kernel
theorem dX11_put_119 : decode cX11_put 119 = .ok (.iconst 4, 1) := by decide +kernel
theorem dX11_put_120 : decode cX11_put 120 = .ok (.putfield 56, 3) := by decide +kernel
theorem dX11_put_123 : decode cX11_put 123 = .ok (.aload_n 0, 1) := by decide +kernel
theorem dX11_put_124 : decode cX11_put 124 = .ok (.iload_n 2, 1) := by decide +kernel
theorem dX11_put_125 : decode cX11_put 125 = .ok (.iload_n 3, 1) := by decide +kernel
theorem dX11_put_126 : decode cX11_put 126 = .ok (.iload 4, 2) := by decide +kernel
theorem dX11_put_128 : decode cX11_put 128 = .ok (.iload 5, 2) := by decide +kernel
theorem dX11_put_130 : decode cX11_put 130 = .ok (.invokevirtual 147, 3) := by decide +kernel
theorem dX11_put_133 : decode cX11_put 133 = .ok (.aload_n 0, 1) := by decide +kernel
theorem dX11_put_134 : decode cX11_put 134 = .ok (.getfield 56, 3) := by decide +kernel
theorem dX11_put_137 : decode cX11_put 137 = .ok (.ifCond .le 7, 3) := by decide +kernel
theorem dX11_put_140 : decode cX11_put 140 = .ok (.iconst 0, 1) := by decide +kernel
theorem dX11_put_141 : decode cX11_put 141 = .ok (.goto 8, 3) := by decide +kernel
theorem dX11_put_144 : decode cX11_put 144 = .ok (.aload_n 0, 1) := by decide +kernel
theorem dX11_put_145 : decode cX11_put 145 = .ok (.iload_n 1, 1) := by decide +kernel
theorem dX11_put_146 : decode cX11_put 146 = .ok (.invokevirtual 153, 3) := by decide +kernel
theorem dX11_put_149 : decode cX11_put 149 = .ok (.ireturn, 1) := by decide +kernel
theorem dX11_fill_0 : decode cX11_fill 0 = .ok (.aload_n 0, 1) := by decide +kernel
theorem dX11_fill_1 : decode cX11_fill 1 = .ok (.aload_n 0, 1) := by decide +kernel
theorem dX11_fill_2 : decode cX11_fill 2 = .ok (.iload_n 1, 1) := by decide +kernel
theorem dX11_fill_3 : decode cX11_fill 3 = .ok (.invokevirtual 113, 3) := by decide +kernel
theorem dX11_fill_6 : decode cX11_fill 6 = .ok (.ifCond .ne 7, 3) := by decide +kernel
theorem dX11_fill_9 : decode cX11_fill 9 = .ok (.iconst 1, 1) := by decide +kernel
theorem dX11_fill_10 : decode cX11_fill 10 = .ok (.goto 35, 3) := by decide +kernel
theorem dX11_fill_13 : decode cX11_fill 13 = .ok (.aload_n 0, 1) := by decide +kernel
theorem dX11_fill_14 : decode cX11_fill 14 = .ok (.getfield 7, 3) := by decide +kernel
theorem dX11_fill_17 : decode cX11_fill 17 = .ok (.iload_n 1, 1) := by decide +kernel
theorem dX11_fill_18 : decode cX11_fill 18 = .ok (.iaload, 1) := by decide +kernel
theorem dX11_fill_19 : decode cX11_fill 19 = .ok (.iconst 1, 1) := by decide +kernel
theorem dX11_fill_20 : decode cX11_fill 20 = .ok (.if_icmp .eq 7, 3) := by decide +kernel
theorem dX11_fill_23 : decode cX11_fill 23 = .ok (.iconst 2, 1) := by decide +kernel
theorem dX11_fill_24 : decode cX11_fill 24 = .ok (.goto 21, 3) := by decide +kernel
theorem dX11_fill_27 : decode cX11_fill 27 = .ok (.iload 6, 2) := by decide +kernel
theorem dX11_fill_29 : decode cX11_fill 29 = .ok (.iconst 1, 1) := by decide +kernel
theorem dX11_fill_30 : decode cX11_fill 30 = .ok (.if_icmp .lt 10, 3) := by decide +kernel
theorem dX11_fill_33 : decode cX11_fill 33 = .ok (.iload 6, 2) := by decide +kernel
theorem dX11_fill_35 : decode cX11_fill 35 = .ok (.bipush 40, 2) := by decide +kernel
theorem dX11_fill_37 : decode cX11_fill 37 = .ok (.if_icmp .le 7, 3) := by decide +kernel
theorem dX11_fill_40 : decode cX11_fill 40 = .ok (.iconst 3, 1) := by decide +kernel
theorem dX11_fill_41 : decode cX11_fill 41 = .ok (.goto 4, 3) := by decide +kernel
theorem dX11_fill_44 : decode cX11_fill 44 = .ok (.iconst 0, 1) := by decide +kernel
theorem dX11_fill_45 : decode cX11_fill 45 = .ok (.putfield 56, 3) := by decide +kernel
theorem dX11_fill_48 : decode cX11_fill 48 = .ok (.aload_n 0, 1) := by decide +kernel
theorem dX11_fill_49 : decode cX11_fill 49 = .ok (.getfield 56, 3) := by decide +kernel
theorem dX11_fill_52 : decode cX11_fill 52 = .ok (.ifCond .le 5, 3) := by decide +kernel
theorem dX11_fill_55 : decode cX11_fill 55 = .ok (.iconst 0, 1) := by decide +kernel
theorem dX11_fill_56 : decode cX11_fill 56 = .ok (.ireturn, 1) := by decide +kernel
theorem dX11_fill_57 : decode cX11_fill 57 = .ok (.aload_n 0, 1) := by decide +kernel
theorem dX11_fill_58 : decode cX11_fill 58 = .ok (.invokevirtual 123, 3) := by decide +kernel
theorem dX11_fill_61 : decode cX11_fill 61 = .ok (.iconst 0, 1) := by decide +kernel
theorem dX11_fill_62 : decode cX11_fill 62 = .ok (.istore 7, 2) := by decide +kernel
theorem dX11_fill_64 : decode cX11_fill 64 = .ok (.iload 7, 2) := by decide +kernel
theorem dX11_fill_66 : decode cX11_fill 66 = .ok (.iload 6, 2) := by decide +kernel
theorem dX11_fill_68 : decode cX11_fill 68 = .ok (.if_icmp .ge 35, 3) := by decide +kernel
theorem dX11_fill_71 : decode cX11_fill 71 = .ok (.aload_n 0, 1) := by decide +kernel
theorem dX11_fill_72 : decode cX11_fill 72 = .ok (.iload_n 2, 1) := by decide +kernel
theorem dX11_fill_73 : decode cX11_fill 73 = .ok (.iload 7, 2) := by decide +kernel
theorem dX11_fill_75 : decode cX11_fill 75 = .ok (.iload_n 3, 1) := by decide +kernel
theorem dX11_fill_76 : decode cX11_fill 76 = .ok (.imul, 1) := by decide +kernel
theorem dX11_fill_77 : decode cX11_fill 77 = .ok (.iadd, 1) := by decide +kernel
theorem dX11_fill_78 : decode cX11_fill 78 = .ok (.iload 4, 2) := by decide +kernel
theorem dX11_fill_80 : decode cX11_fill 80 = .ok (.iload 7, 2) := by decide +kernel
theorem dX11_fill_82 : decode cX11_fill 82 = .ok (.iload 5, 2) := by decide +kernel
theorem dX11_fill_84 : decode cX11_fill 84 = .ok (.imul, 1) := by decide +kernel
theorem dX11_fill_85 : decode cX11_fill 85 = .ok (.iadd, 1) := by decide +kernel
theorem dX11_fill_86 : decode cX11_fill 86 = .ok (.iconst 0, 1) := by decide +kernel
theorem dX11_fill_87 : decode cX11_fill 87 = .ok (.iconst 0, 1) := by decide +kernel
theorem dX11_fill_88 : decode cX11_fill 88 = .ok (.invokevirtual 147, 3) := by decide +kernel
theorem dX11_fill_91 : decode cX11_fill 91 = .ok (.aload_n 0, 1) := by decide +kernel
theorem dX11_fill_92 : decode cX11_fill 92 = .ok (.iload_n 1, 1) := by decide +kernel
theorem dX11_fill_93 : decode cX11_fill 93 = .ok (.iconst 1, 1) := by decide +kernel
theorem dX11_fill_94 : decode cX11_fill 94 = .ok (.invokevirtual 156, 3) := by decide +kernel
theorem dX11_fill_97 : decode cX11_fill 97 = .ok (.iinc 7 1, 3) := by decide +kernel
theorem dX11_fill_100 : decode cX11_fill 100 = .ok (.goto (-36), 3) := by decide +kernel
theorem dX11_fill_103 : decode cX11_fill 103 = .ok (.aload_n 0, 1) := by decide +kernel
theorem dX11_fill_104 : decode cX11_fill 104 = .ok (.aload_n 0, 1) := by decide +kernel
theorem dX11_fill_105 : decode cX11_fill 105 = .ok (.invokevirtual 159, 3) := by decide +kernel
theorem dX11_fill_108 : decode cX11_fill 108 = .ok (.ifCond .eq 7, 3) := by decide +kernel
theorem dX11_fill_111 : decode cX11_fill 111 = .ok (.iconst 0, 1) := by decide +kernel
theorem dX11_fill_112 : decode cX11_fill 112 = .ok (.goto 4, 3) := by decide +kernel
theorem dX11_fill_115 : decode cX11_fill 115 = .ok (.iconst 4, 1) := by decide +kernel
theorem dX11_fill_116 : decode cX11_fill 116 = .ok (.putfield 56, 3) := by decide +kernel
theorem dX11_fill_119 : decode cX11_fill 119 = .ok (.aload_n 0, 1) := by decide +kernel
theorem dX11_fill_120 : decode cX11_fill 120 = .ok (.getfield 56, 3) := by decide +kernel
theorem dX11_fill_123 : decode cX11_fill 123 = .ok (.ifCond .le 7, 3) := by decide +kernel
theorem dX11_fill_126 : decode cX11_fill 126 = .ok (.iconst 0, 1) := by decide +kernel
theorem dX11_fill_127 : decode cX11_fill 127 = .ok (.goto 9, 3) := by decide +kernel
theorem dX11_fill_130 : decode cX11_fill 130 = .ok (.aload_n 0, 1) := by decide +kernel
theorem dX11_fill_131 : decode cX11_fill 131 = .ok (.getfield 41, 3) := by decide +kernel
theorem dX11_fill_134 : decode cX11_fill 134 = .ok (.iload_n 1, 1) := by decide +kernel
theorem dX11_fill_135 : decode cX11_fill 135 = .ok (.iaload, 1) := by decide +kernel
theorem dX11_fill_136 : decode cX11_fill 136 = .ok (.ireturn, 1) := by decide +kernel
theorem dX11_width_0 : decode cX11_width 0 = .ok (.aload_n 0, 1) := by decide +kernel
theorem dX11_width_1 : decode cX11_width 1 = .ok (.iload_n 1, 1) := by decide +kernel
theorem dX11_width_2 : decode cX11_width 2 = .ok (.invokestatic 109, 3) := by decide +kernel
theorem dX11_width_5 : decode cX11_width 5 = .ok (.ifCond .eq 7, 3) := by decide +kernel
theorem dX11_width_8 : decode cX11_width 8 = .ok (.iconst 0, 1) := by decide +kernel
theorem dX11_width_9 : decode cX11_width 9 = .ok (.goto 4, 3) := by decide +kernel
theorem dX11_width_12 : decode cX11_width 12 = .ok (.iconst 1, 1) := by decide +kernel
theorem dX11_width_13 : decode cX11_width 13 = .ok (.putfield 56, 3) := by decide +kernel
theorem dX11_width_16 : decode cX11_width 16 = .ok (.aload_n 0, 1) := by decide +kernel
theorem dX11_width_17 : decode cX11_width 17 = .ok (.getfield 56, 3) := by decide +kernel
theorem dX11_width_20 : decode cX11_width 20 = .ok (.ifCond .le 7, 3) := by decide +kernel
theorem dX11_width_23 : decode cX11_width 23 = .ok (.iconst 0, 1) := by decide +kernel
theorem dX11_width_24 : decode cX11_width 24 = .ok (.goto 9, 3) := by decide +kernel
theorem dX11_width_27 : decode cX11_width 27 = .ok (.aload_n 0, 1) := by decide +kernel
theorem dX11_width_28 : decode cX11_width 28 = .ok (.getfield 13, 3) := by decide +kernel
theorem dX11_width_31 : decode cX11_width 31 = .ok (.iload_n 1, 1) := by decide +kernel
theorem dX11_width_32 : decode cX11_width 32 = .ok (.iaload, 1) := by decide +kernel
theorem dX11_width_33 : decode cX11_width 33 = .ok (.ireturn, 1) := by decide +kernel
theorem dX11_rows_0 : decode cX11_rows 0 = .ok (.aload_n 0, 1) := by decide +kernel
theorem dX11_rows_1 : decode cX11_rows 1 = .ok (.aload_n 0, 1) := by decide +kernel
theorem dX11_rows_2 : decode cX11_rows 2 = .ok (.iload_n 1, 1) := by decide +kernel
theorem dX11_rows_3 : decode cX11_rows 3 = .ok (.invokevirtual 113, 3) := by decide +kernel
theorem dX11_rows_6 : decode cX11_rows 6 = .ok (.ifCond .eq 7, 3) := by decide +kernel
theorem dX11_rows_9 : decode cX11_rows 9 = .ok (.iconst 0, 1) := by decide +kernel
theorem dX11_rows_10 : decode cX11_rows 10 = .ok (.goto 4, 3) := by decide +kernel
theorem dX11_rows_13 : decode cX11_rows 13 = .ok (.iconst 1, 1) := by decide +kernel
theorem dX11_rows_14 : decode cX11_rows 14 = .ok (.putfield 56, 3) := by decide +kernel
theorem dX11_rows_17 : decode cX11_rows 17 = .ok (.aload_n 0, 1) := by decide +kernel
theorem dX11_rows_18 : decode cX11_rows 18 = .ok (.getfield 56, 3) := by decide +kernel
theorem dX11_rows_21 : decode cX11_rows 21 = .ok (.ifCond .le 7, 3) := by decide +kernel
theorem dX11_rows_24 : decode cX11_rows 24 = .ok (.iconst 0, 1) := by decide +kernel
theorem dX11_rows_25 : decode cX11_rows 25 = .ok (.goto 9, 3) := by decide +kernel
theorem dX11_rows_28 : decode cX11_rows 28 = .ok (.aload_n 0, 1) := by decide +kernel
theorem dX11_rows_29 : decode cX11_rows 29 = .ok (.getfield 41, 3) := by decide +kernel
theorem dX11_rows_32 : decode cX11_rows 32 = .ok (.iload_n 1, 1) := by decide +kernel
theorem dX11_rows_33 : decode cX11_rows 33 = .ok (.iaload, 1) := by decide +kernel
theorem dX11_rows_34 : decode cX11_rows 34 = .ok (.ireturn, 1) := by decide +kernel
theorem dX11_size_0 : decode cX11_size 0 = .ok (.aload_n 0, 1) := by decide +kernel
theorem dX11_size_1 : decode cX11_size 1 = .ok (.aload_n 0, 1) := by decide +kernel
theorem dX11_size_2 : decode cX11_size 2 = .ok (.iload_n 1, 1) := by decide +kernel
theorem dX11_size_3 : decode cX11_size 3 = .ok (.invokevirtual 113, 3) := by decide +kernel
theorem dX11_size_6 : decode cX11_size 6 = .ok (.ifCond .eq 7, 3) := by decide +kernel
theorem dX11_size_9 : decode cX11_size 9 = .ok (.iconst 0, 1) := by decide +kernel
theorem dX11_size_10 : decode cX11_size 10 = .ok (.goto 4, 3) := by decide +kernel
theorem dX11_size_13 : decode cX11_size 13 = .ok (.iconst 1, 1) := by decide +kernel
theorem dX11_size_14 : decode cX11_size 14 = .ok (.putfield 56, 3) := by decide +kernel
theorem dX11_size_17 : decode cX11_size 17 = .ok (.lconst 0, 1) := by decide +kernel
theorem dX11_size_18 : decode cX11_size 18 = .ok (.lstore_n 2, 1) := by decide +kernel
theorem dX11_size_19 : decode cX11_size 19 = .ok (.iconst 0, 1) := by decide +kernel
theorem dX11_size_20 : decode cX11_size 20 = .ok (.istore 4, 2) := by decide +kernel
theorem dX11_size_22 : decode cX11_size 22 = .ok (.aload_n 0, 1) := by decide +kernel
theorem dX11_size_23 : decode cX11_size 23 = .ok (.getfield 56, 3) := by decide +kernel
theorem dX11_size_26 : decode cX11_size 26 = .ok (.ifCond .ne 36, 3) := by decide +kernel
theorem dX11_size_29 : decode cX11_size 29 = .ok (.iload 4, 2) := by decide +kernel
theorem dX11_size_31 : decode cX11_size 31 = .ok (.aload_n 0, 1) := by decide +kernel
theorem dX11_size_32 : decode cX11_size 32 = .ok (.getfield 41, 3) := by decide +kernel
theorem dX11_size_35 : decode cX11_size 35 = .ok (.iload_n 1, 1) := by decide +kernel
theorem dX11_size_36 : decode cX11_size 36 = .ok (.iaload, 1) := by decide +kernel
theorem dX11_size_37 : decode cX11_size 37 = .ok (.if_icmp .ge 25, 3) := by decide +kernel
theorem dX11_size_40 : decode cX11_size 40 = .ok (.lload_n 2, 1) := by decide +kernel
theorem dX11_size_41 : decode cX11_size 41 = .ok (.aload_n 0, 1) := by decide +kernel
theorem dX11_size_42 : decode cX11_size 42 = .ok (.getfield 38, 3) := by decide +kernel
theorem dX11_size_45 : decode cX11_size 45 = .ok (.bipush 20, 2) := by decide +kernel
theorem dX11_size_47 : decode cX11_size 47 = .ok (.iload_n 1, 1) := by decide +kernel
theorem dX11_size_48 : decode cX11_size 48 = .ok (.imul, 1) := by decide +kernel
theorem dX11_size_49 : decode cX11_size 49 = .ok (.iload 4, 2) := by decide +kernel
theorem dX11_size_51 : decode cX11_size 51 = .ok (.iadd, 1) := by decide +kernel
theorem dX11_size_52 : decode cX11_size 52 = .ok (.iaload, 1) := by decide +kernel
theorem dX11_size_53 : decode cX11_size 53 = .ok (.i2l, 1) := by decide +kernel
theorem dX11_size_54 : decode cX11_size 54 = .ok (.ladd, 1) := by decide +kernel
theorem dX11_size_55 : decode cX11_size 55 = .ok (.lstore_n 2, 1) := by decide +kernel
theorem dX11_size_56 : decode cX11_size 56 = .ok (.iinc 4 1, 3) := by decide +kernel
theorem dX11_size_59 : decode cX11_size 59 = .ok (.goto (-37), 3) := by decide +kernel
theorem dX11_size_62 : decode cX11_size 62 = .ok (.lload_n 2, 1) := by decide +kernel
theorem dX11_size_63 : decode cX11_size 63 = .ok (.lreturn, 1) := by decide +kernel
theorem dX11_times_0 : decode cX11_times 0 = .ok (.aload_n 0, 1) := by decide +kernel
theorem dX11_times_1 : decode cX11_times 1 = .ok (.aload_n 0, 1) := by decide +kernel
theorem dX11_times_2 : decode cX11_times 2 = .ok (.iload_n 1, 1) := by decide +kernel
theorem dX11_times_3 : decode cX11_times 3 = .ok (.invokevirtual 113, 3) := by decide +kernel
theorem dX11_times_6 : decode cX11_times 6 = .ok (.ifCond .eq 7, 3) := by decide +kernel
theorem dX11_times_9 : decode cX11_times 9 = .ok (.iconst 0, 1) := by decide +kernel
theorem dX11_times_10 : decode cX11_times 10 = .ok (.goto 4, 3) := by decide +kernel
theorem dX11_times_13 : decode cX11_times 13 = .ok (.iconst 1, 1) := by decide +kernel
theorem dX11_times_14 : decode cX11_times 14 = .ok (.putfield 56, 3) := by decide +kernel
theorem dX11_times_17 : decode cX11_times 17 = .ok (.aload_n 0, 1) := by decide +kernel
theorem dX11_times_18 : decode cX11_times 18 = .ok (.iload_n 2, 1) := by decide +kernel
theorem dX11_times_19 : decode cX11_times 19 = .ok (.iload_n 3, 1) := by decide +kernel
theorem dX11_times_20 : decode cX11_times 20 = .ok (.iload 4, 2) := by decide +kernel
theorem dX11_times_22 : decode cX11_times 22 = .ok (.iload 5, 2) := by decide +kernel
theorem dX11_times_24 : decode cX11_times 24 = .ok (.invokevirtual 147, 3) := by decide +kernel
theorem dX11_times_27 : decode cX11_times 27 = .ok (.aload_n 0, 1) := by decide +kernel
theorem dX11_times_28 : decode cX11_times 28 = .ok (.getfield 56, 3) := by decide +kernel
theorem dX11_times_31 : decode cX11_times 31 = .ok (.ifCond .le 7, 3) := by decide +kernel
theorem dX11_times_34 : decode cX11_times 34 = .ok (.iconst 0, 1) := by decide +kernel
theorem dX11_times_35 : decode cX11_times 35 = .ok (.goto 8, 3) := by decide +kernel
theorem dX11_times_38 : decode cX11_times 38 = .ok (.aload_n 0, 1) := by decide +kernel
theorem dX11_times_39 : decode cX11_times 39 = .ok (.iload_n 1, 1) := by decide +kernel
theorem dX11_times_40 : decode cX11_times 40 = .ok (.invokevirtual 153, 3) := by decide +kernel
theorem dX11_times_43 : decode cX11_times 43 = .ok (.ireturn, 1) := by decide +kernel
theorem dX11_cell_0 : decode cX11_cell 0 = .ok (.aload_n 0, 1) := by decide +kernel
theorem dX11_cell_1 : decode cX11_cell 1 = .ok (.aload_n 0, 1) := by decide +kernel
theorem dX11_cell_2 : decode cX11_cell 2 = .ok (.iload_n 1, 1) := by decide +kernel
theorem dX11_cell_3 : decode cX11_cell 3 = .ok (.invokevirtual 113, 3) := by decide +kernel
theorem dX11_cell_6 : decode cX11_cell 6 = .ok (.ifCond .eq 35, 3) := by decide +kernel
theorem dX11_cell_9 : decode cX11_cell 9 = .ok (.iload_n 2, 1) := by decide +kernel
theorem dX11_cell_10 : decode cX11_cell 10 = .ok (.ifCond .lt 31, 3) := by decide +kernel
theorem dX11_cell_13 : decode cX11_cell 13 = .ok (.iload_n 2, 1) := by decide +kernel
theorem dX11_cell_14 : decode cX11_cell 14 = .ok (.aload_n 0, 1) := by decide +kernel
theorem dX11_cell_15 : decode cX11_cell 15 = .ok (.getfield 41, 3) := by decide +kernel
theorem dX11_cell_18 : decode cX11_cell 18 = .ok (.iload_n 1, 1) := by decide +kernel
theorem dX11_cell_19 : decode cX11_cell 19 = .ok (.iaload, 1) := by decide +kernel
theorem dX11_cell_20 : decode cX11_cell 20 = .ok (.if_icmp .ge 21, 3) := by decide +kernel
theorem dX11_cell_23 : decode cX11_cell 23 = .ok (.iload_n 3, 1) := by decide +kernel
theorem dX11_cell_24 : decode cX11_cell 24 = .ok (.ifCond .lt 17, 3) := by decide +kernel
theorem dX11_cell_27 : decode cX11_cell 27 = .ok (.iload_n 3, 1) := by decide +kernel
theorem dX11_cell_28 : decode cX11_cell 28 = .ok (.aload_n 0, 1) := by decide +kernel
theorem dX11_cell_29 : decode cX11_cell 29 = .ok (.getfield 13, 3) := by decide +kernel
theorem dX11_cell_32 : decode cX11_cell 32 = .ok (.iload_n 1, 1) := by decide +kernel
theorem dX11_cell_33 : decode cX11_cell 33 = .ok (.iaload, 1) := by decide +kernel
theorem dX11_cell_34 : decode cX11_cell 34 = .ok (.if_icmp .gt 7, 3) := by decide +kernel
theorem dX11_cell_37 : decode cX11_cell 37 = .ok (.iconst 0, 1) := by decide +kernel
theorem dX11_cell_38 : decode cX11_cell 38 = .ok (.goto 4, 3) := by decide +kernel
theorem dX11_cell_41 : decode cX11_cell 41 = .ok (.iconst 1, 1) := by decide +kernel
theorem dX11_cell_42 : decode cX11_cell 42 = .ok (.putfield 56, 3) := by decide +kernel
theorem dX11_cell_45 : decode cX11_cell 45 = .ok (.aload_n 0, 1) := by decide +kernel
theorem dX11_cell_46 : decode cX11_cell 46 = .ok (.getfield 56, 3) := by decide +kernel
theorem dX11_cell_49 : decode cX11_cell 49 = .ok (.ifCond .le 5, 3) := by decide +kernel
theorem dX11_cell_52 : decode cX11_cell 52 = .ok (.iconst 0, 1) := by decide +kernel
theorem dX11_cell_53 : decode cX11_cell 53 = .ok (.ireturn, 1) := by decide +kernel
theorem dX11_cell_54 : decode cX11_cell 54 = .ok (.iload_n 3, 1) := by decide +kernel
theorem dX11_cell_55 : decode cX11_cell 55 = .ok (.aload_n 0, 1) := by decide +kernel
theorem dX11_cell_56 : decode cX11_cell 56 = .ok (.getfield 13, 3) := by decide +kernel
theorem dX11_cell_59 : decode cX11_cell 59 = .ok (.iload_n 1, 1) := by decide +kernel
theorem dX11_cell_60 : decode cX11_cell 60 = .ok (.iaload, 1) := by decide +kernel
theorem dX11_cell_61 : decode cX11_cell 61 = .ok (.if_icmp .ne 17, 3) := by decide +kernel
theorem dX11_cell_64 : decode cX11_cell 64 = .ok (.aload_n 0, 1) := by decide +kernel
theorem dX11_cell_65 : decode cX11_cell 65 = .ok (.getfield 38, 3) := by decide +kernel
theorem dX11_cell_68 : decode cX11_cell 68 = .ok (.bipush 20, 2) := by decide +kernel
theorem dX11_cell_70 : decode cX11_cell 70 = .ok (.iload_n 1, 1) := by decide +kernel
theorem dX11_cell_71 : decode cX11_cell 71 = .ok (.imul, 1) := by decide +kernel
theorem dX11_cell_72 : decode cX11_cell 72 = .ok (.iload_n 2, 1) := by decide +kernel
theorem dX11_cell_73 : decode cX11_cell 73 = .ok (.iadd, 1) := by decide +kernel
theorem dX11_cell_74 : decode cX11_cell 74 = .ok (.iaload, 1) := by decide +kernel
theorem dX11_cell_75 : decode cX11_cell 75 = .ok (.goto 18, 3) := by decide +kernel
theorem dX11_cell_78 : decode cX11_cell 78 = .ok (.aload_n 0, 1) := by decide +kernel
theorem dX11_cell_79 : decode cX11_cell 79 = .ok (.getfield 35, 3) := by decide +kernel
theorem dX11_cell_82 : decode cX11_cell 82 = .ok (.iconst 4, 1) := by decide +kernel
theorem dX11_cell_83 : decode cX11_cell 83 = .ok (.bipush 20, 2) := by decide +kernel
theorem dX11_cell_85 : decode cX11_cell 85 = .ok (.iload_n 1, 1) := by decide +kernel
theorem dX11_cell_86 : decode cX11_cell 86 = .ok (.imul, 1) := by decide +kernel
theorem dX11_cell_87 : decode cX11_cell 87 = .ok (.iload_n 2, 1) := by decide +kernel
theorem dX11_cell_88 : decode cX11_cell 88 = .ok (.iadd, 1) := by decide +kernel
theorem dX11_cell_89 : decode cX11_cell 89 = .ok (.imul, 1) := by decide +kernel
theorem dX11_cell_90 : decode cX11_cell 90 = .ok (.iload_n 3, 1) := by decide +kernel
theorem dX11_cell_91 : decode cX11_cell 91 = .ok (.iadd, 1) := by decide +kernel
theorem dX11_cell_92 : decode cX11_cell 92 = .ok (.iaload, 1) := by decide +kernel
theorem dX11_cell_93 : decode cX11_cell 93 = .ok (.ireturn, 1) := by decide +kernel
theorem dX11_changed_0 : decode cX11_changed 0 = .ok (.aload_n 0, 1) := by decide +kernel
theorem dX11_changed_1 : decode cX11_changed 1 = .ok (.aload_n 0, 1) := by decide +kernel
theorem dX11_changed_2 : decode cX11_changed 2 = .ok (.iload_n 1, 1) := by decide +kernel
theorem dX11_changed_3 : decode cX11_changed 3 = .ok (.invokevirtual 113, 3) := by decide +kernel
theorem dX11_changed_6 : decode cX11_changed 6 = .ok (.ifCond .eq 7, 3) := by decide +kernel
theorem dX11_changed_9 : decode cX11_changed 9 = .ok (.iconst 0, 1) := by decide +kernel
theorem dX11_changed_10 : decode cX11_changed 10 = .ok (.goto 4, 3) := by decide +kernel
theorem dX11_changed_13 : decode cX11_changed 13 = .ok (.iconst 1, 1) := by decide +kernel
theorem dX11_changed_14 : decode cX11_changed 14 = .ok (.putfield 56, 3) := by decide +kernel
theorem dX11_changed_17 : decode cX11_changed 17 = .ok (.aload_n 0, 1) := by decide +kernel
theorem dX11_changed_18 : decode cX11_changed 18 = .ok (.getfield 56, 3) := by decide +kernel
theorem dX11_changed_21 : decode cX11_changed 21 = .ok (.ifCond .le 7, 3) := by decide +kernel
theorem dX11_changed_24 : decode cX11_changed 24 = .ok (.iconst 0, 1) := by decide +kernel
theorem dX11_changed_25 : decode cX11_changed 25 = .ok (.goto 9, 3) := by decide +kernel
theorem dX11_changed_28 : decode cX11_changed 28 = .ok (.aload_n 0, 1) := by decide +kernel
theorem dX11_changed_29 : decode cX11_changed 29 = .ok (.getfield 32, 3) := by decide +kernel
theorem dX11_changed_32 : decode cX11_changed 32 = .ok (.iload_n 1, 1) := by decide +kernel
theorem dX11_changed_33 : decode cX11_changed 33 = .ok (.iaload, 1) := by decide +kernel
theorem dX11_changed_34 : decode cX11_changed 34 = .ok (.ireturn, 1) := by decide +kernel
theorem dX11_count_0 : decode cX11_count 0 = .ok (.aload_n 0, 1) := by decide +kernel
theorem dX11_count_1 : decode cX11_count 1 = .ok (.iload_n 1, 1) := by decide +kernel
theorem dX11_count_2 : decode cX11_count 2 = .ok (.ifCond .lt 12, 3) := by decide +kernel
theorem dX11_count_5 : decode cX11_count 5 = .ok (.iload_n 1, 1) := by decide +kernel
theorem dX11_count_6 : decode cX11_count 6 = .ok (.iconst 2, 1) := by decide +kernel
theorem dX11_count_7 : decode cX11_count 7 = .ok (.if_icmp .gt 7, 3) := by decide +kernel
theorem dX11_count_10 : decode cX11_count 10 = .ok (.iconst 0, 1) := by decide +kernel
theorem dX11_count_11 : decode cX11_count 11 = .ok (.goto 4, 3) := by decide +kernel
theorem dX11_count_14 : decode cX11_count 14 = .ok (.iconst 1, 1) := by decide +kernel
theorem dX11_count_15 : decode cX11_count 15 = .ok (.putfield 56, 3) := by decide +kernel
theorem dX11_count_18 : decode cX11_count 18 = .ok (.aload_n 0, 1) := by decide +kernel
theorem dX11_count_19 : decode cX11_count 19 = .ok (.getfield 56, 3) := by decide +kernel
theorem dX11_count_22 : decode cX11_count 22 = .ok (.ifCond .le 5, 3) := by decide +kernel
theorem dX11_count_25 : decode cX11_count 25 = .ok (.iconst 0, 1) := by decide +kernel
theorem dX11_count_26 : decode cX11_count 26 = .ok (.ireturn, 1) := by decide +kernel
theorem dX11_count_27 : decode cX11_count 27 = .ok (.iconst 0, 1) := by decide +kernel
theorem dX11_count_28 : decode cX11_count 28 = .ok (.istore_n 2, 1) := by decide +kernel
theorem dX11_count_29 : decode cX11_count 29 = .ok (.iconst 0, 1) := by decide +kernel
theorem dX11_count_30 : decode cX11_count 30 = .ok (.istore_n 3, 1) := by decide +kernel
theorem dX11_count_31 : decode cX11_count 31 = .ok (.iconst 0, 1) := by decide +kernel
theorem dX11_count_32 : decode cX11_count 32 = .ok (.istore 4, 2) := by decide +kernel
theorem dX11_count_34 : decode cX11_count 34 = .ok (.iconst 0, 1) := by decide +kernel
theorem dX11_count_35 : decode cX11_count 35 = .ok (.istore 5, 2) := by decide +kernel
theorem dX11_count_37 : decode cX11_count 37 = .ok (.iload 5, 2) := by decide +kernel
theorem dX11_count_39 : decode cX11_count 39 = .ok (.bipush 8, 2) := by decide +kernel
theorem dX11_count_41 : decode cX11_count 41 = .ok (.if_icmp .ge 73, 3) := by decide +kernel
theorem dX11_count_44 : decode cX11_count 44 = .ok (.aload_n 0, 1) := by decide +kernel
theorem dX11_count_45 : decode cX11_count 45 = .ok (.getfield 7, 3) := by decide +kernel
theorem dX11_count_48 : decode cX11_count 48 = .ok (.iload 5, 2) := by decide +kernel
theorem dX11_count_50 : decode cX11_count 50 = .ok (.iaload, 1) := by decide +kernel
theorem dX11_count_51 : decode cX11_count 51 = .ok (.ifCond .le 9, 3) := by decide +kernel
theorem dX11_count_54 : decode cX11_count 54 = .ok (.iload_n 2, 1) := by decide +kernel
theorem dX11_count_55 : decode cX11_count 55 = .ok (.iconst 1, 1) := by decide +kernel
theorem dX11_count_56 : decode cX11_count 56 = .ok (.iadd, 1) := by decide +kernel
theorem dX11_count_57 : decode cX11_count 57 = .ok (.goto 4, 3) := by decide +kernel
theorem dX11_count_60 : decode cX11_count 60 = .ok (.iload_n 2, 1) := by decide +kernel
theorem dX11_count_61 : decode cX11_count 61 = .ok (.istore_n 2, 1) := by decide +kernel
theorem dX11_count_62 : decode cX11_count 62 = .ok (.aload_n 0, 1) := by decide +kernel
theorem dX11_count_63 : decode cX11_count 63 = .ok (.getfield 7, 3) := by decide +kernel
theorem dX11_count_66 : decode cX11_count 66 = .ok (.iload 5, 2) := by decide +kernel
theorem dX11_count_68 : decode cX11_count 68 = .ok (.iaload, 1) := by decide +kernel
theorem dX11_count_69 : decode cX11_count 69 = .ok (.iconst 1, 1) := by decide +kernel
theorem dX11_count_70 : decode cX11_count 70 = .ok (.if_icmp .ne 9, 3) := by decide +kernel
theorem dX11_count_73 : decode cX11_count 73 = .ok (.iload_n 3, 1) := by decide +kernel
theorem dX11_count_74 : decode cX11_count 74 = .ok (.iconst 1, 1) := by decide +kernel
theorem dX11_count_75 : decode cX11_count 75 = .ok (.iadd, 1) := by decide +kernel
theorem dX11_count_76 : decode cX11_count 76 = .ok (.goto 4, 3) := by decide +kernel
theorem dX11_count_79 : decode cX11_count 79 = .ok (.iload_n 3, 1) := by decide +kernel
theorem dX11_count_80 : decode cX11_count 80 = .ok (.istore_n 3, 1) := by decide +kernel
theorem dX11_count_81 : decode cX11_count 81 = .ok (.aload_n 0, 1) := by decide +kernel
theorem dX11_count_82 : decode cX11_count 82 = .ok (.getfield 7, 3) := by decide +kernel
theorem dX11_count_85 : decode cX11_count 85 = .ok (.iload 5, 2) := by decide +kernel
theorem dX11_count_87 : decode cX11_count 87 = .ok (.iaload, 1) := by decide +kernel
theorem dX11_count_88 : decode cX11_count 88 = .ok (.ifCond .le 16, 3) := by decide +kernel
theorem dX11_count_91 : decode cX11_count 91 = .ok (.iload 4, 2) := by decide +kernel
theorem dX11_count_93 : decode cX11_count 93 = .ok (.aload_n 0, 1) := by decide +kernel
theorem dX11_count_94 : decode cX11_count 94 = .ok (.getfield 41, 3) := by decide +kernel
theorem dX11_count_97 : decode cX11_count 97 = .ok (.iload 5, 2) := by decide +kernel
theorem dX11_count_99 : decode cX11_count 99 = .ok (.iaload, 1) := by decide +kernel
theorem dX11_count_100 : decode cX11_count 100 = .ok (.iadd, 1) := by decide +kernel
theorem dX11_count_101 : decode cX11_count 101 = .ok (.goto 5, 3) := by decide +kernel
theorem dX11_count_104 : decode cX11_count 104 = .ok (.iload 4, 2) := by decide +kernel
theorem dX11_count_106 : decode cX11_count 106 = .ok (.istore 4, 2) := by decide +kernel
theorem dX11_count_108 : decode cX11_count 108 = .ok (.iinc 5 1, 3) := by decide +kernel
theorem dX11_count_111 : decode cX11_count 111 = .ok (.goto (-74), 3) := by decide +kernel
theorem dX11_count_114 : decode cX11_count 114 = .ok (.iload_n 1, 1) := by decide +kernel
theorem dX11_count_115 : decode cX11_count 115 = .ok (.ifCond .ne 7, 3) := by decide +kernel
theorem dX11_count_118 : decode cX11_count 118 = .ok (.iload_n 2, 1) := by decide +kernel
theorem dX11_count_119 : decode cX11_count 119 = .ok (.goto 14, 3) := by decide +kernel
theorem dX11_count_122 : decode cX11_count 122 = .ok (.iload_n 1, 1) := by decide +kernel
theorem dX11_count_123 : decode cX11_count 123 = .ok (.iconst 1, 1) := by decide +kernel
theorem dX11_count_124 : decode cX11_count 124 = .ok (.if_icmp .ne 7, 3) := by decide +kernel
theorem dX11_count_127 : decode cX11_count 127 = .ok (.iload_n 3, 1) := by decide +kernel
theorem dX11_count_128 : decode cX11_count 128 = .ok (.goto 5, 3) := by decide +kernel
theorem dX11_count_131 : decode cX11_count 131 = .ok (.iload 4, 2) := by decide +kernel
theorem dX11_count_133 : decode cX11_count 133 = .ok (.ireturn, 1) := by decide +kernel
